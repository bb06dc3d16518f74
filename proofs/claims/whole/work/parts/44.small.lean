set_option maxRecDepth 10000 in
set_option maxHeartbeats 2000000 in
theorem c_sig1 {d : Nat} (hd : 1 ≤ d) {σ : am_M} {u : Nat} (hu : u < 256) {Q : am_Q} (hq : Q (some (.int (nI 1))) σ) : am_C d 141 [.int (nI u)] σ Q := by
  refine am_enter' (M := M_X9_isSignalSet) rfl rfl rfl (by omega) (ls := [some (.int (nI u))]) rfl (fun d' hd' => ?_)
  refine am_run 1 (pc' := 1) (ls' := [some (.int (nI u))]) (st' := [.int (nI u)]) (σ' := σ) rfl ?_
  refine am_if (ty := 15) (tn := 4) rfl (by decide) rfl rfl (fun (h_1 : nI u < 0) => ?_) (fun (h_1 : ¬ (nI u < 0)) => ?_)
  · have h_1 : u < 0 := (am_nlt0 (by omega)).mp h_1
    exact absurd h_1 (Nat.not_lt_zero _)
  have h_1 : ¬ (u < 0) := fun z => h_1 ((am_nlt0 (by omega)).mpr z)
  refine am_run 2 (pc' := 8) (ls' := [some (.int (nI u))]) (st' := [.int (nI 255), .int (nI u)]) (σ' := σ) rfl ?_
  refine am_ic (ty := 15) (tn := 11) rfl (by decide) rfl rfl (fun (h_2 : nI 255 < nI u) => ?_) (fun (h_2 : ¬ (nI 255 < nI u)) => ?_)
  · have h_2 : 255 < u := (nI_ltI (by omega) (by omega)).mp h_2
    omega
  have h_2 : ¬ (255 < u) := fun z => h_2 ((nI_ltI (by omega) (by omega)).mpr z)
  refine am_run 2 (pc' := 16) (ls' := [some (.int (nI u))]) (st' := [.int (nI 1)]) (σ' := σ) rfl ?_
  refine am_retz rfl rfl (by decide) ?_
  exact hq
set_option maxRecDepth 10000 in
set_option maxHeartbeats 2000000 in
theorem c_sig0 {d : Nat} (hd : 1 ≤ d) {σ : am_M} {y : Int32} (h : y < 0 ∨ (¬ y < 0 ∧ nI 255 < y)) {Q : am_Q} (hq : Q (some (.int (nI 0))) σ) : am_C d 141 [.int y] σ Q := by
  rcases h with hx | ⟨hx0, hx⟩
  · skip
    refine am_enter' (M := M_X9_isSignalSet) rfl rfl rfl (by omega) (ls := [some (.int y)]) rfl (fun d' hd' => ?_)
    refine am_run 1 (pc' := 1) (ls' := [some (.int y)]) (st' := [.int y]) (σ' := σ) rfl ?_
    refine am_if (ty := 15) (tn := 4) rfl (by decide) rfl rfl (fun (h_1 : y < 0) => ?_) (fun (h_1 : ¬ (y < 0)) => ?_)
    rotate_left
    · exact absurd hx h_1
    refine am_run 1 (pc' := 16) (ls' := [some (.int y)]) (st' := [.int (nI 0)]) (σ' := σ) rfl ?_
    refine am_retz rfl rfl (by decide) ?_
    exact hq
  · skip
    refine am_enter' (M := M_X9_isSignalSet) rfl rfl rfl (by omega) (ls := [some (.int y)]) rfl (fun d' hd' => ?_)
    refine am_run 1 (pc' := 1) (ls' := [some (.int y)]) (st' := [.int y]) (σ' := σ) rfl ?_
    refine am_if (ty := 15) (tn := 4) rfl (by decide) rfl rfl (fun (h_1 : y < 0) => ?_) (fun (h_1 : ¬ (y < 0)) => ?_)
    · exact absurd h_1 hx0
    refine am_run 2 (pc' := 8) (ls' := [some (.int y)]) (st' := [.int (nI 255), .int y]) (σ' := σ) rfl ?_
    refine am_ic (ty := 15) (tn := 11) rfl (by decide) rfl rfl (fun (h_2 : nI 255 < y) => ?_) (fun (h_2 : ¬ (nI 255 < y)) => ?_)
    rotate_left
    · exact absurd hx h_2
    refine am_run 1 (pc' := 16) (ls' := [some (.int y)]) (st' := [.int (nI 0)]) (σ' := σ) rfl ?_
    refine am_retz rfl rfl (by decide) ?_
    exact hq
set_option maxRecDepth 10000 in
set_option maxHeartbeats 2000000 in
theorem c_in1 {d : Nat} (hd : 1 ≤ d) {σ : am_M} {u a b : Nat} (h1 : a ≤ u) (h2 : u ≤ b) (hb : b < 2 ^ 31) {Q : am_Q} (hq : Q (some (.int (nI 1))) σ) : am_C d 148 [.int (nI u), .int (nI a), .int (nI b)] σ Q := by
  refine am_enter' (M := M_X10_in) rfl rfl rfl (by omega) (ls := [some (.int (nI u)), some (.int (nI a)), some (.int (nI b))]) rfl (fun d' hd' => ?_)
  refine am_run 2 (pc' := 2) (ls' := [some (.int (nI u)), some (.int (nI a)), some (.int (nI b))]) (st' := [.int (nI a), .int (nI u)]) (σ' := σ) rfl ?_
  refine am_ic (ty := 14) (tn := 5) rfl (by decide) rfl rfl (fun (h_1 : nI u < nI a) => ?_) (fun (h_1 : ¬ (nI u < nI a)) => ?_)
  · have h_1 : u < a := (nI_ltI (by omega) (by omega)).mp h_1
    omega
  have h_1 : ¬ (u < a) := fun z => h_1 ((nI_ltI (by omega) (by omega)).mpr z)
  refine am_run 2 (pc' := 7) (ls' := [some (.int (nI u)), some (.int (nI a)), some (.int (nI b))]) (st' := [.int (nI b), .int (nI u)]) (σ' := σ) rfl ?_
  refine am_ic (ty := 14) (tn := 10) rfl (by decide) rfl rfl (fun (h_2 : nI b < nI u) => ?_) (fun (h_2 : ¬ (nI b < nI u)) => ?_)
  · have h_2 : b < u := (nI_ltI (by omega) (by omega)).mp h_2
    omega
  have h_2 : ¬ (b < u) := fun z => h_2 ((nI_ltI (by omega) (by omega)).mpr z)
  refine am_run 2 (pc' := 15) (ls' := [some (.int (nI u)), some (.int (nI a)), some (.int (nI b))]) (st' := [.int (nI 1)]) (σ' := σ) rfl ?_
  refine am_retz rfl rfl (by decide) ?_
  exact hq
set_option maxRecDepth 10000 in
set_option maxHeartbeats 2000000 in
theorem c_in0 {d : Nat} (hd : 1 ≤ d) {σ : am_M} {y : Int32} {b : Nat} (h : y < 0 ∨ (¬ y < 0 ∧ nI b < y)) {Q : am_Q} (hq : Q (some (.int (nI 0))) σ) : am_C d 148 [.int y, .int (nI 0), .int (nI b)] σ Q := by
  rcases h with hx | ⟨hx0, hx⟩
  · skip
    refine am_enter' (M := M_X10_in) rfl rfl rfl (by omega) (ls := [some (.int y), some (.int (nI 0)), some (.int (nI b))]) rfl (fun d' hd' => ?_)
    refine am_run 2 (pc' := 2) (ls' := [some (.int y), some (.int (nI 0)), some (.int (nI b))]) (st' := [.int (nI 0), .int y]) (σ' := σ) rfl ?_
    refine am_ic (ty := 14) (tn := 5) rfl (by decide) rfl rfl (fun (h_1 : y < nI 0) => ?_) (fun (h_1 : ¬ (y < nI 0)) => ?_)
    rotate_left
    · exact absurd hx h_1
    refine am_run 1 (pc' := 15) (ls' := [some (.int y), some (.int (nI 0)), some (.int (nI b))]) (st' := [.int (nI 0)]) (σ' := σ) rfl ?_
    refine am_retz rfl rfl (by decide) ?_
    exact hq
  · skip
    refine am_enter' (M := M_X10_in) rfl rfl rfl (by omega) (ls := [some (.int y), some (.int (nI 0)), some (.int (nI b))]) rfl (fun d' hd' => ?_)
    refine am_run 2 (pc' := 2) (ls' := [some (.int y), some (.int (nI 0)), some (.int (nI b))]) (st' := [.int (nI 0), .int y]) (σ' := σ) rfl ?_
    refine am_ic (ty := 14) (tn := 5) rfl (by decide) rfl rfl (fun (h_1 : y < nI 0) => ?_) (fun (h_1 : ¬ (y < nI 0)) => ?_)
    · exact absurd h_1 hx0
    refine am_run 2 (pc' := 7) (ls' := [some (.int y), some (.int (nI 0)), some (.int (nI b))]) (st' := [.int (nI b), .int y]) (σ' := σ) rfl ?_
    refine am_ic (ty := 14) (tn := 10) rfl (by decide) rfl rfl (fun (h_2 : nI b < y) => ?_) (fun (h_2 : ¬ (nI b < y)) => ?_)
    rotate_left
    · exact absurd hx h_2
    refine am_run 1 (pc' := 15) (ls' := [some (.int y), some (.int (nI 0)), some (.int (nI b))]) (st' := [.int (nI 0)]) (σ' := σ) rfl ?_
    refine am_retz rfl rfl (by decide) ?_
    exact hq
set_option maxRecDepth 10000 in
set_option maxHeartbeats 2000000 in
theorem c_in0n {d : Nat} (hd : 1 ≤ d) {σ : am_M} {u a b : Nat} (hu : u < 2 ^ 31) (ha : a < 2 ^ 31) (hb : b < 2 ^ 31) (h : u < a ∨ b < u) {Q : am_Q} (hq : Q (some (.int (nI 0))) σ) : am_C d 148 [.int (nI u), .int (nI a), .int (nI b)] σ Q := by
  refine am_enter' (M := M_X10_in) rfl rfl rfl (by omega) (ls := [some (.int (nI u)), some (.int (nI a)), some (.int (nI b))]) rfl (fun d' hd' => ?_)
  refine am_run 2 (pc' := 2) (ls' := [some (.int (nI u)), some (.int (nI a)), some (.int (nI b))]) (st' := [.int (nI a), .int (nI u)]) (σ' := σ) rfl ?_
  refine am_ic (ty := 14) (tn := 5) rfl (by decide) rfl rfl (fun (h_1 : nI u < nI a) => ?_) (fun (h_1 : ¬ (nI u < nI a)) => ?_)
  · have h_1 : u < a := (nI_ltI (by omega) (by omega)).mp h_1
    refine am_run 1 (pc' := 15) (ls' := [some (.int (nI u)), some (.int (nI a)), some (.int (nI b))]) (st' := [.int (nI 0)]) (σ' := σ) rfl ?_
    refine am_retz rfl rfl (by decide) ?_
    exact hq
  · have h_1 : ¬ (u < a) := fun z => h_1 ((nI_ltI (by omega) (by omega)).mpr z)
    refine am_run 2 (pc' := 7) (ls' := [some (.int (nI u)), some (.int (nI a)), some (.int (nI b))]) (st' := [.int (nI b), .int (nI u)]) (σ' := σ) rfl ?_
    refine am_ic (ty := 14) (tn := 10) rfl (by decide) rfl rfl (fun (h_2 : nI b < nI u) => ?_) (fun (h_2 : ¬ (nI b < nI u)) => ?_)
    rotate_left
    · have h_2 : ¬ (b < u) := fun z => h_2 ((nI_ltI (by omega) (by omega)).mpr z)
      omega
    have h_2 : b < u := (nI_ltI (by omega) (by omega)).mp h_2
    refine am_run 1 (pc' := 15) (ls' := [some (.int (nI u)), some (.int (nI a)), some (.int (nI b))]) (st' := [.int (nI 0)]) (σ' := σ) rfl ?_
    refine am_retz rfl rfl (by decide) ?_
    exact hq
set_option maxRecDepth 10000 in
set_option maxHeartbeats 2000000 in
theorem c_bring_loop {d : Nat} {σ0 : am_M} {c0 c1 n0 n1 a b n : Nat} (hk0 : am_kind c0 = 100) (hl0 : am_len c0 = n0) (hk1 : am_kind c1 = 100) (hl1 : am_len c1 = n1) (hs0 : n0 < 2 ^ 31) (hs1 : n1 < 2 ^ 31) (ha : a + n ≤ n0) (hb : b + n ≤ n1) (hne : c0 ≠ c1 ∨ b ≤ a) {Q : am_Q} (hq : ∀ σ', (∀ c, c ≠ c1 → σ'.1 c = σ0.1 c) → σ'.2 = σ0.2 → (∀ k, k < n → σ'.1 c1 (b + k) = σ0.1 c0 (a + k)) → (∀ x, x < b ∨ b + n ≤ x → σ'.1 c1 x = σ0.1 c1 x) → Q none σ') : ∀ (m k : Nat) (σ' : am_M), k + m = n → (∀ c, c ≠ c1 → σ'.1 c = σ0.1 c) → σ'.2 = σ0.2 → (∀ i, i < k → σ'.1 c1 (b + i) = σ0.1 c0 (a + i)) → (∀ x, x < b ∨ b + k ≤ x → σ'.1 c1 x = σ0.1 c1 x) → am_G d M_X10_bring Q 3 [some (.ref c0), some (.int (nI a)), some (.ref c1), some (.int (nI b)), some (.int (nI n)), some (.int (nI k))] [] σ'
  | 0, k, σ', hm, h1, h2, h3, h4 => by
    refine am_run 2 (pc' := 7) (ls' := [some (.ref c0), some (.int (nI a)), some (.ref c1), some (.int (nI b)), some (.int (nI n)), some (.int (nI k))]) (st' := [.int (nI n), .int (nI k)]) (σ' := σ') rfl ?_
    refine am_ic (ty := 10) (tn := 28) rfl (by decide) rfl rfl (fun (h_1 : nI k < nI n) => ?_) (fun (h_1 : ¬ (nI k < nI n)) => ?_)
    · have h_1 : k < n := (nI_ltI (by omega) (by omega)).mp h_1
      omega
    have h_1 : ¬ (k < n) := fun z => h_1 ((nI_ltI (by omega) (by omega)).mpr z)
    refine am_retv rfl rfl ?_
    have e : k = n := by omega
    subst e
    exact hq σ' h1 h2 h3 h4
  | m + 1, k, σ', hm, h1, h2, h3, h4 => by
    have hrd : σ'.1 c0 (a + k) = σ0.1 c0 (a + k) := by
      by_cases e : c0 = c1
      · subst e
        exact h4 _ (Or.inr (by have := hne.resolve_left (fun z => z rfl); omega))
      · rw [h1 _ e]
    refine am_run 2 (pc' := 7) (ls' := [some (.ref c0), some (.int (nI a)), some (.ref c1), some (.int (nI b)), some (.int (nI n)), some (.int (nI k))]) (st' := [.int (nI n), .int (nI k)]) (σ' := σ') rfl ?_
    refine am_ic (ty := 10) (tn := 28) rfl (by decide) rfl rfl (fun (h_1 : nI k < nI n) => ?_) (fun (h_1 : ¬ (nI k < nI n)) => ?_)
    rotate_left
    · have h_1 : ¬ (k < n) := fun z => h_1 ((nI_ltI (by omega) (by omega)).mpr z)
      omega
    have h_1 : k < n := (nI_ltI (by omega) (by omega)).mp h_1
    refine am_run 4 (pc' := 15) (ls' := [some (.ref c0), some (.int (nI a)), some (.ref c1), some (.int (nI b)), some (.int (nI n)), some (.int (nI k))]) (st' := [.int (nI b + nI k), .ref c1]) (σ' := σ') rfl ?_
    refine am_top (v' := nI (b + k)) (nI_add _ _) ?_
    refine am_run 4 (pc' := 20) (ls' := [some (.ref c0), some (.int (nI a)), some (.ref c1), some (.int (nI b)), some (.int (nI n)), some (.int (nI k))]) (st' := [.int (nI a + nI k), .ref c0, .int (nI (b + k)), .ref c1]) (σ' := σ') rfl ?_
    refine am_top (v' := nI (a + k)) (nI_add _ _) ?_
    refine am_ialdN (n := n0) (v := σ0.1 c0 (a + k)) rfl hk0 hl0 (by omega) hrd hs0 ?_
    refine am_iastN (n := n1) rfl hk1 hl1 (by omega) hs1 ?_
    refine am_run 1 (pc' := 25) (ls' := [some (.ref c0), some (.int (nI a)), some (.ref c1), some (.int (nI b)), some (.int (nI n)), some (.int (nI k + nI 1))]) (st' := []) (σ' := (am_wr σ' c1 (b + k) (σ0.1 c0 (a + k)))) rfl ?_
    refine am_ls (ls' := [some (.ref c0), some (.int (nI a)), some (.ref c1), some (.int (nI b)), some (.int (nI n)), some (.int (nI (k + 1)))]) (by rw [nI_add]) ?_
    refine am_run 1 (pc' := 3) (ls' := [some (.ref c0), some (.int (nI a)), some (.ref c1), some (.int (nI b)), some (.int (nI n)), some (.int (nI (k + 1)))]) (st' := []) (σ' := (am_wr σ' c1 (b + k) (σ0.1 c0 (a + k)))) rfl ?_
    refine c_bring_loop hk0 hl0 hk1 hl1 hs0 hs1 ha hb hne hq m (k + 1) _ (by omega) (fun c hc => by rw [am_wr_ne _ hc]; exact h1 c hc) h2 (fun i hi => ?_) (fun x hx => by rw [am_diff _ _ _ _ _ (by omega)]; exact h4 x (by omega))
    by_cases e : i = k
    · subst e; rw [am_same]
    · rw [am_diff _ _ _ _ _ (by omega)]; exact h3 i (by omega)
set_option maxRecDepth 10000 in
set_option maxHeartbeats 2000000 in
theorem c_bring {d : Nat} (hd : 1 ≤ d) {σ0 : am_M} {c0 c1 n0 n1 a b n : Nat} (hk0 : am_kind c0 = 100) (hl0 : am_len c0 = n0) (hk1 : am_kind c1 = 100) (hl1 : am_len c1 = n1) (hs0 : n0 < 2 ^ 31) (hs1 : n1 < 2 ^ 31) (ha : a + n ≤ n0) (hb : b + n ≤ n1) (hne : c0 ≠ c1 ∨ b ≤ a) {Q : am_Q} (hq : ∀ σ', (∀ c, c ≠ c1 → σ'.1 c = σ0.1 c) → σ'.2 = σ0.2 → (∀ k, k < n → σ'.1 c1 (b + k) = σ0.1 c0 (a + k)) → (∀ x, x < b ∨ b + n ≤ x → σ'.1 c1 x = σ0.1 c1 x) → Q none σ') : am_C d 180 [.ref c0, .int (nI a), .ref c1, .int (nI b), .int (nI n)] σ0 Q := by
  refine am_enter' (M := M_X10_bring) rfl rfl rfl (by omega) (ls := [some (.ref c0), some (.int (nI a)), some (.ref c1), some (.int (nI b)), some (.int (nI n)), none]) rfl (fun d' hd' => ?_)
  refine am_run 2 (pc' := 3) (ls' := [some (.ref c0), some (.int (nI a)), some (.ref c1), some (.int (nI b)), some (.int (nI n)), some (.int (nI 0))]) (st' := []) (σ' := σ0) rfl ?_
  exact c_bring_loop hk0 hl0 hk1 hl1 hs0 hs1 ha hb hne hq n 0 σ0 (by omega) (fun _ _ => rfl) rfl (fun i z => absurd z (Nat.not_lt_zero _)) (fun _ _ => rfl)
/-- how many of the first k bits are set -/
def pcn (s : Nat) : Nat → Nat
  | 0 => 0
  | k + 1 => pcn s k + s / 2 ^ k % 2
theorem pcn_le (s : Nat) : ∀ k, pcn s k ≤ k
  | 0 => Nat.le_refl 0
  | k + 1 => by
    have := pcn_le s k
    unfold pcn
    omega
set_option maxRecDepth 10000 in
set_option maxHeartbeats 2000000 in
theorem c_ones_loop {d : Nat} {σ : am_M} {s : Nat} (hs : s < 2 ^ 31) {Q : am_Q} (hq : Q (some (.int (nI (pcn s 21)))) σ) : ∀ (m k : Nat), k + m = 21 → am_G d M_X10_ones Q 4 [some (.int (nI s)), some (.int (nI (pcn s k))), some (.int (nI k))] [] σ
  | 0, k, hm => by
    have e : k = 21 := by omega
    subst e
    refine am_run 2 (pc' := 7) (ls' := [some (.int (nI s)), some (.int (nI (pcn s 21))), some (.int (nI 21))]) (st' := [.int (nI 21), .int (nI 21)]) (σ' := σ) rfl ?_
    refine am_ic (ty := 10) (tn := 24) rfl (by decide) rfl rfl (fun (h_1 : nI 21 < nI 21) => ?_) (fun (h_1 : ¬ (nI 21 < nI 21)) => ?_)
    · exact absurd h_1 (by decide)
    refine am_run 1 (pc' := 25) (ls' := [some (.int (nI s)), some (.int (nI (pcn s 21))), some (.int (nI 21))]) (st' := [.int (nI (pcn s 21))]) (σ' := σ) rfl ?_
    refine am_reti rfl rfl ?_
    exact hq
  | m + 1, k, hm => by
    have hpl := pcn_le s k
    refine am_run 2 (pc' := 7) (ls' := [some (.int (nI s)), some (.int (nI (pcn s k))), some (.int (nI k))]) (st' := [.int (nI 21), .int (nI k)]) (σ' := σ) rfl ?_
    refine am_ic (ty := 10) (tn := 24) rfl (by decide) rfl rfl (fun (h_1 : nI k < nI 21) => ?_) (fun (h_1 : ¬ (nI k < nI 21)) => ?_)
    rotate_left
    · have h_1 : ¬ (k < 21) := fun z => h_1 ((nI_ltI (by omega) (by omega)).mpr z)
      omega
    have h_1 : k < 21 := (nI_ltI (by omega) (by omega)).mp h_1
    refine am_run 6 (pc' := 16) (ls' := [some (.int (nI s)), some (.int (nI (pcn s k))), some (.int (nI k))]) (st' := [.int (((nI s) >>> ((nI k) &&& 31)) &&& nI 1), .int (nI (pcn s k))]) (σ' := σ) rfl ?_
    refine am_top (v' := nI (s / 2 ^ k % 2)) (by rw [nx_shr hs (by omega), show nI 1 = nI (2 - 1) from rfl, nx_mask (k := 1) _ rfl]) ?_
    refine am_run 1 (pc' := 17) (ls' := [some (.int (nI s)), some (.int (nI (pcn s k))), some (.int (nI k))]) (st' := [.int (nI (pcn s k) + nI (s / 2 ^ k % 2))]) (σ' := σ) rfl ?_
    refine am_top (v' := nI (pcn s k + (s / 2 ^ k % 2))) (nI_add _ _) ?_
    refine am_run 2 (pc' := 21) (ls' := [some (.int (nI s)), some (.int (nI (pcn s k + (s / 2 ^ k % 2)))), some (.int (nI k + nI 1))]) (st' := []) (σ' := σ) rfl ?_
    refine am_ls (ls' := [some (.int (nI s)), some (.int (nI (pcn s k + (s / 2 ^ k % 2)))), some (.int (nI (k + 1)))]) (by rw [nI_add]) ?_
    refine am_run 1 (pc' := 4) (ls' := [some (.int (nI s)), some (.int (nI (pcn s k + (s / 2 ^ k % 2)))), some (.int (nI (k + 1)))]) (st' := []) (σ' := σ) rfl ?_
    exact c_ones_loop hs hq m (k + 1) (by omega)
set_option maxRecDepth 10000 in
set_option maxHeartbeats 2000000 in
theorem c_ones {d : Nat} (hd : 1 ≤ d) {σ : am_M} {s : Nat} (hs : s < 2 ^ 31) {Q : am_Q} (hq : Q (some (.int (nI (pcn s 21)))) σ) : am_C d 150 [.int (nI s)] σ Q := by
  refine am_enter' (M := M_X10_ones) rfl rfl rfl (by omega) (ls := [some (.int (nI s)), none, none]) rfl (fun d' hd' => ?_)
  refine am_run 4 (pc' := 4) (ls' := [some (.int (nI s)), some (.int (nI 0)), some (.int (nI 0))]) (st' := []) (σ' := σ) rfl ?_
  exact c_ones_loop hs hq 21 0 rfl
theorem nx_ushr {a k : Nat} (ha : a < 2 ^ 31) (hk : k < 32) : ((nI a).toUInt32 >>> ((nI k).toUInt32 &&& Int32.toUInt32 31)).toInt32 = nI (a / 2 ^ k) := by
  apply Int32.toBitVec_inj.1
  show ((nI a).toUInt32 >>> ((nI k).toUInt32 &&& Int32.toUInt32 31)).toBitVec = BitVec.ofNat 32 (a / 2 ^ k)
  apply BitVec.eq_of_toNat_eq
  show ((nI a).toUInt32 >>> ((nI k).toUInt32 &&& Int32.toUInt32 31)).toNat = _
  rw [UInt32.toNat_shiftRight]
  have e1 : (nI a).toUInt32.toNat = a := by
    show (BitVec.ofNat 32 a).toNat = a
    rw [BitVec.toNat_ofNat]
    exact Nat.mod_eq_of_lt (by omega)
  have e2 : ∀ k, k < 32 → ((nI k).toUInt32 &&& Int32.toUInt32 31).toNat % 32 = k := by decide +kernel
  rw [e1, e2 k hk, Nat.shiftRight_eq_div_pow, BitVec.toNat_ofNat]
  exact (Nat.mod_eq_of_lt (Nat.lt_of_le_of_lt (Nat.div_le_self _ _) (by omega))).symm
theorem nx_sub {a b : Nat} (h : b ≤ a) : nI a - nI b = nI (a - b) := by
  have e : nI a = nI (a - b) + nI b := by rw [nI_add, Nat.sub_add_cancel h]
  rw [e]
  apply Int32.toBitVec_inj.1
  rw [Int32.toBitVec_sub, Int32.toBitVec_add]
  exact BitVec.add_sub_cancel _ _
/-- the steps of bitCount -/
def b_1 (M s : Nat) : Nat := s - (s / 2 &&& M)
def b_2 (M s : Nat) : Nat := (s &&& M) + (s / 4 &&& M)
def b_3 (M s : Nat) : Nat := (s + s / 16) &&& M
theorem div_bit (s j i : Nat) : (s / 2 ^ j).testBit i = s.testBit (i + j) := by
  rw [Nat.testBit_div_two_pow]
theorem b_dm {a b M j : Nat} (ha : a < 256) (m : Nat) (hm : m < 256) (hj : ∀ i, i < 8 → m.testBit i = true → i + j < 8) : (a + 256 * b) / 2 ^ j &&& (m + 256 * M) = (a / 2 ^ j &&& m) + 256 * (b / 2 ^ j &&& M) := by
  refine pq_ext (Nat.lt_of_le_of_lt Nat.and_le_right hm) (fun i => ?_)
  rw [Nat.testBit_and, div_bit, pq_bit ha, pq_bit hm, Nat.testBit_and, Nat.testBit_and, div_bit, div_bit]
  by_cases h8 : i < 8
  · rw [if_pos h8, if_pos h8]
    rcases bt (m.testBit i) with e | e
    · rw [if_pos (hj i h8 e)]
    · rw [e, Bool.and_false, Bool.and_false]
  · rw [if_neg h8, if_neg h8, if_neg (by omega), show i + j - 8 = i - 8 + j by omega]
theorem b_1s {a b M : Nat} (ha : a < 256) : b_1 (85 + 256 * M) (a + 256 * b) = b_1 85 a + 256 * b_1 M b := by
  unfold b_1
  have e := b_dm (b := b) (M := M) (j := 1) ha 85 (by decide) (by decide)
  rw [show (2 : Nat) ^ 1 = 2 from rfl] at e
  rw [e]
  have h1 : a / 2 &&& 85 ≤ a / 2 := Nat.and_le_left
  have h2 : b / 2 &&& M ≤ b / 2 := Nat.and_le_left
  omega
theorem b_2s {a b M : Nat} (ha : a < 256) : b_2 (51 + 256 * M) (a + 256 * b) = b_2 51 a + 256 * b_2 M b := by
  unfold b_2
  have e := b_dm (b := b) (M := M) (j := 2) ha 51 (by decide) (by decide)
  rw [show (2 : Nat) ^ 2 = 4 from rfl] at e
  rw [e, pq_and ha (by decide)]
  omega
theorem b_m {a b M : Nat} (ha : a < 256) : (a + 256 * b) &&& (15 + 256 * M) = (a % 16) + 256 * (b &&& M) := by
  rw [pq_and ha (by decide), show (15 : Nat) = 2 ^ 4 - 1 from rfl, Nat.and_two_pow_sub_one_eq_mod]
def bb (a : Nat) : Nat := b_2 51 (b_1 85 a)
theorem bb_f : ∀ a, a < 256 → b_1 85 a < 256 ∧ bb a % 16 ≤ 4 ∧ bb a / 16 ≤ 4 ∧ bb a % 16 + bb a / 16 = pcn a 8 := by decide +kernel
theorem bit_v (s k : Nat) : s / 2 ^ k % 2 = (s.testBit k).toNat := by
  rw [nx_tb]
  rcases (show s / 2 ^ k % 2 = 0 ∨ s / 2 ^ k % 2 = 1 by omega) with e | e <;> rw [e] <;> rfl
theorem pcn_lo {a b : Nat} (ha : a < 256) : ∀ k, k ≤ 8 → pcn (a + 256 * b) k = pcn a k
  | 0, _ => rfl
  | k + 1, h => by
    unfold pcn
    rw [pcn_lo ha k (by omega), bit_v, bit_v, pq_bit ha, if_pos (by omega)]
theorem pcn_hi {a b : Nat} (ha : a < 256) : ∀ k, pcn (a + 256 * b) (8 + k) = pcn a 8 + pcn b k
  | 0 => pcn_lo ha 8 (Nat.le_refl 8)
  | k + 1 => by
    show pcn (a + 256 * b) (8 + k) + (a + 256 * b) / 2 ^ (8 + k) % 2 = pcn a 8 + (pcn b k + b / 2 ^ k % 2)
    rw [pcn_hi ha k, bit_v, bit_v, pq_bit ha, if_neg (by omega), show 8 + k - 8 = k by omega]
    omega
theorem pcn_5 : ∀ c, c < 32 → pcn c 5 = pcn c 8 := by decide +kernel
def bcn (s : Nat) : Nat := b_3 252645135 (b_2 858993459 (b_1 1431655765 s))
theorem bcn_eq {s : Nat} (hs : s < 2 ^ 21) : ∃ x y z, x ≤ 8 ∧ y ≤ 8 ∧ z ≤ 8 ∧ bcn s = x + 256 * y + 65536 * z ∧ pcn s 21 = x + y + z ∧ b_1 1431655765 s < 2 ^ 30 ∧ b_2 858993459 (b_1 1431655765 s) < 2 ^ 30 := by
  obtain ⟨a, b, c, ha, hb, hc, rfl⟩ : ∃ a b c, a < 256 ∧ b < 256 ∧ c < 32 ∧ s = a + 256 * (b + 256 * c) := ⟨s % 256, s / 256 % 256, s / 65536, by omega, by omega, by omega, by omega⟩
  obtain ⟨a1, a2, a3, a4⟩ := bb_f a ha
  obtain ⟨b1, b2, b3, b4⟩ := bb_f b hb
  obtain ⟨c1, c2, c3, c4⟩ := bb_f c (by omega)
  have e1 : b_1 1431655765 (a + 256 * (b + 256 * c)) = b_1 85 a + 256 * (b_1 85 b + 256 * b_1 85 c) := by
    rw [show 1431655765 = 85 + 256 * (85 + 256 * 21845) from rfl, b_1s ha, b_1s hb]
    have : ∀ c, c < 32 → b_1 21845 c = b_1 85 c := by decide +kernel
    rw [this c hc]
  have e2 : b_2 858993459 (b_1 1431655765 (a + 256 * (b + 256 * c))) = bb a + 256 * (bb b + 256 * bb c) := by
    rw [e1, show 858993459 = 51 + 256 * (51 + 256 * 13107) from rfl, b_2s a1, b_2s b1]
    have : ∀ c, c < 32 → b_2 13107 (b_1 85 c) = bb c := by decide +kernel
    rw [this c hc]
    rfl
  refine ⟨bb a % 16 + bb a / 16, bb b % 16 + bb b / 16, bb c % 16 + bb c / 16, by omega, by omega, by omega, ?_, ?_, by rw [e1]; omega, by rw [e2]; omega⟩
  · unfold bcn
    rw [e2]
    unfold b_3
    generalize bb a = x at *
    generalize bb b = y at *
    generalize bb c = z at *
    have ex : (x + 256 * (y + 256 * z)) + (x + 256 * (y + 256 * z)) / 16 = (x + x / 16 + 16 * (y % 16)) + 256 * ((y + y / 16 + 16 * (z % 16)) + 256 * (z + z / 16 + 256 * 0)) := by omega
    rw [ex, show 252645135 = 15 + 256 * (15 + 256 * (15 + 256 * 15)) from rfl, b_m (by omega), b_m (by omega), b_m (by omega), Nat.zero_and]
    have m1 : (x + x / 16 + 16 * (y % 16)) % 16 = x % 16 + x / 16 := by omega
    have m2 : (y + y / 16 + 16 * (z % 16)) % 16 = y % 16 + y / 16 := by omega
    have m3 : (z + z / 16) % 16 = z % 16 + z / 16 := by omega
    rw [m1, m2, m3]
    omega
  · rw [show 21 = 8 + 13 from rfl, pcn_hi ha, show 13 = 8 + 5 from rfl, pcn_hi hb, pcn_5 c hc, a4, b4, c4]
    omega
theorem bcn_end {x y z : Nat} (hx : x ≤ 8) (hy : y ≤ 8) (hz : z ≤ 8) : (x + 256 * y + 65536 * z + (x + 256 * y + 65536 * z) / 256 + (x + 256 * y + 65536 * z + (x + 256 * y + 65536 * z) / 256) / 65536) % 64 = x + y + z := by
  have e1 : (x + 256 * y + 65536 * z) / 256 = y + 256 * z := by omega
  rw [e1]
  have e2 : (x + 256 * y + 65536 * z + (y + 256 * z)) / 65536 = z := by omega
  rw [e2]
  omega
set_option maxRecDepth 10000 in
set_option maxHeartbeats 2000000 in
theorem c_bitCount {d : Nat} (hd : 1 ≤ d) {σ : am_M} {s : Nat} (hs : s < 2 ^ 21) {Q : am_Q} (hq : Q (some (.int (nI (pcn s 21)))) σ) : am_C d 254 [.int (nI s)] σ Q := by
  obtain ⟨x, y, z, hx, hy, hz, e, ep, h1, h2⟩ := bcn_eq hs
  have hb3 : bcn s < 2 ^ 24 := by omega
  have hb2 : (b_1 1431655765 s &&& 858993459) ≤ b_1 1431655765 s := Nat.and_le_left
  have hb20 : (s / 2 &&& 1431655765) ≤ s / 2 := Nat.and_le_left
  refine am_enter' (M := M_J6_bitCount_0f7a4) rfl rfl rfl (by omega) (ls := [some (.int (nI s))]) rfl (fun d' hd' => ?_)
  refine am_run 7 (pc' := 9) (ls' := [some (.int (nI s))]) (st' := [.int (nI s - ((((nI s).toUInt32 >>> ((nI 1).toUInt32 &&& Int32.toUInt32 31)).toInt32) &&& nI 1431655765))]) (σ' := σ) rfl ?_
  refine am_top (v' := nI (b_1 1431655765 s)) (by rw [nx_ushr (by omega) (by decide), nx_and, nx_sub (by have : s / 2 ^ 1 &&& 1431655765 ≤ s / 2 ^ 1 := Nat.and_le_left; omega)]; rfl) ?_
  refine am_run 10 (pc' := 23) (ls' := [some (.int (nI (b_1 1431655765 s)))]) (st' := [.int ((nI (b_1 1431655765 s) &&& nI 858993459) + ((((nI (b_1 1431655765 s)).toUInt32 >>> ((nI 2).toUInt32 &&& Int32.toUInt32 31)).toInt32) &&& nI 858993459))]) (σ' := σ) rfl ?_
  refine am_top (v' := nI (b_2 858993459 (b_1 1431655765 s))) (by rw [nx_ushr (by omega) (by decide), nx_and, nx_and, nI_add]; rfl) ?_
  refine am_run 8 (pc' := 33) (ls' := [some (.int (nI (b_2 858993459 (b_1 1431655765 s))))]) (st' := [.int ((nI (b_2 858993459 (b_1 1431655765 s)) + (((nI (b_2 858993459 (b_1 1431655765 s))).toUInt32 >>> ((nI 4).toUInt32 &&& Int32.toUInt32 31)).toInt32)) &&& nI 252645135)]) (σ' := σ) rfl ?_
  refine am_top (v' := nI (bcn s)) (by rw [nx_ushr (by omega) (by decide), nI_add, nx_and]; rfl) ?_
  refine am_run 6 (pc' := 40) (ls' := [some (.int (nI (bcn s)))]) (st' := [.int (nI (bcn s) + (((nI (bcn s)).toUInt32 >>> ((nI 8).toUInt32 &&& Int32.toUInt32 31)).toInt32))]) (σ' := σ) rfl ?_
  refine am_top (v' := nI (bcn s + bcn s / 256)) (by rw [nx_ushr (by omega) (by decide), nI_add]) ?_
  refine am_run 6 (pc' := 47) (ls' := [some (.int (nI (bcn s + bcn s / 256)))]) (st' := [.int (nI (bcn s + bcn s / 256) + (((nI (bcn s + bcn s / 256)).toUInt32 >>> ((nI 16).toUInt32 &&& Int32.toUInt32 31)).toInt32))]) (σ' := σ) rfl ?_
  refine am_top (v' := nI (bcn s + bcn s / 256 + (bcn s + bcn s / 256) / 65536)) (by rw [nx_ushr (by omega) (by decide), nI_add]) ?_
  refine am_run 4 (pc' := 52) (ls' := [some (.int (nI (bcn s + bcn s / 256 + (bcn s + bcn s / 256) / 65536)))]) (st' := [.int (nI (bcn s + bcn s / 256 + (bcn s + bcn s / 256) / 65536) &&& nI 63)]) (σ' := σ) rfl ?_
  refine am_top (v' := nI (pcn s 21)) (by rw [show nI 63 = nI (64 - 1) from rfl, nx_mask (k := 6) _ rfl, ep, e, bcn_end hx hy hz]) ?_
  refine am_reti rfl rfl ?_
  exact hq

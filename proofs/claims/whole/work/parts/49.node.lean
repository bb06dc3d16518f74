section RowsT
variable {d : Nat} {M : am_I} {Q : am_Q} {pc : Nat} {ls : am_L} {σ : am_M}
theorem t3_get {t k : Nat} (hT : T3 t) (hk : k < 8) (σ : am_M) : am_get σ t k = .ref (t + (k + 1)) := by
  rcases hT with rfl | rfl | rfl <;> rcases (show k = 0 ∨ k = 1 ∨ k = 2 ∨ k = 3 ∨ k = 4 ∨ k = 5 ∨ k = 6 ∨ k = 7 by omega) with rfl | rfl | rfl | rfl | rfl | rfl | rfl | rfl <;> rfl
theorem t3_arr {t k : Nat} (hT : T3 t) (hk : 1 ≤ k ∧ k ≤ 8) : am_kind (t + k) = 100 ∧ am_len (t + k) = 60 := by
  rcases hT with rfl | rfl | rfl <;> rcases (show k = 1 ∨ k = 2 ∨ k = 3 ∨ k = 4 ∨ k = 5 ∨ k = 6 ∨ k = 7 ∨ k = 8 by omega) with rfl | rfl | rfl | rfl | rfl | rfl | rfl | rfl <;> exact ⟨rfl, rfl⟩
theorem am_getT {idx k k1 p t : Nat} {r : List Value} (hT : T3 t) (hi : am_lk (am_is M) pc = some (.getfield idx)) (hf : am_fld (am_w M) idx = some (k, p)) (hw : am_ci (am_w M) = 6) (hk : k < 8) (hk1 : k + 1 = k1) (t' : am_G d M Q (pc + 3) ls (.ref (t + k1) :: r) σ) : am_G d M Q pc ls (.ref t :: r) σ := by
  subst hk1
  refine am_T.fold (am_C_mon d) ⟨_, hi, pc + 3, ls, .ref (t + (k + 1)) :: r, σ, ?_, t'⟩
  unfold am_s1
  simp only [hf, t3_kind hT, hw, if_true, t3_get hT hk σ]
end RowsT
/-- how many of the first k -/
def cnb (f : Nat → Bool) : Nat → Nat
  | 0 => 0
  | k + 1 => cnb f k + (if f k = true then 1 else 0)
theorem cnb_le (f : Nat → Bool) : ∀ k, cnb f k ≤ k
  | 0 => Nat.le_refl 0
  | k + 1 => by
    have := cnb_le f k
    unfold cnb
    split <;> omega
theorem cnb_eq {f g : Nat → Bool} : ∀ k, (∀ o, o < k → f o = g o) → cnb f k = cnb g k
  | 0, _ => rfl
  | k + 1, h => by
    unfold cnb
    rw [cnb_eq k (fun o ho => h o (by omega)), h k (by omega)]
theorem cnb_one {f g : Nat → Bool} {c : Nat} (hf : f c = true) (hg : g c = false) : ∀ k, c < k → (∀ o, o < k → o ≠ c → f o = g o) → cnb f k = cnb g k + 1
  | 0, h, _ => absurd h (Nat.not_lt_zero _)
  | k + 1, h, he => by
    unfold cnb
    by_cases e : c = k
    · subst e
      rw [cnb_eq c (fun o ho => he o (by omega) (by omega)), hf, hg]
      simp
    · rw [cnb_one hf hg k (by omega) (fun o ho hn => he o (by omega) hn), he k (by omega) (by omega)]
      omega
theorem cnb_0 {f : Nat → Bool} : ∀ k, (∀ o, o < k → f o = false) → cnb f k = 0
  | 0, _ => rfl
  | k + 1, h => by
    unfold cnb
    rw [cnb_0 k (fun o ho => h o (by omega)), h k (by omega)]
    rfl
def inb (fs ls : Nat → Nat) (i o : Nat) : Bool := decide (o ≠ i ∧ fs o ≤ i ∧ i ≤ ls o)
theorem big3 {x : Int32} {n : Nat} (hn : 1 ≤ n) (h31 : n < 2 ^ 31) (h : nI (n - 1) < x) : ¬ x < nI n := by
  intro z
  rw [Int32.lt_iff_toInt_lt] at h z
  have e1 : (nI (n - 1)).toInt = ((n - 1 : Nat) : Int) := nI_toInt (by omega)
  have e2 : (nI n).toInt = (n : Int) := nI_toInt h31
  omega
theorem c_a_instN {d : Nat} (hd : 312 ≤ d) {σ : am_M} {t n k : Nat} {p : Pg} (hW : PW p n) (hR : TR σ t p n) (hk : k < n) {Q : am_Q} (hq : Q (some (.int (nI (an p 61 (k + 1) ST false 0 0).2.2.2))) σ) : am_C d 1 [.ref t, .int (nI k)] σ Q := by
  rw [← oI_s k]
  exact c_a_inst hd hW hR (by omega) hq
set_option maxRecDepth 10000 in
set_option maxHeartbeats 2000000 in
theorem c_has_out {d : Nat} (hd : 1 ≤ d) {σ : am_M} {t n : Nat} (hT3 : T3 t) (hsz : σ.1 t 8 = nI n) (hn1 : 1 ≤ n) (hn60 : n ≤ 60) {y : Int32} (h : y < 0 ∨ (¬ y < 0 ∧ nI (n - 1) < y)) {Q : am_Q} (hq : Q (some (.int (nI 0))) σ) : am_C d 106 [.ref t, .int y] σ Q := by
  rcases h with hx | ⟨hx0, hx⟩
  · skip
    refine am_enter' (M := M_X8_has) rfl rfl rfl (by omega) (ls := [some (.ref t), some (.int y)]) rfl (fun d' hd' => ?_)
    refine am_run 1 (pc' := 1) (ls' := [some (.ref t), some (.int y)]) (st' := [.int y]) (σ' := σ) rfl ?_
    refine am_if (ty := 22) (tn := 4) rfl (by decide) rfl rfl (fun (h_1 : y < 0) => ?_) (fun (h_1 : ¬ (y < 0)) => ?_)
    rotate_left
    · exact absurd hx h_1
    refine am_run 1 (pc' := 23) (ls' := [some (.ref t), some (.int y)]) (st' := [.int (nI 0)]) (σ' := σ) rfl ?_
    refine am_retz rfl rfl (by decide) ?_
    exact hq
  · skip
    refine am_enter' (M := M_X8_has) rfl rfl rfl (by omega) (ls := [some (.ref t), some (.int y)]) rfl (fun d' hd' => ?_)
    refine am_run 1 (pc' := 1) (ls' := [some (.ref t), some (.int y)]) (st' := [.int y]) (σ' := σ) rfl ?_
    refine am_if (ty := 22) (tn := 4) rfl (by decide) rfl rfl (fun (h_1 : y < 0) => ?_) (fun (h_1 : ¬ (y < 0)) => ?_)
    · exact absurd h_1 hx0
    refine am_run 2 (pc' := 6) (ls' := [some (.ref t), some (.int y)]) (st' := [.ref t, .int y]) (σ' := σ) rfl ?_
    refine am_getI (k := 8) rfl rfl (t3_kind hT3) rfl ?_
    refine am_top (v' := nI n) hsz ?_
    refine am_ic (ty := 12) (tn := 22) rfl (by decide) rfl rfl (fun (h_2 : y < nI n) => ?_) (fun (h_2 : ¬ (y < nI n)) => ?_)
    · exact absurd h_2 (big3 hn1 (by omega) hx)
    refine am_run 1 (pc' := 23) (ls' := [some (.ref t), some (.int y)]) (st' := [.int (nI 0)]) (σ' := σ) rfl ?_
    refine am_retz rfl rfl (by decide) ?_
    exact hq
set_option maxRecDepth 10000 in
set_option maxHeartbeats 2000000 in
theorem c_containedIn {d : Nat} (hd : 4 ≤ d) {σ : am_M} {t n : Nat} {p : Pg} (hW : PW p n) (hR : TR σ t p n) {k f l : Nat} (hk : k < n) (h6 : σ.1 (t + 6) k = nI f) (h7 : σ.1 (t + 7) k = nI l) (hfl : f ≤ l) {Q : am_Q} (hq : Q (some (.int (nI (l - f)))) σ) : am_C d 120 [.ref t, .int (nI k)] σ Q := by
  have hT3 := hR.t3
  have hn60 := hW.1
  refine am_enter' (M := M_X8_containedIn) rfl rfl rfl (by omega) (ls := [some (.ref t), some (.int (nI k))]) rfl (fun d' hd' => ?_)
  refine am_run 2 (pc' := 2) (ls' := [some (.ref t), some (.int (nI k))]) (st' := [.int (nI k), .ref t]) (σ' := σ) rfl ?_
  refine am_invv (y := 106) (b := t) (as := [.int (nI k)]) (rest := []) rfl rfl rfl rfl rfl rfl (t3_kind hT3) (Nat.le_of_ble_eq_true rfl) ?_
  refine c_has (by omega) hW hR hk ?_
  show am_G _ M_X8_containedIn _ 5 [some (.ref t), some (.int (nI k))] [.int (nI 1)] σ
  refine am_if (ty := 24) (tn := 8) rfl (by decide) rfl rfl (fun (h_1 : nI 1 = 0) => ?_) (fun (h_1 : ¬ (nI 1 = 0)) => ?_)
  · exact absurd h_1 (by decide)
  refine am_run 1 (pc' := 9) (ls' := [some (.ref t), some (.int (nI k))]) (st' := [.ref t]) (σ' := σ) rfl ?_
  refine am_getT hT3 (k := 6) (k1 := 7) rfl rfl rfl (by decide) rfl ?_
  refine am_run 1 (pc' := 13) (ls' := [some (.ref t), some (.int (nI k))]) (st' := [.int (nI k), .ref (t + 7)]) (σ' := σ) rfl ?_
  refine am_ialdN (n := 60) (v := nI l) rfl (t3_arr hT3 (by decide)).1 (t3_arr hT3 (by decide)).2 (by omega) h7 (by decide) ?_
  refine am_run 1 (pc' := 15) (ls' := [some (.ref t), some (.int (nI k))]) (st' := [.ref t, .int (nI l)]) (σ' := σ) rfl ?_
  refine am_getT hT3 (k := 5) (k1 := 6) rfl rfl rfl (by decide) rfl ?_
  refine am_run 1 (pc' := 19) (ls' := [some (.ref t), some (.int (nI k))]) (st' := [.int (nI k), .ref (t + 6), .int (nI l)]) (σ' := σ) rfl ?_
  refine am_ialdN (n := 60) (v := nI f) rfl (t3_arr hT3 (by decide)).1 (t3_arr hT3 (by decide)).2 (by omega) h6 (by decide) ?_
  refine am_run 1 (pc' := 21) (ls' := [some (.ref t), some (.int (nI k))]) (st' := [.int (nI l - nI f)]) (σ' := σ) rfl ?_
  refine am_top (v' := nI (l - f)) (nx_sub hfl) ?_
  refine am_run 1 (pc' := 25) (ls' := [some (.ref t), some (.int (nI k))]) (st' := [.int (nI (l - f))]) (σ' := σ) rfl ?_
  refine am_reti rfl rfl ?_
  exact hq
set_option maxRecDepth 10000 in
set_option maxHeartbeats 2000000 in
theorem c_containing_loop {d : Nat} {σ : am_M} {t n : Nat} (hT3 : T3 t) (hsz : σ.1 t 8 = nI n) (hn60 : n ≤ 60) {fs ls : Nat → Nat} (hF : ∀ o, o < n → σ.1 (t + 6) o = nI (fs o) ∧ σ.1 (t + 7) o = nI (ls o) ∧ fs o < 60 ∧ ls o < 60) {i : Nat} (hi : i < 60) {Q : am_Q} (hq : Q (some (.int (nI (cnb (inb fs ls i) n)))) σ) : ∀ (m k : Nat), k + m = n → am_G d M_X8_containing Q 4 [some (.ref t), some (.int (nI i)), some (.int (nI (cnb (inb fs ls i) k))), some (.int (nI k))] [] σ
  | 0, k, hm => by
    have e : k = n := by omega
    subst e
    refine am_run 2 (pc' := 7) (ls' := [some (.ref t), some (.int (nI i)), some (.int (nI (cnb (inb fs ls i) k))), some (.int (nI k))]) (st' := [.int (nI 60), .int (nI k)]) (σ' := σ) rfl ?_
    refine am_ic (ty := 10) (tn := 52) rfl (by decide) rfl rfl (fun (h_1 : nI k < nI 60) => ?_) (fun (h_1 : ¬ (nI k < nI 60)) => ?_)
    · have h_1 : k < 60 := (nI_ltI (by omega) (by omega)).mp h_1
      refine am_run 2 (pc' := 12) (ls' := [some (.ref t), some (.int (nI i)), some (.int (nI (cnb (inb fs ls i) k))), some (.int (nI k))]) (st' := [.ref t, .int (nI k)]) (σ' := σ) rfl ?_
      refine am_getI (k := 8) rfl rfl (t3_kind hT3) rfl ?_
      refine am_top (v' := nI k) hsz ?_
      refine am_ic (ty := 18) (tn := 52) rfl (by decide) rfl rfl (fun (h_2 : nI k < nI k) => ?_) (fun (h_2 : ¬ (nI k < nI k)) => ?_)
      · have h_2 : k < k := (nI_ltI (by omega) (by omega)).mp h_2
        omega
      have h_2 : ¬ (k < k) := fun z => h_2 ((nI_ltI (by omega) (by omega)).mpr z)
      refine am_run 1 (pc' := 53) (ls' := [some (.ref t), some (.int (nI i)), some (.int (nI (cnb (inb fs ls i) k))), some (.int (nI k))]) (st' := [.int (nI (cnb (inb fs ls i) k))]) (σ' := σ) rfl ?_
      refine am_reti rfl rfl ?_
      exact hq
    · have h_1 : ¬ (k < 60) := fun z => h_1 ((nI_ltI (by omega) (by omega)).mpr z)
      refine am_run 1 (pc' := 53) (ls' := [some (.ref t), some (.int (nI i)), some (.int (nI (cnb (inb fs ls i) k))), some (.int (nI k))]) (st' := [.int (nI (cnb (inb fs ls i) k))]) (σ' := σ) rfl ?_
      refine am_reti rfl rfl ?_
      exact hq
  | m + 1, k, hm => by
    obtain ⟨f6, f7, f60, l60⟩ := hF k (by omega)
    have hcl := cnb_le (inb fs ls i) k
    refine am_run 2 (pc' := 7) (ls' := [some (.ref t), some (.int (nI i)), some (.int (nI (cnb (inb fs ls i) k))), some (.int (nI k))]) (st' := [.int (nI 60), .int (nI k)]) (σ' := σ) rfl ?_
    refine am_ic (ty := 10) (tn := 52) rfl (by decide) rfl rfl (fun (h_1 : nI k < nI 60) => ?_) (fun (h_1 : ¬ (nI k < nI 60)) => ?_)
    rotate_left
    · have h_1 : ¬ (k < 60) := fun z => h_1 ((nI_ltI (by omega) (by omega)).mpr z)
      omega
    have h_1 : k < 60 := (nI_ltI (by omega) (by omega)).mp h_1
    refine am_run 2 (pc' := 12) (ls' := [some (.ref t), some (.int (nI i)), some (.int (nI (cnb (inb fs ls i) k))), some (.int (nI k))]) (st' := [.ref t, .int (nI k)]) (σ' := σ) rfl ?_
    refine am_getI (k := 8) rfl rfl (t3_kind hT3) rfl ?_
    refine am_top (v' := nI n) hsz ?_
    refine am_ic (ty := 18) (tn := 52) rfl (by decide) rfl rfl (fun (h_2 : nI k < nI n) => ?_) (fun (h_2 : ¬ (nI k < nI n)) => ?_)
    rotate_left
    · have h_2 : ¬ (k < n) := fun z => h_2 ((nI_ltI (by omega) (by omega)).mpr z)
      omega
    have h_2 : k < n := (nI_ltI (by omega) (by omega)).mp h_2
    refine am_run 2 (pc' := 20) (ls' := [some (.ref t), some (.int (nI i)), some (.int (nI (cnb (inb fs ls i) k))), some (.int (nI k))]) (st' := [.int (nI i), .int (nI k)]) (σ' := σ) rfl ?_
    refine am_ic (ty := 46) (tn := 23) rfl (by decide) rfl rfl (fun (h_3 : nI k = nI i) => ?_) (fun (h_3 : ¬ (nI k = nI i)) => ?_)
    · have h_3 : k = i := (nI_eq (by omega) (by omega)).mp h_3
      refine am_run 1 (pc' := 49) (ls' := [some (.ref t), some (.int (nI i)), some (.int (nI (cnb (inb fs ls i) k))), some (.int (nI k + nI 1))]) (st' := []) (σ' := σ) rfl ?_
      refine am_ls (ls' := [some (.ref t), some (.int (nI i)), some (.int (nI (cnb (inb fs ls i) k))), some (.int (nI (k + 1)))]) (by rw [nI_add]) ?_
      refine am_run 1 (pc' := 4) (ls' := [some (.ref t), some (.int (nI i)), some (.int (nI (cnb (inb fs ls i) k))), some (.int (nI (k + 1)))]) (st' := []) (σ' := σ) rfl ?_
      have e : cnb (inb fs ls i) (k + 1) = cnb (inb fs ls i) k := by
        show cnb (inb fs ls i) k + (if inb fs ls i k = true then 1 else 0) = _
        rw [show inb fs ls i k = false by unfold inb; exact decide_eq_false (by omega)]
        rfl
      refine am_ls (ls' := [some (.ref t), some (.int (nI i)), some (.int (nI (cnb (inb fs ls i) (k + 1)))), some (.int (nI (k + 1)))]) (by rw [e]) ?_
      exact c_containing_loop hT3 hsz hn60 hF hi hq m (k + 1) (by omega)
    · have h_3 : ¬ (k = i) := fun z => h_3 ((nI_eq (by omega) (by omega)).mpr z)
      refine am_run 1 (pc' := 24) (ls' := [some (.ref t), some (.int (nI i)), some (.int (nI (cnb (inb fs ls i) k))), some (.int (nI k))]) (st' := [.ref t]) (σ' := σ) rfl ?_
      refine am_getT hT3 (k := 5) (k1 := 6) rfl rfl rfl (by decide) rfl ?_
      refine am_run 1 (pc' := 28) (ls' := [some (.ref t), some (.int (nI i)), some (.int (nI (cnb (inb fs ls i) k))), some (.int (nI k))]) (st' := [.int (nI k), .ref (t + 6)]) (σ' := σ) rfl ?_
      refine am_ialdN (n := 60) (v := nI (fs k)) rfl (t3_arr hT3 (by decide)).1 (t3_arr hT3 (by decide)).2 (by omega) f6 (by decide) ?_
      refine am_run 1 (pc' := 30) (ls' := [some (.ref t), some (.int (nI i)), some (.int (nI (cnb (inb fs ls i) k))), some (.int (nI k))]) (st' := [.int (nI i), .int (nI (fs k))]) (σ' := σ) rfl ?_
      refine am_ic (ty := 46) (tn := 33) rfl (by decide) rfl rfl (fun (h_4 : nI i < nI (fs k)) => ?_) (fun (h_4 : ¬ (nI i < nI (fs k))) => ?_)
      · have h_4 : i < fs k := (nI_ltI (by omega) (by omega)).mp h_4
        refine am_run 1 (pc' := 49) (ls' := [some (.ref t), some (.int (nI i)), some (.int (nI (cnb (inb fs ls i) k))), some (.int (nI k + nI 1))]) (st' := []) (σ' := σ) rfl ?_
        refine am_ls (ls' := [some (.ref t), some (.int (nI i)), some (.int (nI (cnb (inb fs ls i) k))), some (.int (nI (k + 1)))]) (by rw [nI_add]) ?_
        refine am_run 1 (pc' := 4) (ls' := [some (.ref t), some (.int (nI i)), some (.int (nI (cnb (inb fs ls i) k))), some (.int (nI (k + 1)))]) (st' := []) (σ' := σ) rfl ?_
        have e : cnb (inb fs ls i) (k + 1) = cnb (inb fs ls i) k := by
          show cnb (inb fs ls i) k + (if inb fs ls i k = true then 1 else 0) = _
          rw [show inb fs ls i k = false by unfold inb; exact decide_eq_false (by omega)]
          rfl
        refine am_ls (ls' := [some (.ref t), some (.int (nI i)), some (.int (nI (cnb (inb fs ls i) (k + 1)))), some (.int (nI (k + 1)))]) (by rw [e]) ?_
        exact c_containing_loop hT3 hsz hn60 hF hi hq m (k + 1) (by omega)
      · have h_4 : ¬ (i < fs k) := fun z => h_4 ((nI_ltI (by omega) (by omega)).mpr z)
        refine am_run 2 (pc' := 35) (ls' := [some (.ref t), some (.int (nI i)), some (.int (nI (cnb (inb fs ls i) k))), some (.int (nI k))]) (st' := [.ref t, .int (nI i)]) (σ' := σ) rfl ?_
        refine am_getT hT3 (k := 6) (k1 := 7) rfl rfl rfl (by decide) rfl ?_
        refine am_run 1 (pc' := 39) (ls' := [some (.ref t), some (.int (nI i)), some (.int (nI (cnb (inb fs ls i) k))), some (.int (nI k))]) (st' := [.int (nI k), .ref (t + 7), .int (nI i)]) (σ' := σ) rfl ?_
        refine am_ialdN (n := 60) (v := nI (ls k)) rfl (t3_arr hT3 (by decide)).1 (t3_arr hT3 (by decide)).2 (by omega) f7 (by decide) ?_
        refine am_ic (ty := 46) (tn := 43) rfl (by decide) rfl rfl (fun (h_5 : nI (ls k) < nI i) => ?_) (fun (h_5 : ¬ (nI (ls k) < nI i)) => ?_)
        · have h_5 : ls k < i := (nI_ltI (by omega) (by omega)).mp h_5
          refine am_run 1 (pc' := 49) (ls' := [some (.ref t), some (.int (nI i)), some (.int (nI (cnb (inb fs ls i) k))), some (.int (nI k + nI 1))]) (st' := []) (σ' := σ) rfl ?_
          refine am_ls (ls' := [some (.ref t), some (.int (nI i)), some (.int (nI (cnb (inb fs ls i) k))), some (.int (nI (k + 1)))]) (by rw [nI_add]) ?_
          refine am_run 1 (pc' := 4) (ls' := [some (.ref t), some (.int (nI i)), some (.int (nI (cnb (inb fs ls i) k))), some (.int (nI (k + 1)))]) (st' := []) (σ' := σ) rfl ?_
          have e : cnb (inb fs ls i) (k + 1) = cnb (inb fs ls i) k := by
            show cnb (inb fs ls i) k + (if inb fs ls i k = true then 1 else 0) = _
            rw [show inb fs ls i k = false by unfold inb; exact decide_eq_false (by omega)]
            rfl
          refine am_ls (ls' := [some (.ref t), some (.int (nI i)), some (.int (nI (cnb (inb fs ls i) (k + 1)))), some (.int (nI (k + 1)))]) (by rw [e]) ?_
          exact c_containing_loop hT3 hsz hn60 hF hi hq m (k + 1) (by omega)
        · have h_5 : ¬ (ls k < i) := fun z => h_5 ((nI_ltI (by omega) (by omega)).mpr z)
          refine am_run 1 (pc' := 46) (ls' := [some (.ref t), some (.int (nI i)), some (.int (nI (cnb (inb fs ls i) k) + nI 1)), some (.int (nI k))]) (st' := []) (σ' := σ) rfl ?_
          refine am_ls (ls' := [some (.ref t), some (.int (nI i)), some (.int (nI (cnb (inb fs ls i) k + 1))), some (.int (nI k))]) (by rw [nI_add]) ?_
          refine am_run 1 (pc' := 49) (ls' := [some (.ref t), some (.int (nI i)), some (.int (nI (cnb (inb fs ls i) k + 1))), some (.int (nI k + nI 1))]) (st' := []) (σ' := σ) rfl ?_
          refine am_ls (ls' := [some (.ref t), some (.int (nI i)), some (.int (nI (cnb (inb fs ls i) k + 1))), some (.int (nI (k + 1)))]) (by rw [nI_add]) ?_
          refine am_run 1 (pc' := 4) (ls' := [some (.ref t), some (.int (nI i)), some (.int (nI (cnb (inb fs ls i) k + 1))), some (.int (nI (k + 1)))]) (st' := []) (σ' := σ) rfl ?_
          have e : cnb (inb fs ls i) (k + 1) = cnb (inb fs ls i) k + 1 := by
            show cnb (inb fs ls i) k + (if inb fs ls i k = true then 1 else 0) = _
            rw [show inb fs ls i k = true by unfold inb; exact decide_eq_true (by omega)]
            rfl
          refine am_ls (ls' := [some (.ref t), some (.int (nI i)), some (.int (nI (cnb (inb fs ls i) (k + 1)))), some (.int (nI (k + 1)))]) (by rw [e]) ?_
          exact c_containing_loop hT3 hsz hn60 hF hi hq m (k + 1) (by omega)
set_option maxRecDepth 10000 in
set_option maxHeartbeats 2000000 in
theorem c_containing {d : Nat} (hd : 1 ≤ d) {σ : am_M} {t n : Nat} (hT3 : T3 t) (hsz : σ.1 t 8 = nI n) (hn60 : n ≤ 60) {fs ls : Nat → Nat} (hF : ∀ o, o < n → σ.1 (t + 6) o = nI (fs o) ∧ σ.1 (t + 7) o = nI (ls o) ∧ fs o < 60 ∧ ls o < 60) {i : Nat} (hi : i < 60) {Q : am_Q} (hq : Q (some (.int (nI (cnb (inb fs ls i) n)))) σ) : am_C d 121 [.ref t, .int (nI i)] σ Q := by
  refine am_enter' (M := M_X8_containing) rfl rfl rfl (by omega) (ls := [some (.ref t), some (.int (nI i)), none, none]) rfl (fun d' hd' => ?_)
  refine am_run 4 (pc' := 4) (ls' := [some (.ref t), some (.int (nI i)), some (.int (nI 0)), some (.int (nI 0))]) (st' := []) (σ' := σ) rfl ?_
  exact c_containing_loop hT3 hsz hn60 hF hi hq n 0 (by omega)
theorem inb_0 {fs ls : Nat → Nat} {i n : Nat} (h : ∀ o, o < n → o ≠ i → ¬ (fs o ≤ i ∧ i ≤ ls o)) : cnb (inb fs ls i) n = 0 :=
  cnb_0 n (fun o ho => decide_eq_false (fun z => h o ho z.1 z.2))
theorem inb_s {fs ls : Nat → Nat} {i q n : Nat} (hq : q < n) (hne : q ≠ i) (h1 : fs q ≤ i ∧ i ≤ ls q) (h2 : ¬ (fs i ≤ q ∧ q ≤ ls i)) (h3 : ∀ o, o < n → o ≠ i → o ≠ q → (fs o ≤ i ∧ i ≤ ls o ↔ fs o ≤ q ∧ q ≤ ls o)) : cnb (inb fs ls i) n = cnb (inb fs ls q) n + 1 := by
  refine cnb_one (c := q) (decide_eq_true ⟨hne, h1⟩) (decide_eq_false (fun z => z.1 rfl)) n hq (fun o ho hoq => ?_)
  unfold inb
  by_cases e : o = i
  · subst e
    rw [decide_eq_false (fun z => z.1 rfl), decide_eq_false (fun z => h2 z.2)]
  · have := h3 o ho e hoq
    by_cases z : fs o ≤ i ∧ i ≤ ls o
    · rw [decide_eq_true ⟨e, z⟩, decide_eq_true ⟨hoq, this.mp z⟩]
    · rw [decide_eq_false (fun y => z y.2), decide_eq_false (fun y => z (this.mpr y.2))]
set_option maxRecDepth 10000 in
set_option maxHeartbeats 2000000 in
theorem c_inHow_loop {d : Nat} {σ : am_M} {j n : Nat} (hj : j ≤ 2) (hn60 : n ≤ 60) {fs ls pa rk : Nat → Nat} (hrk : ∀ i, i < n → rk i < n) (hA : ∀ i, i < n → σ.1 15 (60 * j + i) = oI (pa i) ∧ pa i ≤ n ∧ (pa i = 0 → ∀ o, o < n → o ≠ i → ¬ (fs o ≤ i ∧ i ≤ ls o)) ∧ (pa i ≠ 0 → rk i < rk (pa i - 1) ∧ (fs (pa i - 1) ≤ i ∧ i ≤ ls (pa i - 1)) ∧ ¬ (fs i ≤ pa i - 1 ∧ pa i - 1 ≤ ls i) ∧ ∀ o, o < n → o ≠ i → o ≠ pa i - 1 → (fs o ≤ i ∧ i ≤ ls o ↔ fs o ≤ pa i - 1 ∧ pa i - 1 ≤ ls o))) {T : Nat} {Q : am_Q} (hq : Q (some (.int (nI T))) σ) {k0 : Nat} : ∀ (m i c : Nat), i < n → n ≤ rk i + m → c + cnb (inb fs ls i) n = T → c ≤ T → am_G d M_X10_inHowMany Q 18 [some (.ref 0), some (.int (nI k0)), some (.int (nI c)), some (.int (nI (60 * j))), some (.int (oI (pa i)))] [] σ
  | 0, i, c, hi, hm, _, _ => absurd (hrk i hi) (by omega)
  | m + 1, i, c, hi, hm, hc, hcT => by
    obtain ⟨h15, hpn, h0, h1⟩ := hA i hi
    have hcl := cnb_le (inb fs ls i) n
    by_cases e : pa i = 0
    · have ec := inb_0 (h0 e)
      have eT : c = T := by omega
      subst eT
      rw [e, oI_0]
      refine am_run 2 (pc' := 21) (ls' := [some (.ref 0), some (.int (nI k0)), some (.int (nI c)), some (.int (nI (60 * j))), some (.int (-1))]) (st' := [.int (-1), .int (-1)]) (σ' := σ) rfl ?_
      refine am_ic (ty := 41) (tn := 24) rfl (by decide) rfl rfl (fun (h_1 : -1 = -1) => ?_) (fun (h_1 : ¬ (-1 = -1)) => ?_)
      rotate_left
      · exact absurd (by decide) h_1
      refine am_run 1 (pc' := 42) (ls' := [some (.ref 0), some (.int (nI k0)), some (.int (nI c)), some (.int (nI (60 * j))), some (.int (-1))]) (st' := [.int (nI c)]) (σ' := σ) rfl ?_
      refine am_reti rfl rfl ?_
      exact hq
    · obtain ⟨g1, g2, g3, g4⟩ := h1 e
      have hpn2 : pa i - 1 < n := by omega
      have es := inb_s hpn2 (fun z => by rw [z] at g1; exact Nat.lt_irrefl _ g1) g2 g3 g4
      obtain ⟨k15, -⟩ := hA (pa i - 1) hpn2
      rw [oI_p (show 1 ≤ pa i by omega)]
      refine am_run 2 (pc' := 21) (ls' := [some (.ref 0), some (.int (nI k0)), some (.int (nI c)), some (.int (nI (60 * j))), some (.int (nI (pa i - 1)))]) (st' := [.int (-1), .int (nI (pa i - 1))]) (σ' := σ) rfl ?_
      refine am_ic (ty := 41) (tn := 24) rfl (by decide) rfl rfl (fun (h_1 : nI (pa i - 1) = -1) => ?_) (fun (h_1 : ¬ (nI (pa i - 1) = -1)) => ?_)
      · exact absurd h_1 (am_nm1 (by omega))
      refine am_run 1 (pc' := 27) (ls' := [some (.ref 0), some (.int (nI k0)), some (.int (nI c + nI 1)), some (.int (nI (60 * j))), some (.int (nI (pa i - 1)))]) (st' := []) (σ' := σ) rfl ?_
      refine am_ls (ls' := [some (.ref 0), some (.int (nI k0)), some (.int (nI (c + 1))), some (.int (nI (60 * j))), some (.int (nI (pa i - 1)))]) (by rw [nI_add]) ?_
      refine am_run 5 (pc' := 35) (ls' := [some (.ref 0), some (.int (nI k0)), some (.int (nI (c + 1))), some (.int (nI (60 * j))), some (.int (nI (pa i - 1)))]) (st' := [.int (nI (60 * j) + nI (pa i - 1)), .ref 15]) (σ' := σ) rfl ?_
      refine am_top (v' := nI (60 * j + (pa i - 1))) (nI_add _ _) ?_
      refine am_ialdN (n := 180) (v := oI (pa (pa i - 1))) rfl rfl rfl (by omega) (by exact k15) (by decide) ?_
      refine am_run 2 (pc' := 18) (ls' := [some (.ref 0), some (.int (nI k0)), some (.int (nI (c + 1))), some (.int (nI (60 * j))), some (.int (oI (pa (pa i - 1))))]) (st' := []) (σ' := σ) rfl ?_
      exact c_inHow_loop hj hn60 hrk hA hq m (pa i - 1) (c + 1) hpn2 (by omega) (by omega) (by omega)
set_option maxRecDepth 10000 in
set_option maxHeartbeats 2000000 in
theorem c_inHow {d : Nat} (hd : 1 ≤ d) {σ : am_M} {j n : Nat} (hj : j ≤ 2) (hn60 : n ≤ 60) {fs ls pa rk : Nat → Nat} (hrk : ∀ i, i < n → rk i < n) (hA : ∀ i, i < n → σ.1 15 (60 * j + i) = oI (pa i) ∧ pa i ≤ n ∧ (pa i = 0 → ∀ o, o < n → o ≠ i → ¬ (fs o ≤ i ∧ i ≤ ls o)) ∧ (pa i ≠ 0 → rk i < rk (pa i - 1) ∧ (fs (pa i - 1) ≤ i ∧ i ≤ ls (pa i - 1)) ∧ ¬ (fs i ≤ pa i - 1 ∧ pa i - 1 ≤ ls i) ∧ ∀ o, o < n → o ≠ i → o ≠ pa i - 1 → (fs o ≤ i ∧ i ≤ ls o ↔ fs o ≤ pa i - 1 ∧ pa i - 1 ≤ ls o))) {i : Nat} (hi : i < n) {Q : am_Q} (hq : Q (some (.int (nI (cnb (inb fs ls i) n)))) σ) : am_C d 251 [.ref 0, .int (nI (60 * j + i))] σ Q := by
  refine am_enter' (M := M_X10_inHowMany) rfl rfl rfl (by omega) (ls := [some (.ref 0), some (.int (nI (60 * j + i))), none, none, none]) rfl (fun d' hd' => ?_)
  refine am_run 5 (pc' := 6) (ls' := [some (.ref 0), some (.int (nI (60 * j + i))), some (.int (nI 0)), none, none]) (st' := [.int (nI (60 * j + i) / nI 60)]) (σ' := σ) rfl ?_
  refine am_top (v' := nI j) (by rw [pk_div (by omega) (by decide) (by decide)]; congr 1; omega) ?_
  refine am_run 2 (pc' := 9) (ls' := [some (.ref 0), some (.int (nI (60 * j + i))), some (.int (nI 0)), none, none]) (st' := [.int (nI j * nI 60)]) (σ' := σ) rfl ?_
  refine am_top (v' := nI (j * 60)) (am_nmul _ _) ?_
  refine am_top (v' := nI (60 * j)) (by rw [Nat.mul_comm]) ?_
  refine am_run 4 (pc' := 15) (ls' := [some (.ref 0), some (.int (nI (60 * j + i))), some (.int (nI 0)), some (.int (nI (60 * j))), none]) (st' := [.int (nI (60 * j + i)), .ref 15]) (σ' := σ) rfl ?_
  refine am_ialdN (n := 180) (v := oI (pa i)) rfl rfl rfl (by omega) (hA i hi).1 (by decide) ?_
  refine am_run 1 (pc' := 18) (ls' := [some (.ref 0), some (.int (nI (60 * j + i))), some (.int (nI 0)), some (.int (nI (60 * j))), some (.int (oI (pa i)))]) (st' := []) (σ' := σ) rfl ?_
  exact c_inHow_loop hj hn60 hrk hA hq n i 0 hi (by omega) (by omega) (by omega)
set_option maxRecDepth 10000 in
set_option maxHeartbeats 2000000 in
theorem pr_node {d : Nat} (hd : 600 ≤ d) {σ : am_M} (hI : Inv σ) (x y z : Int32) : PR d 137 252 [.int x, .int y, .int z] σ := by
  rcases pl_cases hI x with hN | ⟨rfl, hF⟩ | ⟨rfl, hF⟩
  · refine ⟨-1000001, ?_⟩
    refine am_enter' (M := M_X9_node) rfl rfl rfl (by omega) (ls := [some (.ref 41), some (.int x), some (.int y), some (.int z), none, none]) rfl (fun d' hd' => ?_)
    refine am_run 2 (pc' := 2) (ls' := [some (.ref 41), some (.int x), some (.int y), some (.int z), none, none]) (st' := [.int x, .ref 41]) (σ' := σ) rfl ?_
    refine am_invv (y := 140) (b := 41) (as := [.int x]) (rest := []) rfl rfl rfl rfl rfl rfl rfl (Nat.le_of_ble_eq_true rfl) ?_
    refine c_nf (by omega) hN ?_
    show am_G _ M_X9_node _ 5 [some (.ref 41), some (.int x), some (.int y), some (.int z), none, none] [.null] σ
    refine am_run 4 (pc' := 26) (ls' := [some (.ref 41), some (.int x), some (.int y), some (.int z), some (.null), none]) (st' := [.int (-1000001)]) (σ' := σ) rfl ?_
    refine am_reti rfl rfl ?_
    refine ⟨rfl, ?_⟩
    refine am_enter' (M := M_X10_node) rfl rfl rfl (by omega) (ls := [some (.ref 0), some (.int x), some (.int y), some (.int z), none]) rfl (fun d2 hd2 => ?_)
    refine am_run 2 (pc' := 2) (ls' := [some (.ref 0), some (.int x), some (.int y), some (.int z), none]) (st' := [.int x, .ref 0]) (σ' := σ) rfl ?_
    refine am_invv (y := 151) (b := 0) (as := [.int x]) (rest := []) rfl rfl rfl rfl rfl rfl rfl (Nat.le_of_ble_eq_true rfl) ?_
    refine c_np (by omega) hN ?_
    show am_G _ M_X10_node _ 5 [some (.ref 0), some (.int x), some (.int y), some (.int z), none] [.int (nI 0)] σ
    refine am_if (ty := 24) (tn := 8) rfl (by decide) rfl rfl (fun (h_101 : nI 0 = 0) => ?_) (fun (h_101 : ¬ (nI 0 = 0)) => ?_)
    rotate_left
    · exact absurd (by decide) h_101
    refine am_run 1 (pc' := 26) (ls' := [some (.ref 0), some (.int x), some (.int y), some (.int z), none]) (st' := [.int (-1000001)]) (σ' := σ) rfl ?_
    refine am_reti rfl rfl ?_
    exact ⟨rfl, hI⟩
  · obtain ⟨hf, p, n, r, kk, rk, od, dp, ow, s, m, hP, hH⟩ := hF
    obtain ⟨hn1, hR, hro, hM, hk1, hk2, hkk, hND⟩ := id hP
    obtain ⟨a3, b3, hv, a4, b4, hm, hh⟩ := id hH
    have hW := hM.1.2.1
    have hn60 := hW.1
    have hs := hv.1
    have hrn : r < n := hM.2.1.2.1
    have hn2 := hM.1.2.2.2.1
    obtain ⟨fs, ls, pa, hND2⟩ := hND
    have hF : ∀ o, o < n → σ.1 (σ.2 73 1 + 6) o = nI (fs o) ∧ σ.1 (σ.2 73 1 + 7) o = nI (ls o) ∧ fs o < 60 ∧ ls o < 60 := fun o ho => by
      obtain ⟨e1, e2, e3, e4, e5, -⟩ := hND2 o ho
      exact ⟨e1, e2, by omega, by omega⟩
    have hA : ∀ i, i < n → σ.1 15 (60 * 0 + i) = oI (pa i) ∧ pa i ≤ n ∧ (pa i = 0 → ∀ o, o < n → o ≠ i → ¬ (fs o ≤ i ∧ i ≤ ls o)) ∧ (pa i ≠ 0 → rk i < rk (pa i - 1) ∧ (fs (pa i - 1) ≤ i ∧ i ≤ ls (pa i - 1)) ∧ ¬ (fs i ≤ pa i - 1 ∧ pa i - 1 ≤ ls i) ∧ ∀ o, o < n → o ≠ i → o ≠ pa i - 1 → (fs o ≤ i ∧ i ≤ ls o ↔ fs o ≤ pa i - 1 ∧ pa i - 1 ≤ ls o)) := fun o ho => by
      obtain ⟨-, -, -, -, -, -, e7, e8, -, e10, e11⟩ := hND2 o ho
      exact ⟨e7, e8, e10, e11⟩
    have hrk : ∀ i, i < n → rk i < n := fun o ho => (hM.1.2.2.1.RK o ho).1
    have hT3 := hR.t3
    rcases i32_in y (k := n - 1) (by omega) with ⟨u, hu0, rfl⟩ | hy
    · have hu : u < n := by omega
      obtain ⟨d1, d2_, d3, d4, d5, d6, d7, d8, d9, -⟩ := hND2 u hu
      obtain ⟨m0, m1, -, -, m4, -⟩ := hM.1.2.2.2.2.2.2 u hu
      rcases i32_in z (k := 5) (by decide) with ⟨u2, hu2, rfl⟩ | hz
      · rcases (show u2 = 0 ∨ u2 = 1 ∨ u2 = 2 ∨ u2 = 3 ∨ u2 = 4 ∨ u2 = 5 by omega) with rfl | rfl | rfl | rfl | rfl | rfl
        · skip
          refine ⟨nI (p 0 u), ?_⟩
          refine am_enter' (M := M_X9_node) rfl rfl rfl (by omega) (ls := [some (.ref 41), some (.int (nI 0)), some (.int (nI u)), some (.int (nI 0)), none, none]) rfl (fun d' hd' => ?_)
          refine am_run 2 (pc' := 2) (ls' := [some (.ref 41), some (.int (nI 0)), some (.int (nI u)), some (.int (nI 0)), none, none]) (st' := [.int (nI 0), .ref 41]) (σ' := σ) rfl ?_
          refine am_invv (y := 140) (b := 41) (as := [.int (nI 0)]) (rest := []) rfl rfl rfl rfl rfl rfl rfl (Nat.le_of_ble_eq_true rfl) ?_
          refine c_filled0_1 (by omega) hf ?_
          show am_G _ M_X9_node _ 5 [some (.ref 41), some (.int (nI 0)), some (.int (nI u)), some (.int (nI 0)), none, none] [.ref 73] σ
          refine am_run 4 (pc' := 14) (ls' := [some (.ref 41), some (.int (nI 0)), some (.int (nI u)), some (.int (nI 0)), some (.ref 73), none]) (st' := [.ref 73]) (σ' := σ) rfl ?_
          refine am_invv (y := 66) (b := 73) (as := []) (rest := []) rfl rfl rfl rfl rfl rfl rfl (Nat.le_of_ble_eq_true rfl) ?_
          refine am_enter' rfl rfl rfl (by omega) (ls := [some (.ref 73)]) rfl (fun d_1 hd_1 => ?_)
          refine am_run 2 (pc' := 4) (ls' := [some (.ref 73)]) (st' := [.ref (σ.2 73 1)]) (σ' := σ) rfl ?_
          refine am_reta rfl rfl (Or.inr ⟨_, rfl⟩) ?_
          show am_G _ M_X9_node _ 17 [some (.ref 41), some (.int (nI 0)), some (.int (nI u)), some (.int (nI 0)), some (.ref 73), none] [.ref (σ.2 73 1)] σ
          refine am_run 1 (pc' := 18) (ls' := [some (.ref 41), some (.int (nI 0)), some (.int (nI u)), some (.int (nI 0)), some (.ref 73), none]) (st' := [.int (nI u), .ref (σ.2 73 1)]) (σ' := σ) rfl ?_
          refine am_invv (y := 106) (b := (σ.2 73 1)) (as := [.int (nI u)]) (rest := []) rfl rfl rfl rfl rfl rfl (t3_kind hT3) (Nat.le_of_ble_eq_true rfl) ?_
          refine c_has (by omega) hW hR hu ?_
          show am_G _ M_X9_node _ 21 [some (.ref 41), some (.int (nI 0)), some (.int (nI u)), some (.int (nI 0)), some (.ref 73), none] [.int (nI 1)] σ
          refine am_if (ty := 24) (tn := 27) rfl (by decide) rfl rfl (fun (h_2 : nI 1 = 0) => ?_) (fun (h_2 : ¬ (nI 1 = 0)) => ?_)
          · exact absurd h_2 (by decide)
          refine am_run 1 (pc' := 29) (ls' := [some (.ref 41), some (.int (nI 0)), some (.int (nI u)), some (.int (nI 0)), some (.ref 73), none]) (st' := [.ref 73]) (σ' := σ) rfl ?_
          refine am_invv (y := 66) (b := 73) (as := []) (rest := []) rfl rfl rfl rfl rfl rfl rfl (Nat.le_of_ble_eq_true rfl) ?_
          refine am_enter' rfl rfl rfl (by omega) (ls := [some (.ref 73)]) rfl (fun d_3 hd_3 => ?_)
          refine am_run 2 (pc' := 4) (ls' := [some (.ref 73)]) (st' := [.ref (σ.2 73 1)]) (σ' := σ) rfl ?_
          refine am_reta rfl rfl (Or.inr ⟨_, rfl⟩) ?_
          show am_G _ M_X9_node _ 32 [some (.ref 41), some (.int (nI 0)), some (.int (nI u)), some (.int (nI 0)), some (.ref 73), none] [.ref (σ.2 73 1)] σ
          refine am_run 2 (pc' := 35) (ls' := [some (.ref 41), some (.int (nI 0)), some (.int (nI u)), some (.int (nI 0)), some (.ref 73), some (.ref (σ.2 73 1))]) (st' := [.int (nI 0)]) (σ' := σ) rfl ?_
          refine am_tsw rfl rfl (L := [(0, 37), (1, 44), (2, 51), (3, 58), (4, 65), (5, 72)]) rfl ?_
          refine am_sw1 (k := nI 0) (tgt := 72) rfl (by decide) (by decide) rfl (fun _ => ?_) (fun h_z => absurd rfl h_z)
          refine am_run 2 (pc' := 75) (ls' := [some (.ref 41), some (.int (nI 0)), some (.int (nI u)), some (.int (nI 0)), some (.ref 73), some (.ref (σ.2 73 1))]) (st' := [.int (nI u), .ref (σ.2 73 1)]) (σ' := σ) rfl ?_
          refine am_invv (y := 112) (b := (σ.2 73 1)) (as := [.int (nI u)]) (rest := []) rfl rfl rfl rfl rfl rfl (t3_kind hT3) (Nat.le_of_ble_eq_true rfl) ?_
          refine c_tokenOf (by omega) hW hR hu ?_
          show am_G _ M_X9_node _ 78 [some (.ref 41), some (.int (nI 0)), some (.int (nI u)), some (.int (nI 0)), some (.ref 73), some (.ref (σ.2 73 1))] [.int (nI (p 0 u))] σ
          refine am_reti rfl rfl ?_
          refine ⟨rfl, ?_⟩
          refine am_enter' (M := M_X10_node) rfl rfl rfl (by omega) (ls := [some (.ref 0), some (.int (nI 0)), some (.int (nI u)), some (.int (nI 0)), none]) rfl (fun d2 hd2 => ?_)
          refine am_run 2 (pc' := 2) (ls' := [some (.ref 0), some (.int (nI 0)), some (.int (nI u)), some (.int (nI 0)), none]) (st' := [.int (nI 0), .ref 0]) (σ' := σ) rfl ?_
          refine am_invv (y := 151) (b := 0) (as := [.int (nI 0)]) (rest := []) rfl rfl rfl rfl rfl rfl rfl (Nat.le_of_ble_eq_true rfl) ?_
          refine c_prog0_1 (by omega) (n := n) (by exact hn2) hn1 hn60 ?_
          show am_G _ M_X10_node _ 5 [some (.ref 0), some (.int (nI 0)), some (.int (nI u)), some (.int (nI 0)), none] [.int (nI 1)] σ
          refine am_if (ty := 24) (tn := 8) rfl (by decide) rfl rfl (fun (h_101 : nI 1 = 0) => ?_) (fun (h_101 : ¬ (nI 1 = 0)) => ?_)
          · exact absurd h_101 (by decide)
          refine am_run 5 (pc' := 15) (ls' := [some (.ref 0), some (.int (nI 0)), some (.int (nI u)), some (.int (nI 0)), none]) (st' := [.int (nI 0), .ref 2, .int (nI 0), .int (nI u)]) (σ' := σ) rfl ?_
          refine am_ialdN (n := 3) (v := nI n) rfl rfl rfl (by omega) hn2 (by decide) ?_
          refine am_run 2 (pc' := 18) (ls' := [some (.ref 0), some (.int (nI 0)), some (.int (nI u)), some (.int (nI 0)), none]) (st' := [.int (nI n - nI 1), .int (nI 0), .int (nI u)]) (σ' := σ) rfl ?_
          refine am_top (v' := nI (n - 1)) (nx_sub (by omega)) ?_
          refine am_invs (y := 148) (as := [.int (nI u), .int (nI 0), .int (nI (n - 1))]) (rest := []) rfl rfl rfl rfl rfl rfl (Nat.le_of_ble_eq_true rfl) ?_
          refine c_in1 (by omega) (by omega) (by omega) (by omega) ?_
          show am_G _ M_X10_node _ 21 [some (.ref 0), some (.int (nI 0)), some (.int (nI u)), some (.int (nI 0)), none] [.int (nI 1)] σ
          refine am_if (ty := 24) (tn := 27) rfl (by decide) rfl rfl (fun (h_102 : nI 1 = 0) => ?_) (fun (h_102 : ¬ (nI 1 = 0)) => ?_)
          · exact absurd h_102 (by decide)
          refine am_run 2 (pc' := 29) (ls' := [some (.ref 0), some (.int (nI 0)), some (.int (nI u)), some (.int (nI 0)), none]) (st' := [.int (nI u), .int (nI 0)]) (σ' := σ) rfl ?_
          refine am_invs (y := 158) (as := [.int (nI 0), .int (nI u)]) (rest := []) rfl rfl rfl rfl rfl rfl (Nat.le_of_ble_eq_true rfl) ?_
          refine c_m_placeOf (by omega) ?_
          show am_G _ M_X10_node _ 32 [some (.ref 0), some (.int (nI 0)), some (.int (nI u)), some (.int (nI 0)), none] [.int (nI (60 * 0 + u))] σ
          refine am_run 2 (pc' := 35) (ls' := [some (.ref 0), some (.int (nI 0)), some (.int (nI u)), some (.int (nI 0)), some (.int (nI (60 * 0 + u)))]) (st' := [.int (nI 0)]) (σ' := σ) rfl ?_
          refine am_tsw rfl rfl (L := [(0, 37), (1, 45), (2, 53), (3, 61), (4, 69), (5, 77)]) rfl ?_
          refine am_sw1 (k := nI 0) (tgt := 72) rfl (by decide) (by decide) rfl (fun _ => ?_) (fun h_z => absurd rfl h_z)
          refine am_run 3 (pc' := 78) (ls' := [some (.ref 0), some (.int (nI 0)), some (.int (nI u)), some (.int (nI 0)), some (.int (nI (60 * 0 + u)))]) (st' := [.int (nI (60 * 0 + u)), .ref 5]) (σ' := σ) rfl ?_
          refine am_ialdN (n := 180) (v := nI (p 0 u)) rfl rfl rfl (by omega) m0 (by decide) ?_
          refine am_reti rfl rfl ?_
          exact ⟨rfl, hI⟩
        · skip
          refine ⟨oI (p 1 u), ?_⟩
          refine am_enter' (M := M_X9_node) rfl rfl rfl (by omega) (ls := [some (.ref 41), some (.int (nI 0)), some (.int (nI u)), some (.int (nI 1)), none, none]) rfl (fun d' hd' => ?_)
          refine am_run 2 (pc' := 2) (ls' := [some (.ref 41), some (.int (nI 0)), some (.int (nI u)), some (.int (nI 1)), none, none]) (st' := [.int (nI 0), .ref 41]) (σ' := σ) rfl ?_
          refine am_invv (y := 140) (b := 41) (as := [.int (nI 0)]) (rest := []) rfl rfl rfl rfl rfl rfl rfl (Nat.le_of_ble_eq_true rfl) ?_
          refine c_filled0_1 (by omega) hf ?_
          show am_G _ M_X9_node _ 5 [some (.ref 41), some (.int (nI 0)), some (.int (nI u)), some (.int (nI 1)), none, none] [.ref 73] σ
          refine am_run 4 (pc' := 14) (ls' := [some (.ref 41), some (.int (nI 0)), some (.int (nI u)), some (.int (nI 1)), some (.ref 73), none]) (st' := [.ref 73]) (σ' := σ) rfl ?_
          refine am_invv (y := 66) (b := 73) (as := []) (rest := []) rfl rfl rfl rfl rfl rfl rfl (Nat.le_of_ble_eq_true rfl) ?_
          refine am_enter' rfl rfl rfl (by omega) (ls := [some (.ref 73)]) rfl (fun d_1 hd_1 => ?_)
          refine am_run 2 (pc' := 4) (ls' := [some (.ref 73)]) (st' := [.ref (σ.2 73 1)]) (σ' := σ) rfl ?_
          refine am_reta rfl rfl (Or.inr ⟨_, rfl⟩) ?_
          show am_G _ M_X9_node _ 17 [some (.ref 41), some (.int (nI 0)), some (.int (nI u)), some (.int (nI 1)), some (.ref 73), none] [.ref (σ.2 73 1)] σ
          refine am_run 1 (pc' := 18) (ls' := [some (.ref 41), some (.int (nI 0)), some (.int (nI u)), some (.int (nI 1)), some (.ref 73), none]) (st' := [.int (nI u), .ref (σ.2 73 1)]) (σ' := σ) rfl ?_
          refine am_invv (y := 106) (b := (σ.2 73 1)) (as := [.int (nI u)]) (rest := []) rfl rfl rfl rfl rfl rfl (t3_kind hT3) (Nat.le_of_ble_eq_true rfl) ?_
          refine c_has (by omega) hW hR hu ?_
          show am_G _ M_X9_node _ 21 [some (.ref 41), some (.int (nI 0)), some (.int (nI u)), some (.int (nI 1)), some (.ref 73), none] [.int (nI 1)] σ
          refine am_if (ty := 24) (tn := 27) rfl (by decide) rfl rfl (fun (h_2 : nI 1 = 0) => ?_) (fun (h_2 : ¬ (nI 1 = 0)) => ?_)
          · exact absurd h_2 (by decide)
          refine am_run 1 (pc' := 29) (ls' := [some (.ref 41), some (.int (nI 0)), some (.int (nI u)), some (.int (nI 1)), some (.ref 73), none]) (st' := [.ref 73]) (σ' := σ) rfl ?_
          refine am_invv (y := 66) (b := 73) (as := []) (rest := []) rfl rfl rfl rfl rfl rfl rfl (Nat.le_of_ble_eq_true rfl) ?_
          refine am_enter' rfl rfl rfl (by omega) (ls := [some (.ref 73)]) rfl (fun d_3 hd_3 => ?_)
          refine am_run 2 (pc' := 4) (ls' := [some (.ref 73)]) (st' := [.ref (σ.2 73 1)]) (σ' := σ) rfl ?_
          refine am_reta rfl rfl (Or.inr ⟨_, rfl⟩) ?_
          show am_G _ M_X9_node _ 32 [some (.ref 41), some (.int (nI 0)), some (.int (nI u)), some (.int (nI 1)), some (.ref 73), none] [.ref (σ.2 73 1)] σ
          refine am_run 2 (pc' := 35) (ls' := [some (.ref 41), some (.int (nI 0)), some (.int (nI u)), some (.int (nI 1)), some (.ref 73), some (.ref (σ.2 73 1))]) (st' := [.int (nI 1)]) (σ' := σ) rfl ?_
          refine am_tsw rfl rfl (L := [(0, 37), (1, 44), (2, 51), (3, 58), (4, 65), (5, 72)]) rfl ?_
          refine am_sw1 (k := nI 0) (tgt := 72) rfl (by decide) (by decide) rfl (fun h_z => absurd h_z (by decide)) (fun _ => ?_)
          refine am_sw1 (k := nI 1) (tgt := 79) rfl (by decide) (by decide) rfl (fun _ => ?_) (fun h_z => absurd rfl h_z)
          refine am_run 2 (pc' := 82) (ls' := [some (.ref 41), some (.int (nI 0)), some (.int (nI u)), some (.int (nI 1)), some (.ref 73), some (.ref (σ.2 73 1))]) (st' := [.int (nI u), .ref (σ.2 73 1)]) (σ' := σ) rfl ?_
          refine am_invv (y := 113) (b := (σ.2 73 1)) (as := [.int (nI u)]) (rest := []) rfl rfl rfl rfl rfl rfl (t3_kind hT3) (Nat.le_of_ble_eq_true rfl) ?_
          refine c_detailOf (by omega) hW hR hu ?_
          show am_G _ M_X9_node _ 85 [some (.ref 41), some (.int (nI 0)), some (.int (nI u)), some (.int (nI 1)), some (.ref 73), some (.ref (σ.2 73 1))] [.int (oI (p 1 u))] σ
          refine am_reti rfl rfl ?_
          refine ⟨rfl, ?_⟩
          refine am_enter' (M := M_X10_node) rfl rfl rfl (by omega) (ls := [some (.ref 0), some (.int (nI 0)), some (.int (nI u)), some (.int (nI 1)), none]) rfl (fun d2 hd2 => ?_)
          refine am_run 2 (pc' := 2) (ls' := [some (.ref 0), some (.int (nI 0)), some (.int (nI u)), some (.int (nI 1)), none]) (st' := [.int (nI 0), .ref 0]) (σ' := σ) rfl ?_
          refine am_invv (y := 151) (b := 0) (as := [.int (nI 0)]) (rest := []) rfl rfl rfl rfl rfl rfl rfl (Nat.le_of_ble_eq_true rfl) ?_
          refine c_prog0_1 (by omega) (n := n) (by exact hn2) hn1 hn60 ?_
          show am_G _ M_X10_node _ 5 [some (.ref 0), some (.int (nI 0)), some (.int (nI u)), some (.int (nI 1)), none] [.int (nI 1)] σ
          refine am_if (ty := 24) (tn := 8) rfl (by decide) rfl rfl (fun (h_101 : nI 1 = 0) => ?_) (fun (h_101 : ¬ (nI 1 = 0)) => ?_)
          · exact absurd h_101 (by decide)
          refine am_run 5 (pc' := 15) (ls' := [some (.ref 0), some (.int (nI 0)), some (.int (nI u)), some (.int (nI 1)), none]) (st' := [.int (nI 0), .ref 2, .int (nI 0), .int (nI u)]) (σ' := σ) rfl ?_
          refine am_ialdN (n := 3) (v := nI n) rfl rfl rfl (by omega) hn2 (by decide) ?_
          refine am_run 2 (pc' := 18) (ls' := [some (.ref 0), some (.int (nI 0)), some (.int (nI u)), some (.int (nI 1)), none]) (st' := [.int (nI n - nI 1), .int (nI 0), .int (nI u)]) (σ' := σ) rfl ?_
          refine am_top (v' := nI (n - 1)) (nx_sub (by omega)) ?_
          refine am_invs (y := 148) (as := [.int (nI u), .int (nI 0), .int (nI (n - 1))]) (rest := []) rfl rfl rfl rfl rfl rfl (Nat.le_of_ble_eq_true rfl) ?_
          refine c_in1 (by omega) (by omega) (by omega) (by omega) ?_
          show am_G _ M_X10_node _ 21 [some (.ref 0), some (.int (nI 0)), some (.int (nI u)), some (.int (nI 1)), none] [.int (nI 1)] σ
          refine am_if (ty := 24) (tn := 27) rfl (by decide) rfl rfl (fun (h_102 : nI 1 = 0) => ?_) (fun (h_102 : ¬ (nI 1 = 0)) => ?_)
          · exact absurd h_102 (by decide)
          refine am_run 2 (pc' := 29) (ls' := [some (.ref 0), some (.int (nI 0)), some (.int (nI u)), some (.int (nI 1)), none]) (st' := [.int (nI u), .int (nI 0)]) (σ' := σ) rfl ?_
          refine am_invs (y := 158) (as := [.int (nI 0), .int (nI u)]) (rest := []) rfl rfl rfl rfl rfl rfl (Nat.le_of_ble_eq_true rfl) ?_
          refine c_m_placeOf (by omega) ?_
          show am_G _ M_X10_node _ 32 [some (.ref 0), some (.int (nI 0)), some (.int (nI u)), some (.int (nI 1)), none] [.int (nI (60 * 0 + u))] σ
          refine am_run 2 (pc' := 35) (ls' := [some (.ref 0), some (.int (nI 0)), some (.int (nI u)), some (.int (nI 1)), some (.int (nI (60 * 0 + u)))]) (st' := [.int (nI 1)]) (σ' := σ) rfl ?_
          refine am_tsw rfl rfl (L := [(0, 37), (1, 45), (2, 53), (3, 61), (4, 69), (5, 77)]) rfl ?_
          refine am_sw1 (k := nI 0) (tgt := 72) rfl (by decide) (by decide) rfl (fun h_z => absurd h_z (by decide)) (fun _ => ?_)
          refine am_sw1 (k := nI 1) (tgt := 80) rfl (by decide) (by decide) rfl (fun _ => ?_) (fun h_z => absurd rfl h_z)
          refine am_run 3 (pc' := 86) (ls' := [some (.ref 0), some (.int (nI 0)), some (.int (nI u)), some (.int (nI 1)), some (.int (nI (60 * 0 + u)))]) (st' := [.int (nI (60 * 0 + u)), .ref 6]) (σ' := σ) rfl ?_
          refine am_ialdN (n := 180) (v := oI (p 1 u)) rfl rfl rfl (by omega) m1 (by decide) ?_
          refine am_reti rfl rfl ?_
          exact ⟨rfl, hI⟩
        · skip
          refine ⟨nI (p 4 u), ?_⟩
          refine am_enter' (M := M_X9_node) rfl rfl rfl (by omega) (ls := [some (.ref 41), some (.int (nI 0)), some (.int (nI u)), some (.int (nI 2)), none, none]) rfl (fun d' hd' => ?_)
          refine am_run 2 (pc' := 2) (ls' := [some (.ref 41), some (.int (nI 0)), some (.int (nI u)), some (.int (nI 2)), none, none]) (st' := [.int (nI 0), .ref 41]) (σ' := σ) rfl ?_
          refine am_invv (y := 140) (b := 41) (as := [.int (nI 0)]) (rest := []) rfl rfl rfl rfl rfl rfl rfl (Nat.le_of_ble_eq_true rfl) ?_
          refine c_filled0_1 (by omega) hf ?_
          show am_G _ M_X9_node _ 5 [some (.ref 41), some (.int (nI 0)), some (.int (nI u)), some (.int (nI 2)), none, none] [.ref 73] σ
          refine am_run 4 (pc' := 14) (ls' := [some (.ref 41), some (.int (nI 0)), some (.int (nI u)), some (.int (nI 2)), some (.ref 73), none]) (st' := [.ref 73]) (σ' := σ) rfl ?_
          refine am_invv (y := 66) (b := 73) (as := []) (rest := []) rfl rfl rfl rfl rfl rfl rfl (Nat.le_of_ble_eq_true rfl) ?_
          refine am_enter' rfl rfl rfl (by omega) (ls := [some (.ref 73)]) rfl (fun d_1 hd_1 => ?_)
          refine am_run 2 (pc' := 4) (ls' := [some (.ref 73)]) (st' := [.ref (σ.2 73 1)]) (σ' := σ) rfl ?_
          refine am_reta rfl rfl (Or.inr ⟨_, rfl⟩) ?_
          show am_G _ M_X9_node _ 17 [some (.ref 41), some (.int (nI 0)), some (.int (nI u)), some (.int (nI 2)), some (.ref 73), none] [.ref (σ.2 73 1)] σ
          refine am_run 1 (pc' := 18) (ls' := [some (.ref 41), some (.int (nI 0)), some (.int (nI u)), some (.int (nI 2)), some (.ref 73), none]) (st' := [.int (nI u), .ref (σ.2 73 1)]) (σ' := σ) rfl ?_
          refine am_invv (y := 106) (b := (σ.2 73 1)) (as := [.int (nI u)]) (rest := []) rfl rfl rfl rfl rfl rfl (t3_kind hT3) (Nat.le_of_ble_eq_true rfl) ?_
          refine c_has (by omega) hW hR hu ?_
          show am_G _ M_X9_node _ 21 [some (.ref 41), some (.int (nI 0)), some (.int (nI u)), some (.int (nI 2)), some (.ref 73), none] [.int (nI 1)] σ
          refine am_if (ty := 24) (tn := 27) rfl (by decide) rfl rfl (fun (h_2 : nI 1 = 0) => ?_) (fun (h_2 : ¬ (nI 1 = 0)) => ?_)
          · exact absurd h_2 (by decide)
          refine am_run 1 (pc' := 29) (ls' := [some (.ref 41), some (.int (nI 0)), some (.int (nI u)), some (.int (nI 2)), some (.ref 73), none]) (st' := [.ref 73]) (σ' := σ) rfl ?_
          refine am_invv (y := 66) (b := 73) (as := []) (rest := []) rfl rfl rfl rfl rfl rfl rfl (Nat.le_of_ble_eq_true rfl) ?_
          refine am_enter' rfl rfl rfl (by omega) (ls := [some (.ref 73)]) rfl (fun d_3 hd_3 => ?_)
          refine am_run 2 (pc' := 4) (ls' := [some (.ref 73)]) (st' := [.ref (σ.2 73 1)]) (σ' := σ) rfl ?_
          refine am_reta rfl rfl (Or.inr ⟨_, rfl⟩) ?_
          show am_G _ M_X9_node _ 32 [some (.ref 41), some (.int (nI 0)), some (.int (nI u)), some (.int (nI 2)), some (.ref 73), none] [.ref (σ.2 73 1)] σ
          refine am_run 2 (pc' := 35) (ls' := [some (.ref 41), some (.int (nI 0)), some (.int (nI u)), some (.int (nI 2)), some (.ref 73), some (.ref (σ.2 73 1))]) (st' := [.int (nI 2)]) (σ' := σ) rfl ?_
          refine am_tsw rfl rfl (L := [(0, 37), (1, 44), (2, 51), (3, 58), (4, 65), (5, 72)]) rfl ?_
          refine am_sw1 (k := nI 0) (tgt := 72) rfl (by decide) (by decide) rfl (fun h_z => absurd h_z (by decide)) (fun _ => ?_)
          refine am_sw1 (k := nI 1) (tgt := 79) rfl (by decide) (by decide) rfl (fun h_z => absurd h_z (by decide)) (fun _ => ?_)
          refine am_sw1 (k := nI 2) (tgt := 86) rfl (by decide) (by decide) rfl (fun _ => ?_) (fun h_z => absurd rfl h_z)
          refine am_run 2 (pc' := 89) (ls' := [some (.ref 41), some (.int (nI 0)), some (.int (nI u)), some (.int (nI 2)), some (.ref 73), some (.ref (σ.2 73 1))]) (st' := [.int (nI u), .ref (σ.2 73 1)]) (σ' := σ) rfl ?_
          refine am_invv (y := 117) (b := (σ.2 73 1)) (as := [.int (nI u)]) (rest := []) rfl rfl rfl rfl rfl rfl (t3_kind hT3) (Nat.le_of_ble_eq_true rfl) ?_
          refine c_pausesOf (by omega) hW hR hu ?_
          show am_G _ M_X9_node _ 92 [some (.ref 41), some (.int (nI 0)), some (.int (nI u)), some (.int (nI 2)), some (.ref 73), some (.ref (σ.2 73 1))] [.int (nI (p 4 u))] σ
          refine am_reti rfl rfl ?_
          refine ⟨rfl, ?_⟩
          refine am_enter' (M := M_X10_node) rfl rfl rfl (by omega) (ls := [some (.ref 0), some (.int (nI 0)), some (.int (nI u)), some (.int (nI 2)), none]) rfl (fun d2 hd2 => ?_)
          refine am_run 2 (pc' := 2) (ls' := [some (.ref 0), some (.int (nI 0)), some (.int (nI u)), some (.int (nI 2)), none]) (st' := [.int (nI 0), .ref 0]) (σ' := σ) rfl ?_
          refine am_invv (y := 151) (b := 0) (as := [.int (nI 0)]) (rest := []) rfl rfl rfl rfl rfl rfl rfl (Nat.le_of_ble_eq_true rfl) ?_
          refine c_prog0_1 (by omega) (n := n) (by exact hn2) hn1 hn60 ?_
          show am_G _ M_X10_node _ 5 [some (.ref 0), some (.int (nI 0)), some (.int (nI u)), some (.int (nI 2)), none] [.int (nI 1)] σ
          refine am_if (ty := 24) (tn := 8) rfl (by decide) rfl rfl (fun (h_101 : nI 1 = 0) => ?_) (fun (h_101 : ¬ (nI 1 = 0)) => ?_)
          · exact absurd h_101 (by decide)
          refine am_run 5 (pc' := 15) (ls' := [some (.ref 0), some (.int (nI 0)), some (.int (nI u)), some (.int (nI 2)), none]) (st' := [.int (nI 0), .ref 2, .int (nI 0), .int (nI u)]) (σ' := σ) rfl ?_
          refine am_ialdN (n := 3) (v := nI n) rfl rfl rfl (by omega) hn2 (by decide) ?_
          refine am_run 2 (pc' := 18) (ls' := [some (.ref 0), some (.int (nI 0)), some (.int (nI u)), some (.int (nI 2)), none]) (st' := [.int (nI n - nI 1), .int (nI 0), .int (nI u)]) (σ' := σ) rfl ?_
          refine am_top (v' := nI (n - 1)) (nx_sub (by omega)) ?_
          refine am_invs (y := 148) (as := [.int (nI u), .int (nI 0), .int (nI (n - 1))]) (rest := []) rfl rfl rfl rfl rfl rfl (Nat.le_of_ble_eq_true rfl) ?_
          refine c_in1 (by omega) (by omega) (by omega) (by omega) ?_
          show am_G _ M_X10_node _ 21 [some (.ref 0), some (.int (nI 0)), some (.int (nI u)), some (.int (nI 2)), none] [.int (nI 1)] σ
          refine am_if (ty := 24) (tn := 27) rfl (by decide) rfl rfl (fun (h_102 : nI 1 = 0) => ?_) (fun (h_102 : ¬ (nI 1 = 0)) => ?_)
          · exact absurd h_102 (by decide)
          refine am_run 2 (pc' := 29) (ls' := [some (.ref 0), some (.int (nI 0)), some (.int (nI u)), some (.int (nI 2)), none]) (st' := [.int (nI u), .int (nI 0)]) (σ' := σ) rfl ?_
          refine am_invs (y := 158) (as := [.int (nI 0), .int (nI u)]) (rest := []) rfl rfl rfl rfl rfl rfl (Nat.le_of_ble_eq_true rfl) ?_
          refine c_m_placeOf (by omega) ?_
          show am_G _ M_X10_node _ 32 [some (.ref 0), some (.int (nI 0)), some (.int (nI u)), some (.int (nI 2)), none] [.int (nI (60 * 0 + u))] σ
          refine am_run 2 (pc' := 35) (ls' := [some (.ref 0), some (.int (nI 0)), some (.int (nI u)), some (.int (nI 2)), some (.int (nI (60 * 0 + u)))]) (st' := [.int (nI 2)]) (σ' := σ) rfl ?_
          refine am_tsw rfl rfl (L := [(0, 37), (1, 45), (2, 53), (3, 61), (4, 69), (5, 77)]) rfl ?_
          refine am_sw1 (k := nI 0) (tgt := 72) rfl (by decide) (by decide) rfl (fun h_z => absurd h_z (by decide)) (fun _ => ?_)
          refine am_sw1 (k := nI 1) (tgt := 80) rfl (by decide) (by decide) rfl (fun h_z => absurd h_z (by decide)) (fun _ => ?_)
          refine am_sw1 (k := nI 2) (tgt := 88) rfl (by decide) (by decide) rfl (fun _ => ?_) (fun h_z => absurd rfl h_z)
          refine am_run 3 (pc' := 94) (ls' := [some (.ref 0), some (.int (nI 0)), some (.int (nI u)), some (.int (nI 2)), some (.int (nI (60 * 0 + u)))]) (st' := [.int (nI (60 * 0 + u)), .ref 13]) (σ' := σ) rfl ?_
          refine am_ialdN (n := 180) (v := nI (p 4 u)) rfl rfl rfl (by omega) m4 (by decide) ?_
          refine am_reti rfl rfl ?_
          exact ⟨rfl, hI⟩
        · skip
          refine ⟨nI (ls u - fs u), ?_⟩
          refine am_enter' (M := M_X9_node) rfl rfl rfl (by omega) (ls := [some (.ref 41), some (.int (nI 0)), some (.int (nI u)), some (.int (nI 3)), none, none]) rfl (fun d' hd' => ?_)
          refine am_run 2 (pc' := 2) (ls' := [some (.ref 41), some (.int (nI 0)), some (.int (nI u)), some (.int (nI 3)), none, none]) (st' := [.int (nI 0), .ref 41]) (σ' := σ) rfl ?_
          refine am_invv (y := 140) (b := 41) (as := [.int (nI 0)]) (rest := []) rfl rfl rfl rfl rfl rfl rfl (Nat.le_of_ble_eq_true rfl) ?_
          refine c_filled0_1 (by omega) hf ?_
          show am_G _ M_X9_node _ 5 [some (.ref 41), some (.int (nI 0)), some (.int (nI u)), some (.int (nI 3)), none, none] [.ref 73] σ
          refine am_run 4 (pc' := 14) (ls' := [some (.ref 41), some (.int (nI 0)), some (.int (nI u)), some (.int (nI 3)), some (.ref 73), none]) (st' := [.ref 73]) (σ' := σ) rfl ?_
          refine am_invv (y := 66) (b := 73) (as := []) (rest := []) rfl rfl rfl rfl rfl rfl rfl (Nat.le_of_ble_eq_true rfl) ?_
          refine am_enter' rfl rfl rfl (by omega) (ls := [some (.ref 73)]) rfl (fun d_1 hd_1 => ?_)
          refine am_run 2 (pc' := 4) (ls' := [some (.ref 73)]) (st' := [.ref (σ.2 73 1)]) (σ' := σ) rfl ?_
          refine am_reta rfl rfl (Or.inr ⟨_, rfl⟩) ?_
          show am_G _ M_X9_node _ 17 [some (.ref 41), some (.int (nI 0)), some (.int (nI u)), some (.int (nI 3)), some (.ref 73), none] [.ref (σ.2 73 1)] σ
          refine am_run 1 (pc' := 18) (ls' := [some (.ref 41), some (.int (nI 0)), some (.int (nI u)), some (.int (nI 3)), some (.ref 73), none]) (st' := [.int (nI u), .ref (σ.2 73 1)]) (σ' := σ) rfl ?_
          refine am_invv (y := 106) (b := (σ.2 73 1)) (as := [.int (nI u)]) (rest := []) rfl rfl rfl rfl rfl rfl (t3_kind hT3) (Nat.le_of_ble_eq_true rfl) ?_
          refine c_has (by omega) hW hR hu ?_
          show am_G _ M_X9_node _ 21 [some (.ref 41), some (.int (nI 0)), some (.int (nI u)), some (.int (nI 3)), some (.ref 73), none] [.int (nI 1)] σ
          refine am_if (ty := 24) (tn := 27) rfl (by decide) rfl rfl (fun (h_2 : nI 1 = 0) => ?_) (fun (h_2 : ¬ (nI 1 = 0)) => ?_)
          · exact absurd h_2 (by decide)
          refine am_run 1 (pc' := 29) (ls' := [some (.ref 41), some (.int (nI 0)), some (.int (nI u)), some (.int (nI 3)), some (.ref 73), none]) (st' := [.ref 73]) (σ' := σ) rfl ?_
          refine am_invv (y := 66) (b := 73) (as := []) (rest := []) rfl rfl rfl rfl rfl rfl rfl (Nat.le_of_ble_eq_true rfl) ?_
          refine am_enter' rfl rfl rfl (by omega) (ls := [some (.ref 73)]) rfl (fun d_3 hd_3 => ?_)
          refine am_run 2 (pc' := 4) (ls' := [some (.ref 73)]) (st' := [.ref (σ.2 73 1)]) (σ' := σ) rfl ?_
          refine am_reta rfl rfl (Or.inr ⟨_, rfl⟩) ?_
          show am_G _ M_X9_node _ 32 [some (.ref 41), some (.int (nI 0)), some (.int (nI u)), some (.int (nI 3)), some (.ref 73), none] [.ref (σ.2 73 1)] σ
          refine am_run 2 (pc' := 35) (ls' := [some (.ref 41), some (.int (nI 0)), some (.int (nI u)), some (.int (nI 3)), some (.ref 73), some (.ref (σ.2 73 1))]) (st' := [.int (nI 3)]) (σ' := σ) rfl ?_
          refine am_tsw rfl rfl (L := [(0, 37), (1, 44), (2, 51), (3, 58), (4, 65), (5, 72)]) rfl ?_
          refine am_sw1 (k := nI 0) (tgt := 72) rfl (by decide) (by decide) rfl (fun h_z => absurd h_z (by decide)) (fun _ => ?_)
          refine am_sw1 (k := nI 1) (tgt := 79) rfl (by decide) (by decide) rfl (fun h_z => absurd h_z (by decide)) (fun _ => ?_)
          refine am_sw1 (k := nI 2) (tgt := 86) rfl (by decide) (by decide) rfl (fun h_z => absurd h_z (by decide)) (fun _ => ?_)
          refine am_sw1 (k := nI 3) (tgt := 93) rfl (by decide) (by decide) rfl (fun _ => ?_) (fun h_z => absurd rfl h_z)
          refine am_run 2 (pc' := 96) (ls' := [some (.ref 41), some (.int (nI 0)), some (.int (nI u)), some (.int (nI 3)), some (.ref 73), some (.ref (σ.2 73 1))]) (st' := [.int (nI u), .ref (σ.2 73 1)]) (σ' := σ) rfl ?_
          refine am_invv (y := 120) (b := (σ.2 73 1)) (as := [.int (nI u)]) (rest := []) rfl rfl rfl rfl rfl rfl (t3_kind hT3) (Nat.le_of_ble_eq_true rfl) ?_
          refine c_containedIn (by omega) hW hR hu d1 d2_ (by omega) ?_
          show am_G _ M_X9_node _ 99 [some (.ref 41), some (.int (nI 0)), some (.int (nI u)), some (.int (nI 3)), some (.ref 73), some (.ref (σ.2 73 1))] [.int (nI (ls u - fs u))] σ
          refine am_reti rfl rfl ?_
          refine ⟨rfl, ?_⟩
          refine am_enter' (M := M_X10_node) rfl rfl rfl (by omega) (ls := [some (.ref 0), some (.int (nI 0)), some (.int (nI u)), some (.int (nI 3)), none]) rfl (fun d2 hd2 => ?_)
          refine am_run 2 (pc' := 2) (ls' := [some (.ref 0), some (.int (nI 0)), some (.int (nI u)), some (.int (nI 3)), none]) (st' := [.int (nI 0), .ref 0]) (σ' := σ) rfl ?_
          refine am_invv (y := 151) (b := 0) (as := [.int (nI 0)]) (rest := []) rfl rfl rfl rfl rfl rfl rfl (Nat.le_of_ble_eq_true rfl) ?_
          refine c_prog0_1 (by omega) (n := n) (by exact hn2) hn1 hn60 ?_
          show am_G _ M_X10_node _ 5 [some (.ref 0), some (.int (nI 0)), some (.int (nI u)), some (.int (nI 3)), none] [.int (nI 1)] σ
          refine am_if (ty := 24) (tn := 8) rfl (by decide) rfl rfl (fun (h_101 : nI 1 = 0) => ?_) (fun (h_101 : ¬ (nI 1 = 0)) => ?_)
          · exact absurd h_101 (by decide)
          refine am_run 5 (pc' := 15) (ls' := [some (.ref 0), some (.int (nI 0)), some (.int (nI u)), some (.int (nI 3)), none]) (st' := [.int (nI 0), .ref 2, .int (nI 0), .int (nI u)]) (σ' := σ) rfl ?_
          refine am_ialdN (n := 3) (v := nI n) rfl rfl rfl (by omega) hn2 (by decide) ?_
          refine am_run 2 (pc' := 18) (ls' := [some (.ref 0), some (.int (nI 0)), some (.int (nI u)), some (.int (nI 3)), none]) (st' := [.int (nI n - nI 1), .int (nI 0), .int (nI u)]) (σ' := σ) rfl ?_
          refine am_top (v' := nI (n - 1)) (nx_sub (by omega)) ?_
          refine am_invs (y := 148) (as := [.int (nI u), .int (nI 0), .int (nI (n - 1))]) (rest := []) rfl rfl rfl rfl rfl rfl (Nat.le_of_ble_eq_true rfl) ?_
          refine c_in1 (by omega) (by omega) (by omega) (by omega) ?_
          show am_G _ M_X10_node _ 21 [some (.ref 0), some (.int (nI 0)), some (.int (nI u)), some (.int (nI 3)), none] [.int (nI 1)] σ
          refine am_if (ty := 24) (tn := 27) rfl (by decide) rfl rfl (fun (h_102 : nI 1 = 0) => ?_) (fun (h_102 : ¬ (nI 1 = 0)) => ?_)
          · exact absurd h_102 (by decide)
          refine am_run 2 (pc' := 29) (ls' := [some (.ref 0), some (.int (nI 0)), some (.int (nI u)), some (.int (nI 3)), none]) (st' := [.int (nI u), .int (nI 0)]) (σ' := σ) rfl ?_
          refine am_invs (y := 158) (as := [.int (nI 0), .int (nI u)]) (rest := []) rfl rfl rfl rfl rfl rfl (Nat.le_of_ble_eq_true rfl) ?_
          refine c_m_placeOf (by omega) ?_
          show am_G _ M_X10_node _ 32 [some (.ref 0), some (.int (nI 0)), some (.int (nI u)), some (.int (nI 3)), none] [.int (nI (60 * 0 + u))] σ
          refine am_run 2 (pc' := 35) (ls' := [some (.ref 0), some (.int (nI 0)), some (.int (nI u)), some (.int (nI 3)), some (.int (nI (60 * 0 + u)))]) (st' := [.int (nI 3)]) (σ' := σ) rfl ?_
          refine am_tsw rfl rfl (L := [(0, 37), (1, 45), (2, 53), (3, 61), (4, 69), (5, 77)]) rfl ?_
          refine am_sw1 (k := nI 0) (tgt := 72) rfl (by decide) (by decide) rfl (fun h_z => absurd h_z (by decide)) (fun _ => ?_)
          refine am_sw1 (k := nI 1) (tgt := 80) rfl (by decide) (by decide) rfl (fun h_z => absurd h_z (by decide)) (fun _ => ?_)
          refine am_sw1 (k := nI 2) (tgt := 88) rfl (by decide) (by decide) rfl (fun h_z => absurd h_z (by decide)) (fun _ => ?_)
          refine am_sw1 (k := nI 3) (tgt := 96) rfl (by decide) (by decide) rfl (fun _ => ?_) (fun h_z => absurd rfl h_z)
          refine am_run 3 (pc' := 102) (ls' := [some (.ref 0), some (.int (nI 0)), some (.int (nI u)), some (.int (nI 3)), some (.int (nI (60 * 0 + u)))]) (st' := [.int (nI (60 * 0 + u)), .ref 14]) (σ' := σ) rfl ?_
          refine am_ialdN (n := 180) (v := nI (ls u - fs u)) rfl rfl rfl (by omega) d6 (by decide) ?_
          refine am_reti rfl rfl ?_
          exact ⟨rfl, hI⟩
        · skip
          refine ⟨nI (an p 61 (u + 1) ST false 0 0).2.2.2, ?_⟩
          refine am_enter' (M := M_X9_node) rfl rfl rfl (by omega) (ls := [some (.ref 41), some (.int (nI 0)), some (.int (nI u)), some (.int (nI 4)), none, none]) rfl (fun d' hd' => ?_)
          refine am_run 2 (pc' := 2) (ls' := [some (.ref 41), some (.int (nI 0)), some (.int (nI u)), some (.int (nI 4)), none, none]) (st' := [.int (nI 0), .ref 41]) (σ' := σ) rfl ?_
          refine am_invv (y := 140) (b := 41) (as := [.int (nI 0)]) (rest := []) rfl rfl rfl rfl rfl rfl rfl (Nat.le_of_ble_eq_true rfl) ?_
          refine c_filled0_1 (by omega) hf ?_
          show am_G _ M_X9_node _ 5 [some (.ref 41), some (.int (nI 0)), some (.int (nI u)), some (.int (nI 4)), none, none] [.ref 73] σ
          refine am_run 4 (pc' := 14) (ls' := [some (.ref 41), some (.int (nI 0)), some (.int (nI u)), some (.int (nI 4)), some (.ref 73), none]) (st' := [.ref 73]) (σ' := σ) rfl ?_
          refine am_invv (y := 66) (b := 73) (as := []) (rest := []) rfl rfl rfl rfl rfl rfl rfl (Nat.le_of_ble_eq_true rfl) ?_
          refine am_enter' rfl rfl rfl (by omega) (ls := [some (.ref 73)]) rfl (fun d_1 hd_1 => ?_)
          refine am_run 2 (pc' := 4) (ls' := [some (.ref 73)]) (st' := [.ref (σ.2 73 1)]) (σ' := σ) rfl ?_
          refine am_reta rfl rfl (Or.inr ⟨_, rfl⟩) ?_
          show am_G _ M_X9_node _ 17 [some (.ref 41), some (.int (nI 0)), some (.int (nI u)), some (.int (nI 4)), some (.ref 73), none] [.ref (σ.2 73 1)] σ
          refine am_run 1 (pc' := 18) (ls' := [some (.ref 41), some (.int (nI 0)), some (.int (nI u)), some (.int (nI 4)), some (.ref 73), none]) (st' := [.int (nI u), .ref (σ.2 73 1)]) (σ' := σ) rfl ?_
          refine am_invv (y := 106) (b := (σ.2 73 1)) (as := [.int (nI u)]) (rest := []) rfl rfl rfl rfl rfl rfl (t3_kind hT3) (Nat.le_of_ble_eq_true rfl) ?_
          refine c_has (by omega) hW hR hu ?_
          show am_G _ M_X9_node _ 21 [some (.ref 41), some (.int (nI 0)), some (.int (nI u)), some (.int (nI 4)), some (.ref 73), none] [.int (nI 1)] σ
          refine am_if (ty := 24) (tn := 27) rfl (by decide) rfl rfl (fun (h_2 : nI 1 = 0) => ?_) (fun (h_2 : ¬ (nI 1 = 0)) => ?_)
          · exact absurd h_2 (by decide)
          refine am_run 1 (pc' := 29) (ls' := [some (.ref 41), some (.int (nI 0)), some (.int (nI u)), some (.int (nI 4)), some (.ref 73), none]) (st' := [.ref 73]) (σ' := σ) rfl ?_
          refine am_invv (y := 66) (b := 73) (as := []) (rest := []) rfl rfl rfl rfl rfl rfl rfl (Nat.le_of_ble_eq_true rfl) ?_
          refine am_enter' rfl rfl rfl (by omega) (ls := [some (.ref 73)]) rfl (fun d_3 hd_3 => ?_)
          refine am_run 2 (pc' := 4) (ls' := [some (.ref 73)]) (st' := [.ref (σ.2 73 1)]) (σ' := σ) rfl ?_
          refine am_reta rfl rfl (Or.inr ⟨_, rfl⟩) ?_
          show am_G _ M_X9_node _ 32 [some (.ref 41), some (.int (nI 0)), some (.int (nI u)), some (.int (nI 4)), some (.ref 73), none] [.ref (σ.2 73 1)] σ
          refine am_run 2 (pc' := 35) (ls' := [some (.ref 41), some (.int (nI 0)), some (.int (nI u)), some (.int (nI 4)), some (.ref 73), some (.ref (σ.2 73 1))]) (st' := [.int (nI 4)]) (σ' := σ) rfl ?_
          refine am_tsw rfl rfl (L := [(0, 37), (1, 44), (2, 51), (3, 58), (4, 65), (5, 72)]) rfl ?_
          refine am_sw1 (k := nI 0) (tgt := 72) rfl (by decide) (by decide) rfl (fun h_z => absurd h_z (by decide)) (fun _ => ?_)
          refine am_sw1 (k := nI 1) (tgt := 79) rfl (by decide) (by decide) rfl (fun h_z => absurd h_z (by decide)) (fun _ => ?_)
          refine am_sw1 (k := nI 2) (tgt := 86) rfl (by decide) (by decide) rfl (fun h_z => absurd h_z (by decide)) (fun _ => ?_)
          refine am_sw1 (k := nI 3) (tgt := 93) rfl (by decide) (by decide) rfl (fun h_z => absurd h_z (by decide)) (fun _ => ?_)
          refine am_sw1 (k := nI 4) (tgt := 100) rfl (by decide) (by decide) rfl (fun _ => ?_) (fun h_z => absurd rfl h_z)
          refine am_run 2 (pc' := 103) (ls' := [some (.ref 41), some (.int (nI 0)), some (.int (nI u)), some (.int (nI 4)), some (.ref 73), some (.ref (σ.2 73 1))]) (st' := [.int (nI u), .ref (σ.2 73 1)]) (σ' := σ) rfl ?_
          refine am_invs (y := 1) (as := [.ref (σ.2 73 1), .int (nI u)]) (rest := []) rfl rfl rfl rfl rfl rfl (Nat.le_of_ble_eq_true rfl) ?_
          refine c_a_instN (by omega) hW hR hu ?_
          show am_G _ M_X9_node _ 106 [some (.ref 41), some (.int (nI 0)), some (.int (nI u)), some (.int (nI 4)), some (.ref 73), some (.ref (σ.2 73 1))] [.int (nI ((an p 61 (u + 1) ST false 0 0).2.2.2))] σ
          refine am_reti rfl rfl ?_
          refine ⟨rfl, ?_⟩
          refine am_enter' (M := M_X10_node) rfl rfl rfl (by omega) (ls := [some (.ref 0), some (.int (nI 0)), some (.int (nI u)), some (.int (nI 4)), none]) rfl (fun d2 hd2 => ?_)
          refine am_run 2 (pc' := 2) (ls' := [some (.ref 0), some (.int (nI 0)), some (.int (nI u)), some (.int (nI 4)), none]) (st' := [.int (nI 0), .ref 0]) (σ' := σ) rfl ?_
          refine am_invv (y := 151) (b := 0) (as := [.int (nI 0)]) (rest := []) rfl rfl rfl rfl rfl rfl rfl (Nat.le_of_ble_eq_true rfl) ?_
          refine c_prog0_1 (by omega) (n := n) (by exact hn2) hn1 hn60 ?_
          show am_G _ M_X10_node _ 5 [some (.ref 0), some (.int (nI 0)), some (.int (nI u)), some (.int (nI 4)), none] [.int (nI 1)] σ
          refine am_if (ty := 24) (tn := 8) rfl (by decide) rfl rfl (fun (h_101 : nI 1 = 0) => ?_) (fun (h_101 : ¬ (nI 1 = 0)) => ?_)
          · exact absurd h_101 (by decide)
          refine am_run 5 (pc' := 15) (ls' := [some (.ref 0), some (.int (nI 0)), some (.int (nI u)), some (.int (nI 4)), none]) (st' := [.int (nI 0), .ref 2, .int (nI 0), .int (nI u)]) (σ' := σ) rfl ?_
          refine am_ialdN (n := 3) (v := nI n) rfl rfl rfl (by omega) hn2 (by decide) ?_
          refine am_run 2 (pc' := 18) (ls' := [some (.ref 0), some (.int (nI 0)), some (.int (nI u)), some (.int (nI 4)), none]) (st' := [.int (nI n - nI 1), .int (nI 0), .int (nI u)]) (σ' := σ) rfl ?_
          refine am_top (v' := nI (n - 1)) (nx_sub (by omega)) ?_
          refine am_invs (y := 148) (as := [.int (nI u), .int (nI 0), .int (nI (n - 1))]) (rest := []) rfl rfl rfl rfl rfl rfl (Nat.le_of_ble_eq_true rfl) ?_
          refine c_in1 (by omega) (by omega) (by omega) (by omega) ?_
          show am_G _ M_X10_node _ 21 [some (.ref 0), some (.int (nI 0)), some (.int (nI u)), some (.int (nI 4)), none] [.int (nI 1)] σ
          refine am_if (ty := 24) (tn := 27) rfl (by decide) rfl rfl (fun (h_102 : nI 1 = 0) => ?_) (fun (h_102 : ¬ (nI 1 = 0)) => ?_)
          · exact absurd h_102 (by decide)
          refine am_run 2 (pc' := 29) (ls' := [some (.ref 0), some (.int (nI 0)), some (.int (nI u)), some (.int (nI 4)), none]) (st' := [.int (nI u), .int (nI 0)]) (σ' := σ) rfl ?_
          refine am_invs (y := 158) (as := [.int (nI 0), .int (nI u)]) (rest := []) rfl rfl rfl rfl rfl rfl (Nat.le_of_ble_eq_true rfl) ?_
          refine c_m_placeOf (by omega) ?_
          show am_G _ M_X10_node _ 32 [some (.ref 0), some (.int (nI 0)), some (.int (nI u)), some (.int (nI 4)), none] [.int (nI (60 * 0 + u))] σ
          refine am_run 2 (pc' := 35) (ls' := [some (.ref 0), some (.int (nI 0)), some (.int (nI u)), some (.int (nI 4)), some (.int (nI (60 * 0 + u)))]) (st' := [.int (nI 4)]) (σ' := σ) rfl ?_
          refine am_tsw rfl rfl (L := [(0, 37), (1, 45), (2, 53), (3, 61), (4, 69), (5, 77)]) rfl ?_
          refine am_sw1 (k := nI 0) (tgt := 72) rfl (by decide) (by decide) rfl (fun h_z => absurd h_z (by decide)) (fun _ => ?_)
          refine am_sw1 (k := nI 1) (tgt := 80) rfl (by decide) (by decide) rfl (fun h_z => absurd h_z (by decide)) (fun _ => ?_)
          refine am_sw1 (k := nI 2) (tgt := 88) rfl (by decide) (by decide) rfl (fun h_z => absurd h_z (by decide)) (fun _ => ?_)
          refine am_sw1 (k := nI 3) (tgt := 96) rfl (by decide) (by decide) rfl (fun h_z => absurd h_z (by decide)) (fun _ => ?_)
          refine am_sw1 (k := nI 4) (tgt := 104) rfl (by decide) (by decide) rfl (fun _ => ?_) (fun h_z => absurd rfl h_z)
          refine am_run 3 (pc' := 110) (ls' := [some (.ref 0), some (.int (nI 0)), some (.int (nI u)), some (.int (nI 4)), some (.int (nI (60 * 0 + u)))]) (st' := [.int (nI (60 * 0 + u)), .ref 16]) (σ' := σ) rfl ?_
          refine am_ialdN (n := 180) (v := nI ((an p 61 (u + 1) ST false 0 0).2.2.2)) rfl rfl rfl (by omega) d9 (by decide) ?_
          refine am_reti rfl rfl ?_
          exact ⟨rfl, hI⟩
        · skip
          refine ⟨nI (cnb (inb fs ls u) n), ?_⟩
          refine am_enter' (M := M_X9_node) rfl rfl rfl (by omega) (ls := [some (.ref 41), some (.int (nI 0)), some (.int (nI u)), some (.int (nI 5)), none, none]) rfl (fun d' hd' => ?_)
          refine am_run 2 (pc' := 2) (ls' := [some (.ref 41), some (.int (nI 0)), some (.int (nI u)), some (.int (nI 5)), none, none]) (st' := [.int (nI 0), .ref 41]) (σ' := σ) rfl ?_
          refine am_invv (y := 140) (b := 41) (as := [.int (nI 0)]) (rest := []) rfl rfl rfl rfl rfl rfl rfl (Nat.le_of_ble_eq_true rfl) ?_
          refine c_filled0_1 (by omega) hf ?_
          show am_G _ M_X9_node _ 5 [some (.ref 41), some (.int (nI 0)), some (.int (nI u)), some (.int (nI 5)), none, none] [.ref 73] σ
          refine am_run 4 (pc' := 14) (ls' := [some (.ref 41), some (.int (nI 0)), some (.int (nI u)), some (.int (nI 5)), some (.ref 73), none]) (st' := [.ref 73]) (σ' := σ) rfl ?_
          refine am_invv (y := 66) (b := 73) (as := []) (rest := []) rfl rfl rfl rfl rfl rfl rfl (Nat.le_of_ble_eq_true rfl) ?_
          refine am_enter' rfl rfl rfl (by omega) (ls := [some (.ref 73)]) rfl (fun d_1 hd_1 => ?_)
          refine am_run 2 (pc' := 4) (ls' := [some (.ref 73)]) (st' := [.ref (σ.2 73 1)]) (σ' := σ) rfl ?_
          refine am_reta rfl rfl (Or.inr ⟨_, rfl⟩) ?_
          show am_G _ M_X9_node _ 17 [some (.ref 41), some (.int (nI 0)), some (.int (nI u)), some (.int (nI 5)), some (.ref 73), none] [.ref (σ.2 73 1)] σ
          refine am_run 1 (pc' := 18) (ls' := [some (.ref 41), some (.int (nI 0)), some (.int (nI u)), some (.int (nI 5)), some (.ref 73), none]) (st' := [.int (nI u), .ref (σ.2 73 1)]) (σ' := σ) rfl ?_
          refine am_invv (y := 106) (b := (σ.2 73 1)) (as := [.int (nI u)]) (rest := []) rfl rfl rfl rfl rfl rfl (t3_kind hT3) (Nat.le_of_ble_eq_true rfl) ?_
          refine c_has (by omega) hW hR hu ?_
          show am_G _ M_X9_node _ 21 [some (.ref 41), some (.int (nI 0)), some (.int (nI u)), some (.int (nI 5)), some (.ref 73), none] [.int (nI 1)] σ
          refine am_if (ty := 24) (tn := 27) rfl (by decide) rfl rfl (fun (h_2 : nI 1 = 0) => ?_) (fun (h_2 : ¬ (nI 1 = 0)) => ?_)
          · exact absurd h_2 (by decide)
          refine am_run 1 (pc' := 29) (ls' := [some (.ref 41), some (.int (nI 0)), some (.int (nI u)), some (.int (nI 5)), some (.ref 73), none]) (st' := [.ref 73]) (σ' := σ) rfl ?_
          refine am_invv (y := 66) (b := 73) (as := []) (rest := []) rfl rfl rfl rfl rfl rfl rfl (Nat.le_of_ble_eq_true rfl) ?_
          refine am_enter' rfl rfl rfl (by omega) (ls := [some (.ref 73)]) rfl (fun d_3 hd_3 => ?_)
          refine am_run 2 (pc' := 4) (ls' := [some (.ref 73)]) (st' := [.ref (σ.2 73 1)]) (σ' := σ) rfl ?_
          refine am_reta rfl rfl (Or.inr ⟨_, rfl⟩) ?_
          show am_G _ M_X9_node _ 32 [some (.ref 41), some (.int (nI 0)), some (.int (nI u)), some (.int (nI 5)), some (.ref 73), none] [.ref (σ.2 73 1)] σ
          refine am_run 2 (pc' := 35) (ls' := [some (.ref 41), some (.int (nI 0)), some (.int (nI u)), some (.int (nI 5)), some (.ref 73), some (.ref (σ.2 73 1))]) (st' := [.int (nI 5)]) (σ' := σ) rfl ?_
          refine am_tsw rfl rfl (L := [(0, 37), (1, 44), (2, 51), (3, 58), (4, 65), (5, 72)]) rfl ?_
          refine am_sw1 (k := nI 0) (tgt := 72) rfl (by decide) (by decide) rfl (fun h_z => absurd h_z (by decide)) (fun _ => ?_)
          refine am_sw1 (k := nI 1) (tgt := 79) rfl (by decide) (by decide) rfl (fun h_z => absurd h_z (by decide)) (fun _ => ?_)
          refine am_sw1 (k := nI 2) (tgt := 86) rfl (by decide) (by decide) rfl (fun h_z => absurd h_z (by decide)) (fun _ => ?_)
          refine am_sw1 (k := nI 3) (tgt := 93) rfl (by decide) (by decide) rfl (fun h_z => absurd h_z (by decide)) (fun _ => ?_)
          refine am_sw1 (k := nI 4) (tgt := 100) rfl (by decide) (by decide) rfl (fun h_z => absurd h_z (by decide)) (fun _ => ?_)
          refine am_sw1 (k := nI 5) (tgt := 107) rfl (by decide) (by decide) rfl (fun _ => ?_) (fun h_z => absurd rfl h_z)
          refine am_run 2 (pc' := 110) (ls' := [some (.ref 41), some (.int (nI 0)), some (.int (nI u)), some (.int (nI 5)), some (.ref 73), some (.ref (σ.2 73 1))]) (st' := [.int (nI u), .ref (σ.2 73 1)]) (σ' := σ) rfl ?_
          refine am_invv (y := 121) (b := (σ.2 73 1)) (as := [.int (nI u)]) (rest := []) rfl rfl rfl rfl rfl rfl (t3_kind hT3) (Nat.le_of_ble_eq_true rfl) ?_
          refine c_containing (by omega) hT3 hR.2.1 hn60 hF (by omega) ?_
          show am_G _ M_X9_node _ 113 [some (.ref 41), some (.int (nI 0)), some (.int (nI u)), some (.int (nI 5)), some (.ref 73), some (.ref (σ.2 73 1))] [.int (nI (cnb (inb fs ls u) n))] σ
          refine am_reti rfl rfl ?_
          refine ⟨rfl, ?_⟩
          refine am_enter' (M := M_X10_node) rfl rfl rfl (by omega) (ls := [some (.ref 0), some (.int (nI 0)), some (.int (nI u)), some (.int (nI 5)), none]) rfl (fun d2 hd2 => ?_)
          refine am_run 2 (pc' := 2) (ls' := [some (.ref 0), some (.int (nI 0)), some (.int (nI u)), some (.int (nI 5)), none]) (st' := [.int (nI 0), .ref 0]) (σ' := σ) rfl ?_
          refine am_invv (y := 151) (b := 0) (as := [.int (nI 0)]) (rest := []) rfl rfl rfl rfl rfl rfl rfl (Nat.le_of_ble_eq_true rfl) ?_
          refine c_prog0_1 (by omega) (n := n) (by exact hn2) hn1 hn60 ?_
          show am_G _ M_X10_node _ 5 [some (.ref 0), some (.int (nI 0)), some (.int (nI u)), some (.int (nI 5)), none] [.int (nI 1)] σ
          refine am_if (ty := 24) (tn := 8) rfl (by decide) rfl rfl (fun (h_101 : nI 1 = 0) => ?_) (fun (h_101 : ¬ (nI 1 = 0)) => ?_)
          · exact absurd h_101 (by decide)
          refine am_run 5 (pc' := 15) (ls' := [some (.ref 0), some (.int (nI 0)), some (.int (nI u)), some (.int (nI 5)), none]) (st' := [.int (nI 0), .ref 2, .int (nI 0), .int (nI u)]) (σ' := σ) rfl ?_
          refine am_ialdN (n := 3) (v := nI n) rfl rfl rfl (by omega) hn2 (by decide) ?_
          refine am_run 2 (pc' := 18) (ls' := [some (.ref 0), some (.int (nI 0)), some (.int (nI u)), some (.int (nI 5)), none]) (st' := [.int (nI n - nI 1), .int (nI 0), .int (nI u)]) (σ' := σ) rfl ?_
          refine am_top (v' := nI (n - 1)) (nx_sub (by omega)) ?_
          refine am_invs (y := 148) (as := [.int (nI u), .int (nI 0), .int (nI (n - 1))]) (rest := []) rfl rfl rfl rfl rfl rfl (Nat.le_of_ble_eq_true rfl) ?_
          refine c_in1 (by omega) (by omega) (by omega) (by omega) ?_
          show am_G _ M_X10_node _ 21 [some (.ref 0), some (.int (nI 0)), some (.int (nI u)), some (.int (nI 5)), none] [.int (nI 1)] σ
          refine am_if (ty := 24) (tn := 27) rfl (by decide) rfl rfl (fun (h_102 : nI 1 = 0) => ?_) (fun (h_102 : ¬ (nI 1 = 0)) => ?_)
          · exact absurd h_102 (by decide)
          refine am_run 2 (pc' := 29) (ls' := [some (.ref 0), some (.int (nI 0)), some (.int (nI u)), some (.int (nI 5)), none]) (st' := [.int (nI u), .int (nI 0)]) (σ' := σ) rfl ?_
          refine am_invs (y := 158) (as := [.int (nI 0), .int (nI u)]) (rest := []) rfl rfl rfl rfl rfl rfl (Nat.le_of_ble_eq_true rfl) ?_
          refine c_m_placeOf (by omega) ?_
          show am_G _ M_X10_node _ 32 [some (.ref 0), some (.int (nI 0)), some (.int (nI u)), some (.int (nI 5)), none] [.int (nI (60 * 0 + u))] σ
          refine am_run 2 (pc' := 35) (ls' := [some (.ref 0), some (.int (nI 0)), some (.int (nI u)), some (.int (nI 5)), some (.int (nI (60 * 0 + u)))]) (st' := [.int (nI 5)]) (σ' := σ) rfl ?_
          refine am_tsw rfl rfl (L := [(0, 37), (1, 45), (2, 53), (3, 61), (4, 69), (5, 77)]) rfl ?_
          refine am_sw1 (k := nI 0) (tgt := 72) rfl (by decide) (by decide) rfl (fun h_z => absurd h_z (by decide)) (fun _ => ?_)
          refine am_sw1 (k := nI 1) (tgt := 80) rfl (by decide) (by decide) rfl (fun h_z => absurd h_z (by decide)) (fun _ => ?_)
          refine am_sw1 (k := nI 2) (tgt := 88) rfl (by decide) (by decide) rfl (fun h_z => absurd h_z (by decide)) (fun _ => ?_)
          refine am_sw1 (k := nI 3) (tgt := 96) rfl (by decide) (by decide) rfl (fun h_z => absurd h_z (by decide)) (fun _ => ?_)
          refine am_sw1 (k := nI 4) (tgt := 104) rfl (by decide) (by decide) rfl (fun h_z => absurd h_z (by decide)) (fun _ => ?_)
          refine am_sw1 (k := nI 5) (tgt := 112) rfl (by decide) (by decide) rfl (fun _ => ?_) (fun h_z => absurd rfl h_z)
          refine am_run 2 (pc' := 115) (ls' := [some (.ref 0), some (.int (nI 0)), some (.int (nI u)), some (.int (nI 5)), some (.int (nI (60 * 0 + u)))]) (st' := [.int (nI (60 * 0 + u)), .ref 0]) (σ' := σ) rfl ?_
          refine am_invv (y := 251) (b := 0) (as := [.int (nI (60 * 0 + u))]) (rest := []) rfl rfl rfl rfl rfl rfl rfl (Nat.le_of_ble_eq_true rfl) ?_
          refine c_inHow (by omega) (by decide) hn60 hrk hA hu ?_
          show am_G _ M_X10_node _ 118 [some (.ref 0), some (.int (nI 0)), some (.int (nI u)), some (.int (nI 5)), some (.int (nI (60 * 0 + u)))] [.int (nI (cnb (inb fs ls u) n))] σ
          refine am_reti rfl rfl ?_
          exact ⟨rfl, hI⟩
      · skip
        refine ⟨-1000002, ?_⟩
        refine am_enter' (M := M_X9_node) rfl rfl rfl (by omega) (ls := [some (.ref 41), some (.int (nI 0)), some (.int (nI u)), some (.int z), none, none]) rfl (fun d' hd' => ?_)
        refine am_run 2 (pc' := 2) (ls' := [some (.ref 41), some (.int (nI 0)), some (.int (nI u)), some (.int z), none, none]) (st' := [.int (nI 0), .ref 41]) (σ' := σ) rfl ?_
        refine am_invv (y := 140) (b := 41) (as := [.int (nI 0)]) (rest := []) rfl rfl rfl rfl rfl rfl rfl (Nat.le_of_ble_eq_true rfl) ?_
        refine c_filled0_1 (by omega) hf ?_
        show am_G _ M_X9_node _ 5 [some (.ref 41), some (.int (nI 0)), some (.int (nI u)), some (.int z), none, none] [.ref 73] σ
        refine am_run 4 (pc' := 14) (ls' := [some (.ref 41), some (.int (nI 0)), some (.int (nI u)), some (.int z), some (.ref 73), none]) (st' := [.ref 73]) (σ' := σ) rfl ?_
        refine am_invv (y := 66) (b := 73) (as := []) (rest := []) rfl rfl rfl rfl rfl rfl rfl (Nat.le_of_ble_eq_true rfl) ?_
        refine am_enter' rfl rfl rfl (by omega) (ls := [some (.ref 73)]) rfl (fun d_1 hd_1 => ?_)
        refine am_run 2 (pc' := 4) (ls' := [some (.ref 73)]) (st' := [.ref (σ.2 73 1)]) (σ' := σ) rfl ?_
        refine am_reta rfl rfl (Or.inr ⟨_, rfl⟩) ?_
        show am_G _ M_X9_node _ 17 [some (.ref 41), some (.int (nI 0)), some (.int (nI u)), some (.int z), some (.ref 73), none] [.ref (σ.2 73 1)] σ
        refine am_run 1 (pc' := 18) (ls' := [some (.ref 41), some (.int (nI 0)), some (.int (nI u)), some (.int z), some (.ref 73), none]) (st' := [.int (nI u), .ref (σ.2 73 1)]) (σ' := σ) rfl ?_
        refine am_invv (y := 106) (b := (σ.2 73 1)) (as := [.int (nI u)]) (rest := []) rfl rfl rfl rfl rfl rfl (t3_kind hT3) (Nat.le_of_ble_eq_true rfl) ?_
        refine c_has (by omega) hW hR hu ?_
        show am_G _ M_X9_node _ 21 [some (.ref 41), some (.int (nI 0)), some (.int (nI u)), some (.int z), some (.ref 73), none] [.int (nI 1)] σ
        refine am_if (ty := 24) (tn := 27) rfl (by decide) rfl rfl (fun (h_2 : nI 1 = 0) => ?_) (fun (h_2 : ¬ (nI 1 = 0)) => ?_)
        · exact absurd h_2 (by decide)
        refine am_run 1 (pc' := 29) (ls' := [some (.ref 41), some (.int (nI 0)), some (.int (nI u)), some (.int z), some (.ref 73), none]) (st' := [.ref 73]) (σ' := σ) rfl ?_
        refine am_invv (y := 66) (b := 73) (as := []) (rest := []) rfl rfl rfl rfl rfl rfl rfl (Nat.le_of_ble_eq_true rfl) ?_
        refine am_enter' rfl rfl rfl (by omega) (ls := [some (.ref 73)]) rfl (fun d_3 hd_3 => ?_)
        refine am_run 2 (pc' := 4) (ls' := [some (.ref 73)]) (st' := [.ref (σ.2 73 1)]) (σ' := σ) rfl ?_
        refine am_reta rfl rfl (Or.inr ⟨_, rfl⟩) ?_
        show am_G _ M_X9_node _ 32 [some (.ref 41), some (.int (nI 0)), some (.int (nI u)), some (.int z), some (.ref 73), none] [.ref (σ.2 73 1)] σ
        refine am_run 2 (pc' := 35) (ls' := [some (.ref 41), some (.int (nI 0)), some (.int (nI u)), some (.int z), some (.ref 73), some (.ref (σ.2 73 1))]) (st' := [.int z]) (σ' := σ) rfl ?_
        refine am_tsw rfl rfl (L := [(0, 37), (1, 44), (2, 51), (3, 58), (4, 65), (5, 72)]) rfl ?_
        refine am_sw1 (k := nI 0) (tgt := 72) rfl (by decide) (by decide) rfl (fun h_z => absurd h_z (out_ne hz (by decide) (by decide))) (fun _ => ?_)
        refine am_sw1 (k := nI 1) (tgt := 79) rfl (by decide) (by decide) rfl (fun h_z => absurd h_z (out_ne hz (by decide) (by decide))) (fun _ => ?_)
        refine am_sw1 (k := nI 2) (tgt := 86) rfl (by decide) (by decide) rfl (fun h_z => absurd h_z (out_ne hz (by decide) (by decide))) (fun _ => ?_)
        refine am_sw1 (k := nI 3) (tgt := 93) rfl (by decide) (by decide) rfl (fun h_z => absurd h_z (out_ne hz (by decide) (by decide))) (fun _ => ?_)
        refine am_sw1 (k := nI 4) (tgt := 100) rfl (by decide) (by decide) rfl (fun h_z => absurd h_z (out_ne hz (by decide) (by decide))) (fun _ => ?_)
        refine am_sw1 (k := nI 5) (tgt := 107) rfl (by decide) (by decide) rfl (fun h_z => absurd h_z (out_ne hz (by decide) (by decide))) (fun _ => ?_)
        refine am_sw0 (tgt := 114) (by decide) rfl ?_
        refine am_run 1 (pc' := 116) (ls' := [some (.ref 41), some (.int (nI 0)), some (.int (nI u)), some (.int z), some (.ref 73), some (.ref (σ.2 73 1))]) (st' := [.int (-1000002)]) (σ' := σ) rfl ?_
        refine am_reti rfl rfl ?_
        refine ⟨rfl, ?_⟩
        refine am_enter' (M := M_X10_node) rfl rfl rfl (by omega) (ls := [some (.ref 0), some (.int (nI 0)), some (.int (nI u)), some (.int z), none]) rfl (fun d2 hd2 => ?_)
        refine am_run 2 (pc' := 2) (ls' := [some (.ref 0), some (.int (nI 0)), some (.int (nI u)), some (.int z), none]) (st' := [.int (nI 0), .ref 0]) (σ' := σ) rfl ?_
        refine am_invv (y := 151) (b := 0) (as := [.int (nI 0)]) (rest := []) rfl rfl rfl rfl rfl rfl rfl (Nat.le_of_ble_eq_true rfl) ?_
        refine c_prog0_1 (by omega) (n := n) (by exact hn2) hn1 hn60 ?_
        show am_G _ M_X10_node _ 5 [some (.ref 0), some (.int (nI 0)), some (.int (nI u)), some (.int z), none] [.int (nI 1)] σ
        refine am_if (ty := 24) (tn := 8) rfl (by decide) rfl rfl (fun (h_101 : nI 1 = 0) => ?_) (fun (h_101 : ¬ (nI 1 = 0)) => ?_)
        · exact absurd h_101 (by decide)
        refine am_run 5 (pc' := 15) (ls' := [some (.ref 0), some (.int (nI 0)), some (.int (nI u)), some (.int z), none]) (st' := [.int (nI 0), .ref 2, .int (nI 0), .int (nI u)]) (σ' := σ) rfl ?_
        refine am_ialdN (n := 3) (v := nI n) rfl rfl rfl (by omega) hn2 (by decide) ?_
        refine am_run 2 (pc' := 18) (ls' := [some (.ref 0), some (.int (nI 0)), some (.int (nI u)), some (.int z), none]) (st' := [.int (nI n - nI 1), .int (nI 0), .int (nI u)]) (σ' := σ) rfl ?_
        refine am_top (v' := nI (n - 1)) (nx_sub (by omega)) ?_
        refine am_invs (y := 148) (as := [.int (nI u), .int (nI 0), .int (nI (n - 1))]) (rest := []) rfl rfl rfl rfl rfl rfl (Nat.le_of_ble_eq_true rfl) ?_
        refine c_in1 (by omega) (by omega) (by omega) (by omega) ?_
        show am_G _ M_X10_node _ 21 [some (.ref 0), some (.int (nI 0)), some (.int (nI u)), some (.int z), none] [.int (nI 1)] σ
        refine am_if (ty := 24) (tn := 27) rfl (by decide) rfl rfl (fun (h_102 : nI 1 = 0) => ?_) (fun (h_102 : ¬ (nI 1 = 0)) => ?_)
        · exact absurd h_102 (by decide)
        refine am_run 2 (pc' := 29) (ls' := [some (.ref 0), some (.int (nI 0)), some (.int (nI u)), some (.int z), none]) (st' := [.int (nI u), .int (nI 0)]) (σ' := σ) rfl ?_
        refine am_invs (y := 158) (as := [.int (nI 0), .int (nI u)]) (rest := []) rfl rfl rfl rfl rfl rfl (Nat.le_of_ble_eq_true rfl) ?_
        refine c_m_placeOf (by omega) ?_
        show am_G _ M_X10_node _ 32 [some (.ref 0), some (.int (nI 0)), some (.int (nI u)), some (.int z), none] [.int (nI (60 * 0 + u))] σ
        refine am_run 2 (pc' := 35) (ls' := [some (.ref 0), some (.int (nI 0)), some (.int (nI u)), some (.int z), some (.int (nI (60 * 0 + u)))]) (st' := [.int z]) (σ' := σ) rfl ?_
        refine am_tsw rfl rfl (L := [(0, 37), (1, 45), (2, 53), (3, 61), (4, 69), (5, 77)]) rfl ?_
        refine am_sw1 (k := nI 0) (tgt := 72) rfl (by decide) (by decide) rfl (fun h_z => absurd h_z (out_ne hz (by decide) (by decide))) (fun _ => ?_)
        refine am_sw1 (k := nI 1) (tgt := 80) rfl (by decide) (by decide) rfl (fun h_z => absurd h_z (out_ne hz (by decide) (by decide))) (fun _ => ?_)
        refine am_sw1 (k := nI 2) (tgt := 88) rfl (by decide) (by decide) rfl (fun h_z => absurd h_z (out_ne hz (by decide) (by decide))) (fun _ => ?_)
        refine am_sw1 (k := nI 3) (tgt := 96) rfl (by decide) (by decide) rfl (fun h_z => absurd h_z (out_ne hz (by decide) (by decide))) (fun _ => ?_)
        refine am_sw1 (k := nI 4) (tgt := 104) rfl (by decide) (by decide) rfl (fun h_z => absurd h_z (out_ne hz (by decide) (by decide))) (fun _ => ?_)
        refine am_sw1 (k := nI 5) (tgt := 112) rfl (by decide) (by decide) rfl (fun h_z => absurd h_z (out_ne hz (by decide) (by decide))) (fun _ => ?_)
        refine am_sw0 (tgt := 119) (by decide) rfl ?_
        refine am_run 1 (pc' := 121) (ls' := [some (.ref 0), some (.int (nI 0)), some (.int (nI u)), some (.int z), some (.int (nI (60 * 0 + u)))]) (st' := [.int (-1000002)]) (σ' := σ) rfl ?_
        refine am_reti rfl rfl ?_
        exact ⟨rfl, hI⟩
    · skip
      refine ⟨-1000001, ?_⟩
      refine am_enter' (M := M_X9_node) rfl rfl rfl (by omega) (ls := [some (.ref 41), some (.int (nI 0)), some (.int y), some (.int z), none, none]) rfl (fun d' hd' => ?_)
      refine am_run 2 (pc' := 2) (ls' := [some (.ref 41), some (.int (nI 0)), some (.int y), some (.int z), none, none]) (st' := [.int (nI 0), .ref 41]) (σ' := σ) rfl ?_
      refine am_invv (y := 140) (b := 41) (as := [.int (nI 0)]) (rest := []) rfl rfl rfl rfl rfl rfl rfl (Nat.le_of_ble_eq_true rfl) ?_
      refine c_filled0_1 (by omega) hf ?_
      show am_G _ M_X9_node _ 5 [some (.ref 41), some (.int (nI 0)), some (.int y), some (.int z), none, none] [.ref 73] σ
      refine am_run 4 (pc' := 14) (ls' := [some (.ref 41), some (.int (nI 0)), some (.int y), some (.int z), some (.ref 73), none]) (st' := [.ref 73]) (σ' := σ) rfl ?_
      refine am_invv (y := 66) (b := 73) (as := []) (rest := []) rfl rfl rfl rfl rfl rfl rfl (Nat.le_of_ble_eq_true rfl) ?_
      refine am_enter' rfl rfl rfl (by omega) (ls := [some (.ref 73)]) rfl (fun d_1 hd_1 => ?_)
      refine am_run 2 (pc' := 4) (ls' := [some (.ref 73)]) (st' := [.ref (σ.2 73 1)]) (σ' := σ) rfl ?_
      refine am_reta rfl rfl (Or.inr ⟨_, rfl⟩) ?_
      show am_G _ M_X9_node _ 17 [some (.ref 41), some (.int (nI 0)), some (.int y), some (.int z), some (.ref 73), none] [.ref (σ.2 73 1)] σ
      refine am_run 1 (pc' := 18) (ls' := [some (.ref 41), some (.int (nI 0)), some (.int y), some (.int z), some (.ref 73), none]) (st' := [.int y, .ref (σ.2 73 1)]) (σ' := σ) rfl ?_
      refine am_invv (y := 106) (b := (σ.2 73 1)) (as := [.int y]) (rest := []) rfl rfl rfl rfl rfl rfl (t3_kind hT3) (Nat.le_of_ble_eq_true rfl) ?_
      refine c_has_out (by omega) hT3 hR.2.1 hn1 hn60 hy ?_
      show am_G _ M_X9_node _ 21 [some (.ref 41), some (.int (nI 0)), some (.int y), some (.int z), some (.ref 73), none] [.int (nI 0)] σ
      refine am_if (ty := 24) (tn := 27) rfl (by decide) rfl rfl (fun (h_2 : nI 0 = 0) => ?_) (fun (h_2 : ¬ (nI 0 = 0)) => ?_)
      rotate_left
      · exact absurd (by decide) h_2
      refine am_run 1 (pc' := 26) (ls' := [some (.ref 41), some (.int (nI 0)), some (.int y), some (.int z), some (.ref 73), none]) (st' := [.int (-1000001)]) (σ' := σ) rfl ?_
      refine am_reti rfl rfl ?_
      refine ⟨rfl, ?_⟩
      refine am_enter' (M := M_X10_node) rfl rfl rfl (by omega) (ls := [some (.ref 0), some (.int (nI 0)), some (.int y), some (.int z), none]) rfl (fun d2 hd2 => ?_)
      refine am_run 2 (pc' := 2) (ls' := [some (.ref 0), some (.int (nI 0)), some (.int y), some (.int z), none]) (st' := [.int (nI 0), .ref 0]) (σ' := σ) rfl ?_
      refine am_invv (y := 151) (b := 0) (as := [.int (nI 0)]) (rest := []) rfl rfl rfl rfl rfl rfl rfl (Nat.le_of_ble_eq_true rfl) ?_
      refine c_prog0_1 (by omega) (n := n) (by exact hn2) hn1 hn60 ?_
      show am_G _ M_X10_node _ 5 [some (.ref 0), some (.int (nI 0)), some (.int y), some (.int z), none] [.int (nI 1)] σ
      refine am_if (ty := 24) (tn := 8) rfl (by decide) rfl rfl (fun (h_101 : nI 1 = 0) => ?_) (fun (h_101 : ¬ (nI 1 = 0)) => ?_)
      · exact absurd h_101 (by decide)
      refine am_run 5 (pc' := 15) (ls' := [some (.ref 0), some (.int (nI 0)), some (.int y), some (.int z), none]) (st' := [.int (nI 0), .ref 2, .int (nI 0), .int y]) (σ' := σ) rfl ?_
      refine am_ialdN (n := 3) (v := nI n) rfl rfl rfl (by omega) hn2 (by decide) ?_
      refine am_run 2 (pc' := 18) (ls' := [some (.ref 0), some (.int (nI 0)), some (.int y), some (.int z), none]) (st' := [.int (nI n - nI 1), .int (nI 0), .int y]) (σ' := σ) rfl ?_
      refine am_top (v' := nI (n - 1)) (nx_sub (by omega)) ?_
      refine am_invs (y := 148) (as := [.int y, .int (nI 0), .int (nI (n - 1))]) (rest := []) rfl rfl rfl rfl rfl rfl (Nat.le_of_ble_eq_true rfl) ?_
      refine c_in0 (by omega) hy ?_
      show am_G _ M_X10_node _ 21 [some (.ref 0), some (.int (nI 0)), some (.int y), some (.int z), none] [.int (nI 0)] σ
      refine am_if (ty := 24) (tn := 27) rfl (by decide) rfl rfl (fun (h_102 : nI 0 = 0) => ?_) (fun (h_102 : ¬ (nI 0 = 0)) => ?_)
      rotate_left
      · exact absurd (by decide) h_102
      refine am_run 1 (pc' := 26) (ls' := [some (.ref 0), some (.int (nI 0)), some (.int y), some (.int z), none]) (st' := [.int (-1000001)]) (σ' := σ) rfl ?_
      refine am_reti rfl rfl ?_
      exact ⟨rfl, hI⟩
  · obtain ⟨hf, p, n, r, kk, rk, od, dp, ow, s, m, hP, hH⟩ := hF
    obtain ⟨hn1, hR, hro, hM, hk1, hk2, hkk, hND⟩ := id hP
    obtain ⟨a3, b3, hv, a4, b4, hm, hh⟩ := id hH
    have hW := hM.1.2.1
    have hn60 := hW.1
    have hs := hv.1
    have hrn : r < n := hM.2.1.2.1
    have hn2 := hM.1.2.2.2.1
    obtain ⟨fs, ls, pa, hND2⟩ := hND
    have hF : ∀ o, o < n → σ.1 (σ.2 75 1 + 6) o = nI (fs o) ∧ σ.1 (σ.2 75 1 + 7) o = nI (ls o) ∧ fs o < 60 ∧ ls o < 60 := fun o ho => by
      obtain ⟨e1, e2, e3, e4, e5, -⟩ := hND2 o ho
      exact ⟨e1, e2, by omega, by omega⟩
    have hA : ∀ i, i < n → σ.1 15 (60 * 1 + i) = oI (pa i) ∧ pa i ≤ n ∧ (pa i = 0 → ∀ o, o < n → o ≠ i → ¬ (fs o ≤ i ∧ i ≤ ls o)) ∧ (pa i ≠ 0 → rk i < rk (pa i - 1) ∧ (fs (pa i - 1) ≤ i ∧ i ≤ ls (pa i - 1)) ∧ ¬ (fs i ≤ pa i - 1 ∧ pa i - 1 ≤ ls i) ∧ ∀ o, o < n → o ≠ i → o ≠ pa i - 1 → (fs o ≤ i ∧ i ≤ ls o ↔ fs o ≤ pa i - 1 ∧ pa i - 1 ≤ ls o)) := fun o ho => by
      obtain ⟨-, -, -, -, -, -, e7, e8, -, e10, e11⟩ := hND2 o ho
      exact ⟨e7, e8, e10, e11⟩
    have hrk : ∀ i, i < n → rk i < n := fun o ho => (hM.1.2.2.1.RK o ho).1
    have hT3 := hR.t3
    rcases i32_in y (k := n - 1) (by omega) with ⟨u, hu0, rfl⟩ | hy
    · have hu : u < n := by omega
      obtain ⟨d1, d2_, d3, d4, d5, d6, d7, d8, d9, -⟩ := hND2 u hu
      obtain ⟨m0, m1, -, -, m4, -⟩ := hM.1.2.2.2.2.2.2 u hu
      rcases i32_in z (k := 5) (by decide) with ⟨u2, hu2, rfl⟩ | hz
      · rcases (show u2 = 0 ∨ u2 = 1 ∨ u2 = 2 ∨ u2 = 3 ∨ u2 = 4 ∨ u2 = 5 by omega) with rfl | rfl | rfl | rfl | rfl | rfl
        · skip
          refine ⟨nI (p 0 u), ?_⟩
          refine am_enter' (M := M_X9_node) rfl rfl rfl (by omega) (ls := [some (.ref 41), some (.int (nI 1)), some (.int (nI u)), some (.int (nI 0)), none, none]) rfl (fun d' hd' => ?_)
          refine am_run 2 (pc' := 2) (ls' := [some (.ref 41), some (.int (nI 1)), some (.int (nI u)), some (.int (nI 0)), none, none]) (st' := [.int (nI 1), .ref 41]) (σ' := σ) rfl ?_
          refine am_invv (y := 140) (b := 41) (as := [.int (nI 1)]) (rest := []) rfl rfl rfl rfl rfl rfl rfl (Nat.le_of_ble_eq_true rfl) ?_
          refine c_filled1_1 (by omega) hf ?_
          show am_G _ M_X9_node _ 5 [some (.ref 41), some (.int (nI 1)), some (.int (nI u)), some (.int (nI 0)), none, none] [.ref 75] σ
          refine am_run 4 (pc' := 14) (ls' := [some (.ref 41), some (.int (nI 1)), some (.int (nI u)), some (.int (nI 0)), some (.ref 75), none]) (st' := [.ref 75]) (σ' := σ) rfl ?_
          refine am_invv (y := 66) (b := 75) (as := []) (rest := []) rfl rfl rfl rfl rfl rfl rfl (Nat.le_of_ble_eq_true rfl) ?_
          refine am_enter' rfl rfl rfl (by omega) (ls := [some (.ref 75)]) rfl (fun d_1 hd_1 => ?_)
          refine am_run 2 (pc' := 4) (ls' := [some (.ref 75)]) (st' := [.ref (σ.2 75 1)]) (σ' := σ) rfl ?_
          refine am_reta rfl rfl (Or.inr ⟨_, rfl⟩) ?_
          show am_G _ M_X9_node _ 17 [some (.ref 41), some (.int (nI 1)), some (.int (nI u)), some (.int (nI 0)), some (.ref 75), none] [.ref (σ.2 75 1)] σ
          refine am_run 1 (pc' := 18) (ls' := [some (.ref 41), some (.int (nI 1)), some (.int (nI u)), some (.int (nI 0)), some (.ref 75), none]) (st' := [.int (nI u), .ref (σ.2 75 1)]) (σ' := σ) rfl ?_
          refine am_invv (y := 106) (b := (σ.2 75 1)) (as := [.int (nI u)]) (rest := []) rfl rfl rfl rfl rfl rfl (t3_kind hT3) (Nat.le_of_ble_eq_true rfl) ?_
          refine c_has (by omega) hW hR hu ?_
          show am_G _ M_X9_node _ 21 [some (.ref 41), some (.int (nI 1)), some (.int (nI u)), some (.int (nI 0)), some (.ref 75), none] [.int (nI 1)] σ
          refine am_if (ty := 24) (tn := 27) rfl (by decide) rfl rfl (fun (h_2 : nI 1 = 0) => ?_) (fun (h_2 : ¬ (nI 1 = 0)) => ?_)
          · exact absurd h_2 (by decide)
          refine am_run 1 (pc' := 29) (ls' := [some (.ref 41), some (.int (nI 1)), some (.int (nI u)), some (.int (nI 0)), some (.ref 75), none]) (st' := [.ref 75]) (σ' := σ) rfl ?_
          refine am_invv (y := 66) (b := 75) (as := []) (rest := []) rfl rfl rfl rfl rfl rfl rfl (Nat.le_of_ble_eq_true rfl) ?_
          refine am_enter' rfl rfl rfl (by omega) (ls := [some (.ref 75)]) rfl (fun d_3 hd_3 => ?_)
          refine am_run 2 (pc' := 4) (ls' := [some (.ref 75)]) (st' := [.ref (σ.2 75 1)]) (σ' := σ) rfl ?_
          refine am_reta rfl rfl (Or.inr ⟨_, rfl⟩) ?_
          show am_G _ M_X9_node _ 32 [some (.ref 41), some (.int (nI 1)), some (.int (nI u)), some (.int (nI 0)), some (.ref 75), none] [.ref (σ.2 75 1)] σ
          refine am_run 2 (pc' := 35) (ls' := [some (.ref 41), some (.int (nI 1)), some (.int (nI u)), some (.int (nI 0)), some (.ref 75), some (.ref (σ.2 75 1))]) (st' := [.int (nI 0)]) (σ' := σ) rfl ?_
          refine am_tsw rfl rfl (L := [(0, 37), (1, 44), (2, 51), (3, 58), (4, 65), (5, 72)]) rfl ?_
          refine am_sw1 (k := nI 0) (tgt := 72) rfl (by decide) (by decide) rfl (fun _ => ?_) (fun h_z => absurd rfl h_z)
          refine am_run 2 (pc' := 75) (ls' := [some (.ref 41), some (.int (nI 1)), some (.int (nI u)), some (.int (nI 0)), some (.ref 75), some (.ref (σ.2 75 1))]) (st' := [.int (nI u), .ref (σ.2 75 1)]) (σ' := σ) rfl ?_
          refine am_invv (y := 112) (b := (σ.2 75 1)) (as := [.int (nI u)]) (rest := []) rfl rfl rfl rfl rfl rfl (t3_kind hT3) (Nat.le_of_ble_eq_true rfl) ?_
          refine c_tokenOf (by omega) hW hR hu ?_
          show am_G _ M_X9_node _ 78 [some (.ref 41), some (.int (nI 1)), some (.int (nI u)), some (.int (nI 0)), some (.ref 75), some (.ref (σ.2 75 1))] [.int (nI (p 0 u))] σ
          refine am_reti rfl rfl ?_
          refine ⟨rfl, ?_⟩
          refine am_enter' (M := M_X10_node) rfl rfl rfl (by omega) (ls := [some (.ref 0), some (.int (nI 1)), some (.int (nI u)), some (.int (nI 0)), none]) rfl (fun d2 hd2 => ?_)
          refine am_run 2 (pc' := 2) (ls' := [some (.ref 0), some (.int (nI 1)), some (.int (nI u)), some (.int (nI 0)), none]) (st' := [.int (nI 1), .ref 0]) (σ' := σ) rfl ?_
          refine am_invv (y := 151) (b := 0) (as := [.int (nI 1)]) (rest := []) rfl rfl rfl rfl rfl rfl rfl (Nat.le_of_ble_eq_true rfl) ?_
          refine c_prog1_1 (by omega) (n := n) (by exact hn2) hn1 hn60 ?_
          show am_G _ M_X10_node _ 5 [some (.ref 0), some (.int (nI 1)), some (.int (nI u)), some (.int (nI 0)), none] [.int (nI 1)] σ
          refine am_if (ty := 24) (tn := 8) rfl (by decide) rfl rfl (fun (h_101 : nI 1 = 0) => ?_) (fun (h_101 : ¬ (nI 1 = 0)) => ?_)
          · exact absurd h_101 (by decide)
          refine am_run 5 (pc' := 15) (ls' := [some (.ref 0), some (.int (nI 1)), some (.int (nI u)), some (.int (nI 0)), none]) (st' := [.int (nI 1), .ref 2, .int (nI 0), .int (nI u)]) (σ' := σ) rfl ?_
          refine am_ialdN (n := 3) (v := nI n) rfl rfl rfl (by omega) hn2 (by decide) ?_
          refine am_run 2 (pc' := 18) (ls' := [some (.ref 0), some (.int (nI 1)), some (.int (nI u)), some (.int (nI 0)), none]) (st' := [.int (nI n - nI 1), .int (nI 0), .int (nI u)]) (σ' := σ) rfl ?_
          refine am_top (v' := nI (n - 1)) (nx_sub (by omega)) ?_
          refine am_invs (y := 148) (as := [.int (nI u), .int (nI 0), .int (nI (n - 1))]) (rest := []) rfl rfl rfl rfl rfl rfl (Nat.le_of_ble_eq_true rfl) ?_
          refine c_in1 (by omega) (by omega) (by omega) (by omega) ?_
          show am_G _ M_X10_node _ 21 [some (.ref 0), some (.int (nI 1)), some (.int (nI u)), some (.int (nI 0)), none] [.int (nI 1)] σ
          refine am_if (ty := 24) (tn := 27) rfl (by decide) rfl rfl (fun (h_102 : nI 1 = 0) => ?_) (fun (h_102 : ¬ (nI 1 = 0)) => ?_)
          · exact absurd h_102 (by decide)
          refine am_run 2 (pc' := 29) (ls' := [some (.ref 0), some (.int (nI 1)), some (.int (nI u)), some (.int (nI 0)), none]) (st' := [.int (nI u), .int (nI 1)]) (σ' := σ) rfl ?_
          refine am_invs (y := 158) (as := [.int (nI 1), .int (nI u)]) (rest := []) rfl rfl rfl rfl rfl rfl (Nat.le_of_ble_eq_true rfl) ?_
          refine c_m_placeOf (by omega) ?_
          show am_G _ M_X10_node _ 32 [some (.ref 0), some (.int (nI 1)), some (.int (nI u)), some (.int (nI 0)), none] [.int (nI (60 * 1 + u))] σ
          refine am_run 2 (pc' := 35) (ls' := [some (.ref 0), some (.int (nI 1)), some (.int (nI u)), some (.int (nI 0)), some (.int (nI (60 * 1 + u)))]) (st' := [.int (nI 0)]) (σ' := σ) rfl ?_
          refine am_tsw rfl rfl (L := [(0, 37), (1, 45), (2, 53), (3, 61), (4, 69), (5, 77)]) rfl ?_
          refine am_sw1 (k := nI 0) (tgt := 72) rfl (by decide) (by decide) rfl (fun _ => ?_) (fun h_z => absurd rfl h_z)
          refine am_run 3 (pc' := 78) (ls' := [some (.ref 0), some (.int (nI 1)), some (.int (nI u)), some (.int (nI 0)), some (.int (nI (60 * 1 + u)))]) (st' := [.int (nI (60 * 1 + u)), .ref 5]) (σ' := σ) rfl ?_
          refine am_ialdN (n := 180) (v := nI (p 0 u)) rfl rfl rfl (by omega) m0 (by decide) ?_
          refine am_reti rfl rfl ?_
          exact ⟨rfl, hI⟩
        · skip
          refine ⟨oI (p 1 u), ?_⟩
          refine am_enter' (M := M_X9_node) rfl rfl rfl (by omega) (ls := [some (.ref 41), some (.int (nI 1)), some (.int (nI u)), some (.int (nI 1)), none, none]) rfl (fun d' hd' => ?_)
          refine am_run 2 (pc' := 2) (ls' := [some (.ref 41), some (.int (nI 1)), some (.int (nI u)), some (.int (nI 1)), none, none]) (st' := [.int (nI 1), .ref 41]) (σ' := σ) rfl ?_
          refine am_invv (y := 140) (b := 41) (as := [.int (nI 1)]) (rest := []) rfl rfl rfl rfl rfl rfl rfl (Nat.le_of_ble_eq_true rfl) ?_
          refine c_filled1_1 (by omega) hf ?_
          show am_G _ M_X9_node _ 5 [some (.ref 41), some (.int (nI 1)), some (.int (nI u)), some (.int (nI 1)), none, none] [.ref 75] σ
          refine am_run 4 (pc' := 14) (ls' := [some (.ref 41), some (.int (nI 1)), some (.int (nI u)), some (.int (nI 1)), some (.ref 75), none]) (st' := [.ref 75]) (σ' := σ) rfl ?_
          refine am_invv (y := 66) (b := 75) (as := []) (rest := []) rfl rfl rfl rfl rfl rfl rfl (Nat.le_of_ble_eq_true rfl) ?_
          refine am_enter' rfl rfl rfl (by omega) (ls := [some (.ref 75)]) rfl (fun d_1 hd_1 => ?_)
          refine am_run 2 (pc' := 4) (ls' := [some (.ref 75)]) (st' := [.ref (σ.2 75 1)]) (σ' := σ) rfl ?_
          refine am_reta rfl rfl (Or.inr ⟨_, rfl⟩) ?_
          show am_G _ M_X9_node _ 17 [some (.ref 41), some (.int (nI 1)), some (.int (nI u)), some (.int (nI 1)), some (.ref 75), none] [.ref (σ.2 75 1)] σ
          refine am_run 1 (pc' := 18) (ls' := [some (.ref 41), some (.int (nI 1)), some (.int (nI u)), some (.int (nI 1)), some (.ref 75), none]) (st' := [.int (nI u), .ref (σ.2 75 1)]) (σ' := σ) rfl ?_
          refine am_invv (y := 106) (b := (σ.2 75 1)) (as := [.int (nI u)]) (rest := []) rfl rfl rfl rfl rfl rfl (t3_kind hT3) (Nat.le_of_ble_eq_true rfl) ?_
          refine c_has (by omega) hW hR hu ?_
          show am_G _ M_X9_node _ 21 [some (.ref 41), some (.int (nI 1)), some (.int (nI u)), some (.int (nI 1)), some (.ref 75), none] [.int (nI 1)] σ
          refine am_if (ty := 24) (tn := 27) rfl (by decide) rfl rfl (fun (h_2 : nI 1 = 0) => ?_) (fun (h_2 : ¬ (nI 1 = 0)) => ?_)
          · exact absurd h_2 (by decide)
          refine am_run 1 (pc' := 29) (ls' := [some (.ref 41), some (.int (nI 1)), some (.int (nI u)), some (.int (nI 1)), some (.ref 75), none]) (st' := [.ref 75]) (σ' := σ) rfl ?_
          refine am_invv (y := 66) (b := 75) (as := []) (rest := []) rfl rfl rfl rfl rfl rfl rfl (Nat.le_of_ble_eq_true rfl) ?_
          refine am_enter' rfl rfl rfl (by omega) (ls := [some (.ref 75)]) rfl (fun d_3 hd_3 => ?_)
          refine am_run 2 (pc' := 4) (ls' := [some (.ref 75)]) (st' := [.ref (σ.2 75 1)]) (σ' := σ) rfl ?_
          refine am_reta rfl rfl (Or.inr ⟨_, rfl⟩) ?_
          show am_G _ M_X9_node _ 32 [some (.ref 41), some (.int (nI 1)), some (.int (nI u)), some (.int (nI 1)), some (.ref 75), none] [.ref (σ.2 75 1)] σ
          refine am_run 2 (pc' := 35) (ls' := [some (.ref 41), some (.int (nI 1)), some (.int (nI u)), some (.int (nI 1)), some (.ref 75), some (.ref (σ.2 75 1))]) (st' := [.int (nI 1)]) (σ' := σ) rfl ?_
          refine am_tsw rfl rfl (L := [(0, 37), (1, 44), (2, 51), (3, 58), (4, 65), (5, 72)]) rfl ?_
          refine am_sw1 (k := nI 0) (tgt := 72) rfl (by decide) (by decide) rfl (fun h_z => absurd h_z (by decide)) (fun _ => ?_)
          refine am_sw1 (k := nI 1) (tgt := 79) rfl (by decide) (by decide) rfl (fun _ => ?_) (fun h_z => absurd rfl h_z)
          refine am_run 2 (pc' := 82) (ls' := [some (.ref 41), some (.int (nI 1)), some (.int (nI u)), some (.int (nI 1)), some (.ref 75), some (.ref (σ.2 75 1))]) (st' := [.int (nI u), .ref (σ.2 75 1)]) (σ' := σ) rfl ?_
          refine am_invv (y := 113) (b := (σ.2 75 1)) (as := [.int (nI u)]) (rest := []) rfl rfl rfl rfl rfl rfl (t3_kind hT3) (Nat.le_of_ble_eq_true rfl) ?_
          refine c_detailOf (by omega) hW hR hu ?_
          show am_G _ M_X9_node _ 85 [some (.ref 41), some (.int (nI 1)), some (.int (nI u)), some (.int (nI 1)), some (.ref 75), some (.ref (σ.2 75 1))] [.int (oI (p 1 u))] σ
          refine am_reti rfl rfl ?_
          refine ⟨rfl, ?_⟩
          refine am_enter' (M := M_X10_node) rfl rfl rfl (by omega) (ls := [some (.ref 0), some (.int (nI 1)), some (.int (nI u)), some (.int (nI 1)), none]) rfl (fun d2 hd2 => ?_)
          refine am_run 2 (pc' := 2) (ls' := [some (.ref 0), some (.int (nI 1)), some (.int (nI u)), some (.int (nI 1)), none]) (st' := [.int (nI 1), .ref 0]) (σ' := σ) rfl ?_
          refine am_invv (y := 151) (b := 0) (as := [.int (nI 1)]) (rest := []) rfl rfl rfl rfl rfl rfl rfl (Nat.le_of_ble_eq_true rfl) ?_
          refine c_prog1_1 (by omega) (n := n) (by exact hn2) hn1 hn60 ?_
          show am_G _ M_X10_node _ 5 [some (.ref 0), some (.int (nI 1)), some (.int (nI u)), some (.int (nI 1)), none] [.int (nI 1)] σ
          refine am_if (ty := 24) (tn := 8) rfl (by decide) rfl rfl (fun (h_101 : nI 1 = 0) => ?_) (fun (h_101 : ¬ (nI 1 = 0)) => ?_)
          · exact absurd h_101 (by decide)
          refine am_run 5 (pc' := 15) (ls' := [some (.ref 0), some (.int (nI 1)), some (.int (nI u)), some (.int (nI 1)), none]) (st' := [.int (nI 1), .ref 2, .int (nI 0), .int (nI u)]) (σ' := σ) rfl ?_
          refine am_ialdN (n := 3) (v := nI n) rfl rfl rfl (by omega) hn2 (by decide) ?_
          refine am_run 2 (pc' := 18) (ls' := [some (.ref 0), some (.int (nI 1)), some (.int (nI u)), some (.int (nI 1)), none]) (st' := [.int (nI n - nI 1), .int (nI 0), .int (nI u)]) (σ' := σ) rfl ?_
          refine am_top (v' := nI (n - 1)) (nx_sub (by omega)) ?_
          refine am_invs (y := 148) (as := [.int (nI u), .int (nI 0), .int (nI (n - 1))]) (rest := []) rfl rfl rfl rfl rfl rfl (Nat.le_of_ble_eq_true rfl) ?_
          refine c_in1 (by omega) (by omega) (by omega) (by omega) ?_
          show am_G _ M_X10_node _ 21 [some (.ref 0), some (.int (nI 1)), some (.int (nI u)), some (.int (nI 1)), none] [.int (nI 1)] σ
          refine am_if (ty := 24) (tn := 27) rfl (by decide) rfl rfl (fun (h_102 : nI 1 = 0) => ?_) (fun (h_102 : ¬ (nI 1 = 0)) => ?_)
          · exact absurd h_102 (by decide)
          refine am_run 2 (pc' := 29) (ls' := [some (.ref 0), some (.int (nI 1)), some (.int (nI u)), some (.int (nI 1)), none]) (st' := [.int (nI u), .int (nI 1)]) (σ' := σ) rfl ?_
          refine am_invs (y := 158) (as := [.int (nI 1), .int (nI u)]) (rest := []) rfl rfl rfl rfl rfl rfl (Nat.le_of_ble_eq_true rfl) ?_
          refine c_m_placeOf (by omega) ?_
          show am_G _ M_X10_node _ 32 [some (.ref 0), some (.int (nI 1)), some (.int (nI u)), some (.int (nI 1)), none] [.int (nI (60 * 1 + u))] σ
          refine am_run 2 (pc' := 35) (ls' := [some (.ref 0), some (.int (nI 1)), some (.int (nI u)), some (.int (nI 1)), some (.int (nI (60 * 1 + u)))]) (st' := [.int (nI 1)]) (σ' := σ) rfl ?_
          refine am_tsw rfl rfl (L := [(0, 37), (1, 45), (2, 53), (3, 61), (4, 69), (5, 77)]) rfl ?_
          refine am_sw1 (k := nI 0) (tgt := 72) rfl (by decide) (by decide) rfl (fun h_z => absurd h_z (by decide)) (fun _ => ?_)
          refine am_sw1 (k := nI 1) (tgt := 80) rfl (by decide) (by decide) rfl (fun _ => ?_) (fun h_z => absurd rfl h_z)
          refine am_run 3 (pc' := 86) (ls' := [some (.ref 0), some (.int (nI 1)), some (.int (nI u)), some (.int (nI 1)), some (.int (nI (60 * 1 + u)))]) (st' := [.int (nI (60 * 1 + u)), .ref 6]) (σ' := σ) rfl ?_
          refine am_ialdN (n := 180) (v := oI (p 1 u)) rfl rfl rfl (by omega) m1 (by decide) ?_
          refine am_reti rfl rfl ?_
          exact ⟨rfl, hI⟩
        · skip
          refine ⟨nI (p 4 u), ?_⟩
          refine am_enter' (M := M_X9_node) rfl rfl rfl (by omega) (ls := [some (.ref 41), some (.int (nI 1)), some (.int (nI u)), some (.int (nI 2)), none, none]) rfl (fun d' hd' => ?_)
          refine am_run 2 (pc' := 2) (ls' := [some (.ref 41), some (.int (nI 1)), some (.int (nI u)), some (.int (nI 2)), none, none]) (st' := [.int (nI 1), .ref 41]) (σ' := σ) rfl ?_
          refine am_invv (y := 140) (b := 41) (as := [.int (nI 1)]) (rest := []) rfl rfl rfl rfl rfl rfl rfl (Nat.le_of_ble_eq_true rfl) ?_
          refine c_filled1_1 (by omega) hf ?_
          show am_G _ M_X9_node _ 5 [some (.ref 41), some (.int (nI 1)), some (.int (nI u)), some (.int (nI 2)), none, none] [.ref 75] σ
          refine am_run 4 (pc' := 14) (ls' := [some (.ref 41), some (.int (nI 1)), some (.int (nI u)), some (.int (nI 2)), some (.ref 75), none]) (st' := [.ref 75]) (σ' := σ) rfl ?_
          refine am_invv (y := 66) (b := 75) (as := []) (rest := []) rfl rfl rfl rfl rfl rfl rfl (Nat.le_of_ble_eq_true rfl) ?_
          refine am_enter' rfl rfl rfl (by omega) (ls := [some (.ref 75)]) rfl (fun d_1 hd_1 => ?_)
          refine am_run 2 (pc' := 4) (ls' := [some (.ref 75)]) (st' := [.ref (σ.2 75 1)]) (σ' := σ) rfl ?_
          refine am_reta rfl rfl (Or.inr ⟨_, rfl⟩) ?_
          show am_G _ M_X9_node _ 17 [some (.ref 41), some (.int (nI 1)), some (.int (nI u)), some (.int (nI 2)), some (.ref 75), none] [.ref (σ.2 75 1)] σ
          refine am_run 1 (pc' := 18) (ls' := [some (.ref 41), some (.int (nI 1)), some (.int (nI u)), some (.int (nI 2)), some (.ref 75), none]) (st' := [.int (nI u), .ref (σ.2 75 1)]) (σ' := σ) rfl ?_
          refine am_invv (y := 106) (b := (σ.2 75 1)) (as := [.int (nI u)]) (rest := []) rfl rfl rfl rfl rfl rfl (t3_kind hT3) (Nat.le_of_ble_eq_true rfl) ?_
          refine c_has (by omega) hW hR hu ?_
          show am_G _ M_X9_node _ 21 [some (.ref 41), some (.int (nI 1)), some (.int (nI u)), some (.int (nI 2)), some (.ref 75), none] [.int (nI 1)] σ
          refine am_if (ty := 24) (tn := 27) rfl (by decide) rfl rfl (fun (h_2 : nI 1 = 0) => ?_) (fun (h_2 : ¬ (nI 1 = 0)) => ?_)
          · exact absurd h_2 (by decide)
          refine am_run 1 (pc' := 29) (ls' := [some (.ref 41), some (.int (nI 1)), some (.int (nI u)), some (.int (nI 2)), some (.ref 75), none]) (st' := [.ref 75]) (σ' := σ) rfl ?_
          refine am_invv (y := 66) (b := 75) (as := []) (rest := []) rfl rfl rfl rfl rfl rfl rfl (Nat.le_of_ble_eq_true rfl) ?_
          refine am_enter' rfl rfl rfl (by omega) (ls := [some (.ref 75)]) rfl (fun d_3 hd_3 => ?_)
          refine am_run 2 (pc' := 4) (ls' := [some (.ref 75)]) (st' := [.ref (σ.2 75 1)]) (σ' := σ) rfl ?_
          refine am_reta rfl rfl (Or.inr ⟨_, rfl⟩) ?_
          show am_G _ M_X9_node _ 32 [some (.ref 41), some (.int (nI 1)), some (.int (nI u)), some (.int (nI 2)), some (.ref 75), none] [.ref (σ.2 75 1)] σ
          refine am_run 2 (pc' := 35) (ls' := [some (.ref 41), some (.int (nI 1)), some (.int (nI u)), some (.int (nI 2)), some (.ref 75), some (.ref (σ.2 75 1))]) (st' := [.int (nI 2)]) (σ' := σ) rfl ?_
          refine am_tsw rfl rfl (L := [(0, 37), (1, 44), (2, 51), (3, 58), (4, 65), (5, 72)]) rfl ?_
          refine am_sw1 (k := nI 0) (tgt := 72) rfl (by decide) (by decide) rfl (fun h_z => absurd h_z (by decide)) (fun _ => ?_)
          refine am_sw1 (k := nI 1) (tgt := 79) rfl (by decide) (by decide) rfl (fun h_z => absurd h_z (by decide)) (fun _ => ?_)
          refine am_sw1 (k := nI 2) (tgt := 86) rfl (by decide) (by decide) rfl (fun _ => ?_) (fun h_z => absurd rfl h_z)
          refine am_run 2 (pc' := 89) (ls' := [some (.ref 41), some (.int (nI 1)), some (.int (nI u)), some (.int (nI 2)), some (.ref 75), some (.ref (σ.2 75 1))]) (st' := [.int (nI u), .ref (σ.2 75 1)]) (σ' := σ) rfl ?_
          refine am_invv (y := 117) (b := (σ.2 75 1)) (as := [.int (nI u)]) (rest := []) rfl rfl rfl rfl rfl rfl (t3_kind hT3) (Nat.le_of_ble_eq_true rfl) ?_
          refine c_pausesOf (by omega) hW hR hu ?_
          show am_G _ M_X9_node _ 92 [some (.ref 41), some (.int (nI 1)), some (.int (nI u)), some (.int (nI 2)), some (.ref 75), some (.ref (σ.2 75 1))] [.int (nI (p 4 u))] σ
          refine am_reti rfl rfl ?_
          refine ⟨rfl, ?_⟩
          refine am_enter' (M := M_X10_node) rfl rfl rfl (by omega) (ls := [some (.ref 0), some (.int (nI 1)), some (.int (nI u)), some (.int (nI 2)), none]) rfl (fun d2 hd2 => ?_)
          refine am_run 2 (pc' := 2) (ls' := [some (.ref 0), some (.int (nI 1)), some (.int (nI u)), some (.int (nI 2)), none]) (st' := [.int (nI 1), .ref 0]) (σ' := σ) rfl ?_
          refine am_invv (y := 151) (b := 0) (as := [.int (nI 1)]) (rest := []) rfl rfl rfl rfl rfl rfl rfl (Nat.le_of_ble_eq_true rfl) ?_
          refine c_prog1_1 (by omega) (n := n) (by exact hn2) hn1 hn60 ?_
          show am_G _ M_X10_node _ 5 [some (.ref 0), some (.int (nI 1)), some (.int (nI u)), some (.int (nI 2)), none] [.int (nI 1)] σ
          refine am_if (ty := 24) (tn := 8) rfl (by decide) rfl rfl (fun (h_101 : nI 1 = 0) => ?_) (fun (h_101 : ¬ (nI 1 = 0)) => ?_)
          · exact absurd h_101 (by decide)
          refine am_run 5 (pc' := 15) (ls' := [some (.ref 0), some (.int (nI 1)), some (.int (nI u)), some (.int (nI 2)), none]) (st' := [.int (nI 1), .ref 2, .int (nI 0), .int (nI u)]) (σ' := σ) rfl ?_
          refine am_ialdN (n := 3) (v := nI n) rfl rfl rfl (by omega) hn2 (by decide) ?_
          refine am_run 2 (pc' := 18) (ls' := [some (.ref 0), some (.int (nI 1)), some (.int (nI u)), some (.int (nI 2)), none]) (st' := [.int (nI n - nI 1), .int (nI 0), .int (nI u)]) (σ' := σ) rfl ?_
          refine am_top (v' := nI (n - 1)) (nx_sub (by omega)) ?_
          refine am_invs (y := 148) (as := [.int (nI u), .int (nI 0), .int (nI (n - 1))]) (rest := []) rfl rfl rfl rfl rfl rfl (Nat.le_of_ble_eq_true rfl) ?_
          refine c_in1 (by omega) (by omega) (by omega) (by omega) ?_
          show am_G _ M_X10_node _ 21 [some (.ref 0), some (.int (nI 1)), some (.int (nI u)), some (.int (nI 2)), none] [.int (nI 1)] σ
          refine am_if (ty := 24) (tn := 27) rfl (by decide) rfl rfl (fun (h_102 : nI 1 = 0) => ?_) (fun (h_102 : ¬ (nI 1 = 0)) => ?_)
          · exact absurd h_102 (by decide)
          refine am_run 2 (pc' := 29) (ls' := [some (.ref 0), some (.int (nI 1)), some (.int (nI u)), some (.int (nI 2)), none]) (st' := [.int (nI u), .int (nI 1)]) (σ' := σ) rfl ?_
          refine am_invs (y := 158) (as := [.int (nI 1), .int (nI u)]) (rest := []) rfl rfl rfl rfl rfl rfl (Nat.le_of_ble_eq_true rfl) ?_
          refine c_m_placeOf (by omega) ?_
          show am_G _ M_X10_node _ 32 [some (.ref 0), some (.int (nI 1)), some (.int (nI u)), some (.int (nI 2)), none] [.int (nI (60 * 1 + u))] σ
          refine am_run 2 (pc' := 35) (ls' := [some (.ref 0), some (.int (nI 1)), some (.int (nI u)), some (.int (nI 2)), some (.int (nI (60 * 1 + u)))]) (st' := [.int (nI 2)]) (σ' := σ) rfl ?_
          refine am_tsw rfl rfl (L := [(0, 37), (1, 45), (2, 53), (3, 61), (4, 69), (5, 77)]) rfl ?_
          refine am_sw1 (k := nI 0) (tgt := 72) rfl (by decide) (by decide) rfl (fun h_z => absurd h_z (by decide)) (fun _ => ?_)
          refine am_sw1 (k := nI 1) (tgt := 80) rfl (by decide) (by decide) rfl (fun h_z => absurd h_z (by decide)) (fun _ => ?_)
          refine am_sw1 (k := nI 2) (tgt := 88) rfl (by decide) (by decide) rfl (fun _ => ?_) (fun h_z => absurd rfl h_z)
          refine am_run 3 (pc' := 94) (ls' := [some (.ref 0), some (.int (nI 1)), some (.int (nI u)), some (.int (nI 2)), some (.int (nI (60 * 1 + u)))]) (st' := [.int (nI (60 * 1 + u)), .ref 13]) (σ' := σ) rfl ?_
          refine am_ialdN (n := 180) (v := nI (p 4 u)) rfl rfl rfl (by omega) m4 (by decide) ?_
          refine am_reti rfl rfl ?_
          exact ⟨rfl, hI⟩
        · skip
          refine ⟨nI (ls u - fs u), ?_⟩
          refine am_enter' (M := M_X9_node) rfl rfl rfl (by omega) (ls := [some (.ref 41), some (.int (nI 1)), some (.int (nI u)), some (.int (nI 3)), none, none]) rfl (fun d' hd' => ?_)
          refine am_run 2 (pc' := 2) (ls' := [some (.ref 41), some (.int (nI 1)), some (.int (nI u)), some (.int (nI 3)), none, none]) (st' := [.int (nI 1), .ref 41]) (σ' := σ) rfl ?_
          refine am_invv (y := 140) (b := 41) (as := [.int (nI 1)]) (rest := []) rfl rfl rfl rfl rfl rfl rfl (Nat.le_of_ble_eq_true rfl) ?_
          refine c_filled1_1 (by omega) hf ?_
          show am_G _ M_X9_node _ 5 [some (.ref 41), some (.int (nI 1)), some (.int (nI u)), some (.int (nI 3)), none, none] [.ref 75] σ
          refine am_run 4 (pc' := 14) (ls' := [some (.ref 41), some (.int (nI 1)), some (.int (nI u)), some (.int (nI 3)), some (.ref 75), none]) (st' := [.ref 75]) (σ' := σ) rfl ?_
          refine am_invv (y := 66) (b := 75) (as := []) (rest := []) rfl rfl rfl rfl rfl rfl rfl (Nat.le_of_ble_eq_true rfl) ?_
          refine am_enter' rfl rfl rfl (by omega) (ls := [some (.ref 75)]) rfl (fun d_1 hd_1 => ?_)
          refine am_run 2 (pc' := 4) (ls' := [some (.ref 75)]) (st' := [.ref (σ.2 75 1)]) (σ' := σ) rfl ?_
          refine am_reta rfl rfl (Or.inr ⟨_, rfl⟩) ?_
          show am_G _ M_X9_node _ 17 [some (.ref 41), some (.int (nI 1)), some (.int (nI u)), some (.int (nI 3)), some (.ref 75), none] [.ref (σ.2 75 1)] σ
          refine am_run 1 (pc' := 18) (ls' := [some (.ref 41), some (.int (nI 1)), some (.int (nI u)), some (.int (nI 3)), some (.ref 75), none]) (st' := [.int (nI u), .ref (σ.2 75 1)]) (σ' := σ) rfl ?_
          refine am_invv (y := 106) (b := (σ.2 75 1)) (as := [.int (nI u)]) (rest := []) rfl rfl rfl rfl rfl rfl (t3_kind hT3) (Nat.le_of_ble_eq_true rfl) ?_
          refine c_has (by omega) hW hR hu ?_
          show am_G _ M_X9_node _ 21 [some (.ref 41), some (.int (nI 1)), some (.int (nI u)), some (.int (nI 3)), some (.ref 75), none] [.int (nI 1)] σ
          refine am_if (ty := 24) (tn := 27) rfl (by decide) rfl rfl (fun (h_2 : nI 1 = 0) => ?_) (fun (h_2 : ¬ (nI 1 = 0)) => ?_)
          · exact absurd h_2 (by decide)
          refine am_run 1 (pc' := 29) (ls' := [some (.ref 41), some (.int (nI 1)), some (.int (nI u)), some (.int (nI 3)), some (.ref 75), none]) (st' := [.ref 75]) (σ' := σ) rfl ?_
          refine am_invv (y := 66) (b := 75) (as := []) (rest := []) rfl rfl rfl rfl rfl rfl rfl (Nat.le_of_ble_eq_true rfl) ?_
          refine am_enter' rfl rfl rfl (by omega) (ls := [some (.ref 75)]) rfl (fun d_3 hd_3 => ?_)
          refine am_run 2 (pc' := 4) (ls' := [some (.ref 75)]) (st' := [.ref (σ.2 75 1)]) (σ' := σ) rfl ?_
          refine am_reta rfl rfl (Or.inr ⟨_, rfl⟩) ?_
          show am_G _ M_X9_node _ 32 [some (.ref 41), some (.int (nI 1)), some (.int (nI u)), some (.int (nI 3)), some (.ref 75), none] [.ref (σ.2 75 1)] σ
          refine am_run 2 (pc' := 35) (ls' := [some (.ref 41), some (.int (nI 1)), some (.int (nI u)), some (.int (nI 3)), some (.ref 75), some (.ref (σ.2 75 1))]) (st' := [.int (nI 3)]) (σ' := σ) rfl ?_
          refine am_tsw rfl rfl (L := [(0, 37), (1, 44), (2, 51), (3, 58), (4, 65), (5, 72)]) rfl ?_
          refine am_sw1 (k := nI 0) (tgt := 72) rfl (by decide) (by decide) rfl (fun h_z => absurd h_z (by decide)) (fun _ => ?_)
          refine am_sw1 (k := nI 1) (tgt := 79) rfl (by decide) (by decide) rfl (fun h_z => absurd h_z (by decide)) (fun _ => ?_)
          refine am_sw1 (k := nI 2) (tgt := 86) rfl (by decide) (by decide) rfl (fun h_z => absurd h_z (by decide)) (fun _ => ?_)
          refine am_sw1 (k := nI 3) (tgt := 93) rfl (by decide) (by decide) rfl (fun _ => ?_) (fun h_z => absurd rfl h_z)
          refine am_run 2 (pc' := 96) (ls' := [some (.ref 41), some (.int (nI 1)), some (.int (nI u)), some (.int (nI 3)), some (.ref 75), some (.ref (σ.2 75 1))]) (st' := [.int (nI u), .ref (σ.2 75 1)]) (σ' := σ) rfl ?_
          refine am_invv (y := 120) (b := (σ.2 75 1)) (as := [.int (nI u)]) (rest := []) rfl rfl rfl rfl rfl rfl (t3_kind hT3) (Nat.le_of_ble_eq_true rfl) ?_
          refine c_containedIn (by omega) hW hR hu d1 d2_ (by omega) ?_
          show am_G _ M_X9_node _ 99 [some (.ref 41), some (.int (nI 1)), some (.int (nI u)), some (.int (nI 3)), some (.ref 75), some (.ref (σ.2 75 1))] [.int (nI (ls u - fs u))] σ
          refine am_reti rfl rfl ?_
          refine ⟨rfl, ?_⟩
          refine am_enter' (M := M_X10_node) rfl rfl rfl (by omega) (ls := [some (.ref 0), some (.int (nI 1)), some (.int (nI u)), some (.int (nI 3)), none]) rfl (fun d2 hd2 => ?_)
          refine am_run 2 (pc' := 2) (ls' := [some (.ref 0), some (.int (nI 1)), some (.int (nI u)), some (.int (nI 3)), none]) (st' := [.int (nI 1), .ref 0]) (σ' := σ) rfl ?_
          refine am_invv (y := 151) (b := 0) (as := [.int (nI 1)]) (rest := []) rfl rfl rfl rfl rfl rfl rfl (Nat.le_of_ble_eq_true rfl) ?_
          refine c_prog1_1 (by omega) (n := n) (by exact hn2) hn1 hn60 ?_
          show am_G _ M_X10_node _ 5 [some (.ref 0), some (.int (nI 1)), some (.int (nI u)), some (.int (nI 3)), none] [.int (nI 1)] σ
          refine am_if (ty := 24) (tn := 8) rfl (by decide) rfl rfl (fun (h_101 : nI 1 = 0) => ?_) (fun (h_101 : ¬ (nI 1 = 0)) => ?_)
          · exact absurd h_101 (by decide)
          refine am_run 5 (pc' := 15) (ls' := [some (.ref 0), some (.int (nI 1)), some (.int (nI u)), some (.int (nI 3)), none]) (st' := [.int (nI 1), .ref 2, .int (nI 0), .int (nI u)]) (σ' := σ) rfl ?_
          refine am_ialdN (n := 3) (v := nI n) rfl rfl rfl (by omega) hn2 (by decide) ?_
          refine am_run 2 (pc' := 18) (ls' := [some (.ref 0), some (.int (nI 1)), some (.int (nI u)), some (.int (nI 3)), none]) (st' := [.int (nI n - nI 1), .int (nI 0), .int (nI u)]) (σ' := σ) rfl ?_
          refine am_top (v' := nI (n - 1)) (nx_sub (by omega)) ?_
          refine am_invs (y := 148) (as := [.int (nI u), .int (nI 0), .int (nI (n - 1))]) (rest := []) rfl rfl rfl rfl rfl rfl (Nat.le_of_ble_eq_true rfl) ?_
          refine c_in1 (by omega) (by omega) (by omega) (by omega) ?_
          show am_G _ M_X10_node _ 21 [some (.ref 0), some (.int (nI 1)), some (.int (nI u)), some (.int (nI 3)), none] [.int (nI 1)] σ
          refine am_if (ty := 24) (tn := 27) rfl (by decide) rfl rfl (fun (h_102 : nI 1 = 0) => ?_) (fun (h_102 : ¬ (nI 1 = 0)) => ?_)
          · exact absurd h_102 (by decide)
          refine am_run 2 (pc' := 29) (ls' := [some (.ref 0), some (.int (nI 1)), some (.int (nI u)), some (.int (nI 3)), none]) (st' := [.int (nI u), .int (nI 1)]) (σ' := σ) rfl ?_
          refine am_invs (y := 158) (as := [.int (nI 1), .int (nI u)]) (rest := []) rfl rfl rfl rfl rfl rfl (Nat.le_of_ble_eq_true rfl) ?_
          refine c_m_placeOf (by omega) ?_
          show am_G _ M_X10_node _ 32 [some (.ref 0), some (.int (nI 1)), some (.int (nI u)), some (.int (nI 3)), none] [.int (nI (60 * 1 + u))] σ
          refine am_run 2 (pc' := 35) (ls' := [some (.ref 0), some (.int (nI 1)), some (.int (nI u)), some (.int (nI 3)), some (.int (nI (60 * 1 + u)))]) (st' := [.int (nI 3)]) (σ' := σ) rfl ?_
          refine am_tsw rfl rfl (L := [(0, 37), (1, 45), (2, 53), (3, 61), (4, 69), (5, 77)]) rfl ?_
          refine am_sw1 (k := nI 0) (tgt := 72) rfl (by decide) (by decide) rfl (fun h_z => absurd h_z (by decide)) (fun _ => ?_)
          refine am_sw1 (k := nI 1) (tgt := 80) rfl (by decide) (by decide) rfl (fun h_z => absurd h_z (by decide)) (fun _ => ?_)
          refine am_sw1 (k := nI 2) (tgt := 88) rfl (by decide) (by decide) rfl (fun h_z => absurd h_z (by decide)) (fun _ => ?_)
          refine am_sw1 (k := nI 3) (tgt := 96) rfl (by decide) (by decide) rfl (fun _ => ?_) (fun h_z => absurd rfl h_z)
          refine am_run 3 (pc' := 102) (ls' := [some (.ref 0), some (.int (nI 1)), some (.int (nI u)), some (.int (nI 3)), some (.int (nI (60 * 1 + u)))]) (st' := [.int (nI (60 * 1 + u)), .ref 14]) (σ' := σ) rfl ?_
          refine am_ialdN (n := 180) (v := nI (ls u - fs u)) rfl rfl rfl (by omega) d6 (by decide) ?_
          refine am_reti rfl rfl ?_
          exact ⟨rfl, hI⟩
        · skip
          refine ⟨nI (an p 61 (u + 1) ST false 0 0).2.2.2, ?_⟩
          refine am_enter' (M := M_X9_node) rfl rfl rfl (by omega) (ls := [some (.ref 41), some (.int (nI 1)), some (.int (nI u)), some (.int (nI 4)), none, none]) rfl (fun d' hd' => ?_)
          refine am_run 2 (pc' := 2) (ls' := [some (.ref 41), some (.int (nI 1)), some (.int (nI u)), some (.int (nI 4)), none, none]) (st' := [.int (nI 1), .ref 41]) (σ' := σ) rfl ?_
          refine am_invv (y := 140) (b := 41) (as := [.int (nI 1)]) (rest := []) rfl rfl rfl rfl rfl rfl rfl (Nat.le_of_ble_eq_true rfl) ?_
          refine c_filled1_1 (by omega) hf ?_
          show am_G _ M_X9_node _ 5 [some (.ref 41), some (.int (nI 1)), some (.int (nI u)), some (.int (nI 4)), none, none] [.ref 75] σ
          refine am_run 4 (pc' := 14) (ls' := [some (.ref 41), some (.int (nI 1)), some (.int (nI u)), some (.int (nI 4)), some (.ref 75), none]) (st' := [.ref 75]) (σ' := σ) rfl ?_
          refine am_invv (y := 66) (b := 75) (as := []) (rest := []) rfl rfl rfl rfl rfl rfl rfl (Nat.le_of_ble_eq_true rfl) ?_
          refine am_enter' rfl rfl rfl (by omega) (ls := [some (.ref 75)]) rfl (fun d_1 hd_1 => ?_)
          refine am_run 2 (pc' := 4) (ls' := [some (.ref 75)]) (st' := [.ref (σ.2 75 1)]) (σ' := σ) rfl ?_
          refine am_reta rfl rfl (Or.inr ⟨_, rfl⟩) ?_
          show am_G _ M_X9_node _ 17 [some (.ref 41), some (.int (nI 1)), some (.int (nI u)), some (.int (nI 4)), some (.ref 75), none] [.ref (σ.2 75 1)] σ
          refine am_run 1 (pc' := 18) (ls' := [some (.ref 41), some (.int (nI 1)), some (.int (nI u)), some (.int (nI 4)), some (.ref 75), none]) (st' := [.int (nI u), .ref (σ.2 75 1)]) (σ' := σ) rfl ?_
          refine am_invv (y := 106) (b := (σ.2 75 1)) (as := [.int (nI u)]) (rest := []) rfl rfl rfl rfl rfl rfl (t3_kind hT3) (Nat.le_of_ble_eq_true rfl) ?_
          refine c_has (by omega) hW hR hu ?_
          show am_G _ M_X9_node _ 21 [some (.ref 41), some (.int (nI 1)), some (.int (nI u)), some (.int (nI 4)), some (.ref 75), none] [.int (nI 1)] σ
          refine am_if (ty := 24) (tn := 27) rfl (by decide) rfl rfl (fun (h_2 : nI 1 = 0) => ?_) (fun (h_2 : ¬ (nI 1 = 0)) => ?_)
          · exact absurd h_2 (by decide)
          refine am_run 1 (pc' := 29) (ls' := [some (.ref 41), some (.int (nI 1)), some (.int (nI u)), some (.int (nI 4)), some (.ref 75), none]) (st' := [.ref 75]) (σ' := σ) rfl ?_
          refine am_invv (y := 66) (b := 75) (as := []) (rest := []) rfl rfl rfl rfl rfl rfl rfl (Nat.le_of_ble_eq_true rfl) ?_
          refine am_enter' rfl rfl rfl (by omega) (ls := [some (.ref 75)]) rfl (fun d_3 hd_3 => ?_)
          refine am_run 2 (pc' := 4) (ls' := [some (.ref 75)]) (st' := [.ref (σ.2 75 1)]) (σ' := σ) rfl ?_
          refine am_reta rfl rfl (Or.inr ⟨_, rfl⟩) ?_
          show am_G _ M_X9_node _ 32 [some (.ref 41), some (.int (nI 1)), some (.int (nI u)), some (.int (nI 4)), some (.ref 75), none] [.ref (σ.2 75 1)] σ
          refine am_run 2 (pc' := 35) (ls' := [some (.ref 41), some (.int (nI 1)), some (.int (nI u)), some (.int (nI 4)), some (.ref 75), some (.ref (σ.2 75 1))]) (st' := [.int (nI 4)]) (σ' := σ) rfl ?_
          refine am_tsw rfl rfl (L := [(0, 37), (1, 44), (2, 51), (3, 58), (4, 65), (5, 72)]) rfl ?_
          refine am_sw1 (k := nI 0) (tgt := 72) rfl (by decide) (by decide) rfl (fun h_z => absurd h_z (by decide)) (fun _ => ?_)
          refine am_sw1 (k := nI 1) (tgt := 79) rfl (by decide) (by decide) rfl (fun h_z => absurd h_z (by decide)) (fun _ => ?_)
          refine am_sw1 (k := nI 2) (tgt := 86) rfl (by decide) (by decide) rfl (fun h_z => absurd h_z (by decide)) (fun _ => ?_)
          refine am_sw1 (k := nI 3) (tgt := 93) rfl (by decide) (by decide) rfl (fun h_z => absurd h_z (by decide)) (fun _ => ?_)
          refine am_sw1 (k := nI 4) (tgt := 100) rfl (by decide) (by decide) rfl (fun _ => ?_) (fun h_z => absurd rfl h_z)
          refine am_run 2 (pc' := 103) (ls' := [some (.ref 41), some (.int (nI 1)), some (.int (nI u)), some (.int (nI 4)), some (.ref 75), some (.ref (σ.2 75 1))]) (st' := [.int (nI u), .ref (σ.2 75 1)]) (σ' := σ) rfl ?_
          refine am_invs (y := 1) (as := [.ref (σ.2 75 1), .int (nI u)]) (rest := []) rfl rfl rfl rfl rfl rfl (Nat.le_of_ble_eq_true rfl) ?_
          refine c_a_instN (by omega) hW hR hu ?_
          show am_G _ M_X9_node _ 106 [some (.ref 41), some (.int (nI 1)), some (.int (nI u)), some (.int (nI 4)), some (.ref 75), some (.ref (σ.2 75 1))] [.int (nI ((an p 61 (u + 1) ST false 0 0).2.2.2))] σ
          refine am_reti rfl rfl ?_
          refine ⟨rfl, ?_⟩
          refine am_enter' (M := M_X10_node) rfl rfl rfl (by omega) (ls := [some (.ref 0), some (.int (nI 1)), some (.int (nI u)), some (.int (nI 4)), none]) rfl (fun d2 hd2 => ?_)
          refine am_run 2 (pc' := 2) (ls' := [some (.ref 0), some (.int (nI 1)), some (.int (nI u)), some (.int (nI 4)), none]) (st' := [.int (nI 1), .ref 0]) (σ' := σ) rfl ?_
          refine am_invv (y := 151) (b := 0) (as := [.int (nI 1)]) (rest := []) rfl rfl rfl rfl rfl rfl rfl (Nat.le_of_ble_eq_true rfl) ?_
          refine c_prog1_1 (by omega) (n := n) (by exact hn2) hn1 hn60 ?_
          show am_G _ M_X10_node _ 5 [some (.ref 0), some (.int (nI 1)), some (.int (nI u)), some (.int (nI 4)), none] [.int (nI 1)] σ
          refine am_if (ty := 24) (tn := 8) rfl (by decide) rfl rfl (fun (h_101 : nI 1 = 0) => ?_) (fun (h_101 : ¬ (nI 1 = 0)) => ?_)
          · exact absurd h_101 (by decide)
          refine am_run 5 (pc' := 15) (ls' := [some (.ref 0), some (.int (nI 1)), some (.int (nI u)), some (.int (nI 4)), none]) (st' := [.int (nI 1), .ref 2, .int (nI 0), .int (nI u)]) (σ' := σ) rfl ?_
          refine am_ialdN (n := 3) (v := nI n) rfl rfl rfl (by omega) hn2 (by decide) ?_
          refine am_run 2 (pc' := 18) (ls' := [some (.ref 0), some (.int (nI 1)), some (.int (nI u)), some (.int (nI 4)), none]) (st' := [.int (nI n - nI 1), .int (nI 0), .int (nI u)]) (σ' := σ) rfl ?_
          refine am_top (v' := nI (n - 1)) (nx_sub (by omega)) ?_
          refine am_invs (y := 148) (as := [.int (nI u), .int (nI 0), .int (nI (n - 1))]) (rest := []) rfl rfl rfl rfl rfl rfl (Nat.le_of_ble_eq_true rfl) ?_
          refine c_in1 (by omega) (by omega) (by omega) (by omega) ?_
          show am_G _ M_X10_node _ 21 [some (.ref 0), some (.int (nI 1)), some (.int (nI u)), some (.int (nI 4)), none] [.int (nI 1)] σ
          refine am_if (ty := 24) (tn := 27) rfl (by decide) rfl rfl (fun (h_102 : nI 1 = 0) => ?_) (fun (h_102 : ¬ (nI 1 = 0)) => ?_)
          · exact absurd h_102 (by decide)
          refine am_run 2 (pc' := 29) (ls' := [some (.ref 0), some (.int (nI 1)), some (.int (nI u)), some (.int (nI 4)), none]) (st' := [.int (nI u), .int (nI 1)]) (σ' := σ) rfl ?_
          refine am_invs (y := 158) (as := [.int (nI 1), .int (nI u)]) (rest := []) rfl rfl rfl rfl rfl rfl (Nat.le_of_ble_eq_true rfl) ?_
          refine c_m_placeOf (by omega) ?_
          show am_G _ M_X10_node _ 32 [some (.ref 0), some (.int (nI 1)), some (.int (nI u)), some (.int (nI 4)), none] [.int (nI (60 * 1 + u))] σ
          refine am_run 2 (pc' := 35) (ls' := [some (.ref 0), some (.int (nI 1)), some (.int (nI u)), some (.int (nI 4)), some (.int (nI (60 * 1 + u)))]) (st' := [.int (nI 4)]) (σ' := σ) rfl ?_
          refine am_tsw rfl rfl (L := [(0, 37), (1, 45), (2, 53), (3, 61), (4, 69), (5, 77)]) rfl ?_
          refine am_sw1 (k := nI 0) (tgt := 72) rfl (by decide) (by decide) rfl (fun h_z => absurd h_z (by decide)) (fun _ => ?_)
          refine am_sw1 (k := nI 1) (tgt := 80) rfl (by decide) (by decide) rfl (fun h_z => absurd h_z (by decide)) (fun _ => ?_)
          refine am_sw1 (k := nI 2) (tgt := 88) rfl (by decide) (by decide) rfl (fun h_z => absurd h_z (by decide)) (fun _ => ?_)
          refine am_sw1 (k := nI 3) (tgt := 96) rfl (by decide) (by decide) rfl (fun h_z => absurd h_z (by decide)) (fun _ => ?_)
          refine am_sw1 (k := nI 4) (tgt := 104) rfl (by decide) (by decide) rfl (fun _ => ?_) (fun h_z => absurd rfl h_z)
          refine am_run 3 (pc' := 110) (ls' := [some (.ref 0), some (.int (nI 1)), some (.int (nI u)), some (.int (nI 4)), some (.int (nI (60 * 1 + u)))]) (st' := [.int (nI (60 * 1 + u)), .ref 16]) (σ' := σ) rfl ?_
          refine am_ialdN (n := 180) (v := nI ((an p 61 (u + 1) ST false 0 0).2.2.2)) rfl rfl rfl (by omega) d9 (by decide) ?_
          refine am_reti rfl rfl ?_
          exact ⟨rfl, hI⟩
        · skip
          refine ⟨nI (cnb (inb fs ls u) n), ?_⟩
          refine am_enter' (M := M_X9_node) rfl rfl rfl (by omega) (ls := [some (.ref 41), some (.int (nI 1)), some (.int (nI u)), some (.int (nI 5)), none, none]) rfl (fun d' hd' => ?_)
          refine am_run 2 (pc' := 2) (ls' := [some (.ref 41), some (.int (nI 1)), some (.int (nI u)), some (.int (nI 5)), none, none]) (st' := [.int (nI 1), .ref 41]) (σ' := σ) rfl ?_
          refine am_invv (y := 140) (b := 41) (as := [.int (nI 1)]) (rest := []) rfl rfl rfl rfl rfl rfl rfl (Nat.le_of_ble_eq_true rfl) ?_
          refine c_filled1_1 (by omega) hf ?_
          show am_G _ M_X9_node _ 5 [some (.ref 41), some (.int (nI 1)), some (.int (nI u)), some (.int (nI 5)), none, none] [.ref 75] σ
          refine am_run 4 (pc' := 14) (ls' := [some (.ref 41), some (.int (nI 1)), some (.int (nI u)), some (.int (nI 5)), some (.ref 75), none]) (st' := [.ref 75]) (σ' := σ) rfl ?_
          refine am_invv (y := 66) (b := 75) (as := []) (rest := []) rfl rfl rfl rfl rfl rfl rfl (Nat.le_of_ble_eq_true rfl) ?_
          refine am_enter' rfl rfl rfl (by omega) (ls := [some (.ref 75)]) rfl (fun d_1 hd_1 => ?_)
          refine am_run 2 (pc' := 4) (ls' := [some (.ref 75)]) (st' := [.ref (σ.2 75 1)]) (σ' := σ) rfl ?_
          refine am_reta rfl rfl (Or.inr ⟨_, rfl⟩) ?_
          show am_G _ M_X9_node _ 17 [some (.ref 41), some (.int (nI 1)), some (.int (nI u)), some (.int (nI 5)), some (.ref 75), none] [.ref (σ.2 75 1)] σ
          refine am_run 1 (pc' := 18) (ls' := [some (.ref 41), some (.int (nI 1)), some (.int (nI u)), some (.int (nI 5)), some (.ref 75), none]) (st' := [.int (nI u), .ref (σ.2 75 1)]) (σ' := σ) rfl ?_
          refine am_invv (y := 106) (b := (σ.2 75 1)) (as := [.int (nI u)]) (rest := []) rfl rfl rfl rfl rfl rfl (t3_kind hT3) (Nat.le_of_ble_eq_true rfl) ?_
          refine c_has (by omega) hW hR hu ?_
          show am_G _ M_X9_node _ 21 [some (.ref 41), some (.int (nI 1)), some (.int (nI u)), some (.int (nI 5)), some (.ref 75), none] [.int (nI 1)] σ
          refine am_if (ty := 24) (tn := 27) rfl (by decide) rfl rfl (fun (h_2 : nI 1 = 0) => ?_) (fun (h_2 : ¬ (nI 1 = 0)) => ?_)
          · exact absurd h_2 (by decide)
          refine am_run 1 (pc' := 29) (ls' := [some (.ref 41), some (.int (nI 1)), some (.int (nI u)), some (.int (nI 5)), some (.ref 75), none]) (st' := [.ref 75]) (σ' := σ) rfl ?_
          refine am_invv (y := 66) (b := 75) (as := []) (rest := []) rfl rfl rfl rfl rfl rfl rfl (Nat.le_of_ble_eq_true rfl) ?_
          refine am_enter' rfl rfl rfl (by omega) (ls := [some (.ref 75)]) rfl (fun d_3 hd_3 => ?_)
          refine am_run 2 (pc' := 4) (ls' := [some (.ref 75)]) (st' := [.ref (σ.2 75 1)]) (σ' := σ) rfl ?_
          refine am_reta rfl rfl (Or.inr ⟨_, rfl⟩) ?_
          show am_G _ M_X9_node _ 32 [some (.ref 41), some (.int (nI 1)), some (.int (nI u)), some (.int (nI 5)), some (.ref 75), none] [.ref (σ.2 75 1)] σ
          refine am_run 2 (pc' := 35) (ls' := [some (.ref 41), some (.int (nI 1)), some (.int (nI u)), some (.int (nI 5)), some (.ref 75), some (.ref (σ.2 75 1))]) (st' := [.int (nI 5)]) (σ' := σ) rfl ?_
          refine am_tsw rfl rfl (L := [(0, 37), (1, 44), (2, 51), (3, 58), (4, 65), (5, 72)]) rfl ?_
          refine am_sw1 (k := nI 0) (tgt := 72) rfl (by decide) (by decide) rfl (fun h_z => absurd h_z (by decide)) (fun _ => ?_)
          refine am_sw1 (k := nI 1) (tgt := 79) rfl (by decide) (by decide) rfl (fun h_z => absurd h_z (by decide)) (fun _ => ?_)
          refine am_sw1 (k := nI 2) (tgt := 86) rfl (by decide) (by decide) rfl (fun h_z => absurd h_z (by decide)) (fun _ => ?_)
          refine am_sw1 (k := nI 3) (tgt := 93) rfl (by decide) (by decide) rfl (fun h_z => absurd h_z (by decide)) (fun _ => ?_)
          refine am_sw1 (k := nI 4) (tgt := 100) rfl (by decide) (by decide) rfl (fun h_z => absurd h_z (by decide)) (fun _ => ?_)
          refine am_sw1 (k := nI 5) (tgt := 107) rfl (by decide) (by decide) rfl (fun _ => ?_) (fun h_z => absurd rfl h_z)
          refine am_run 2 (pc' := 110) (ls' := [some (.ref 41), some (.int (nI 1)), some (.int (nI u)), some (.int (nI 5)), some (.ref 75), some (.ref (σ.2 75 1))]) (st' := [.int (nI u), .ref (σ.2 75 1)]) (σ' := σ) rfl ?_
          refine am_invv (y := 121) (b := (σ.2 75 1)) (as := [.int (nI u)]) (rest := []) rfl rfl rfl rfl rfl rfl (t3_kind hT3) (Nat.le_of_ble_eq_true rfl) ?_
          refine c_containing (by omega) hT3 hR.2.1 hn60 hF (by omega) ?_
          show am_G _ M_X9_node _ 113 [some (.ref 41), some (.int (nI 1)), some (.int (nI u)), some (.int (nI 5)), some (.ref 75), some (.ref (σ.2 75 1))] [.int (nI (cnb (inb fs ls u) n))] σ
          refine am_reti rfl rfl ?_
          refine ⟨rfl, ?_⟩
          refine am_enter' (M := M_X10_node) rfl rfl rfl (by omega) (ls := [some (.ref 0), some (.int (nI 1)), some (.int (nI u)), some (.int (nI 5)), none]) rfl (fun d2 hd2 => ?_)
          refine am_run 2 (pc' := 2) (ls' := [some (.ref 0), some (.int (nI 1)), some (.int (nI u)), some (.int (nI 5)), none]) (st' := [.int (nI 1), .ref 0]) (σ' := σ) rfl ?_
          refine am_invv (y := 151) (b := 0) (as := [.int (nI 1)]) (rest := []) rfl rfl rfl rfl rfl rfl rfl (Nat.le_of_ble_eq_true rfl) ?_
          refine c_prog1_1 (by omega) (n := n) (by exact hn2) hn1 hn60 ?_
          show am_G _ M_X10_node _ 5 [some (.ref 0), some (.int (nI 1)), some (.int (nI u)), some (.int (nI 5)), none] [.int (nI 1)] σ
          refine am_if (ty := 24) (tn := 8) rfl (by decide) rfl rfl (fun (h_101 : nI 1 = 0) => ?_) (fun (h_101 : ¬ (nI 1 = 0)) => ?_)
          · exact absurd h_101 (by decide)
          refine am_run 5 (pc' := 15) (ls' := [some (.ref 0), some (.int (nI 1)), some (.int (nI u)), some (.int (nI 5)), none]) (st' := [.int (nI 1), .ref 2, .int (nI 0), .int (nI u)]) (σ' := σ) rfl ?_
          refine am_ialdN (n := 3) (v := nI n) rfl rfl rfl (by omega) hn2 (by decide) ?_
          refine am_run 2 (pc' := 18) (ls' := [some (.ref 0), some (.int (nI 1)), some (.int (nI u)), some (.int (nI 5)), none]) (st' := [.int (nI n - nI 1), .int (nI 0), .int (nI u)]) (σ' := σ) rfl ?_
          refine am_top (v' := nI (n - 1)) (nx_sub (by omega)) ?_
          refine am_invs (y := 148) (as := [.int (nI u), .int (nI 0), .int (nI (n - 1))]) (rest := []) rfl rfl rfl rfl rfl rfl (Nat.le_of_ble_eq_true rfl) ?_
          refine c_in1 (by omega) (by omega) (by omega) (by omega) ?_
          show am_G _ M_X10_node _ 21 [some (.ref 0), some (.int (nI 1)), some (.int (nI u)), some (.int (nI 5)), none] [.int (nI 1)] σ
          refine am_if (ty := 24) (tn := 27) rfl (by decide) rfl rfl (fun (h_102 : nI 1 = 0) => ?_) (fun (h_102 : ¬ (nI 1 = 0)) => ?_)
          · exact absurd h_102 (by decide)
          refine am_run 2 (pc' := 29) (ls' := [some (.ref 0), some (.int (nI 1)), some (.int (nI u)), some (.int (nI 5)), none]) (st' := [.int (nI u), .int (nI 1)]) (σ' := σ) rfl ?_
          refine am_invs (y := 158) (as := [.int (nI 1), .int (nI u)]) (rest := []) rfl rfl rfl rfl rfl rfl (Nat.le_of_ble_eq_true rfl) ?_
          refine c_m_placeOf (by omega) ?_
          show am_G _ M_X10_node _ 32 [some (.ref 0), some (.int (nI 1)), some (.int (nI u)), some (.int (nI 5)), none] [.int (nI (60 * 1 + u))] σ
          refine am_run 2 (pc' := 35) (ls' := [some (.ref 0), some (.int (nI 1)), some (.int (nI u)), some (.int (nI 5)), some (.int (nI (60 * 1 + u)))]) (st' := [.int (nI 5)]) (σ' := σ) rfl ?_
          refine am_tsw rfl rfl (L := [(0, 37), (1, 45), (2, 53), (3, 61), (4, 69), (5, 77)]) rfl ?_
          refine am_sw1 (k := nI 0) (tgt := 72) rfl (by decide) (by decide) rfl (fun h_z => absurd h_z (by decide)) (fun _ => ?_)
          refine am_sw1 (k := nI 1) (tgt := 80) rfl (by decide) (by decide) rfl (fun h_z => absurd h_z (by decide)) (fun _ => ?_)
          refine am_sw1 (k := nI 2) (tgt := 88) rfl (by decide) (by decide) rfl (fun h_z => absurd h_z (by decide)) (fun _ => ?_)
          refine am_sw1 (k := nI 3) (tgt := 96) rfl (by decide) (by decide) rfl (fun h_z => absurd h_z (by decide)) (fun _ => ?_)
          refine am_sw1 (k := nI 4) (tgt := 104) rfl (by decide) (by decide) rfl (fun h_z => absurd h_z (by decide)) (fun _ => ?_)
          refine am_sw1 (k := nI 5) (tgt := 112) rfl (by decide) (by decide) rfl (fun _ => ?_) (fun h_z => absurd rfl h_z)
          refine am_run 2 (pc' := 115) (ls' := [some (.ref 0), some (.int (nI 1)), some (.int (nI u)), some (.int (nI 5)), some (.int (nI (60 * 1 + u)))]) (st' := [.int (nI (60 * 1 + u)), .ref 0]) (σ' := σ) rfl ?_
          refine am_invv (y := 251) (b := 0) (as := [.int (nI (60 * 1 + u))]) (rest := []) rfl rfl rfl rfl rfl rfl rfl (Nat.le_of_ble_eq_true rfl) ?_
          refine c_inHow (by omega) (by decide) hn60 hrk hA hu ?_
          show am_G _ M_X10_node _ 118 [some (.ref 0), some (.int (nI 1)), some (.int (nI u)), some (.int (nI 5)), some (.int (nI (60 * 1 + u)))] [.int (nI (cnb (inb fs ls u) n))] σ
          refine am_reti rfl rfl ?_
          exact ⟨rfl, hI⟩
      · skip
        refine ⟨-1000002, ?_⟩
        refine am_enter' (M := M_X9_node) rfl rfl rfl (by omega) (ls := [some (.ref 41), some (.int (nI 1)), some (.int (nI u)), some (.int z), none, none]) rfl (fun d' hd' => ?_)
        refine am_run 2 (pc' := 2) (ls' := [some (.ref 41), some (.int (nI 1)), some (.int (nI u)), some (.int z), none, none]) (st' := [.int (nI 1), .ref 41]) (σ' := σ) rfl ?_
        refine am_invv (y := 140) (b := 41) (as := [.int (nI 1)]) (rest := []) rfl rfl rfl rfl rfl rfl rfl (Nat.le_of_ble_eq_true rfl) ?_
        refine c_filled1_1 (by omega) hf ?_
        show am_G _ M_X9_node _ 5 [some (.ref 41), some (.int (nI 1)), some (.int (nI u)), some (.int z), none, none] [.ref 75] σ
        refine am_run 4 (pc' := 14) (ls' := [some (.ref 41), some (.int (nI 1)), some (.int (nI u)), some (.int z), some (.ref 75), none]) (st' := [.ref 75]) (σ' := σ) rfl ?_
        refine am_invv (y := 66) (b := 75) (as := []) (rest := []) rfl rfl rfl rfl rfl rfl rfl (Nat.le_of_ble_eq_true rfl) ?_
        refine am_enter' rfl rfl rfl (by omega) (ls := [some (.ref 75)]) rfl (fun d_1 hd_1 => ?_)
        refine am_run 2 (pc' := 4) (ls' := [some (.ref 75)]) (st' := [.ref (σ.2 75 1)]) (σ' := σ) rfl ?_
        refine am_reta rfl rfl (Or.inr ⟨_, rfl⟩) ?_
        show am_G _ M_X9_node _ 17 [some (.ref 41), some (.int (nI 1)), some (.int (nI u)), some (.int z), some (.ref 75), none] [.ref (σ.2 75 1)] σ
        refine am_run 1 (pc' := 18) (ls' := [some (.ref 41), some (.int (nI 1)), some (.int (nI u)), some (.int z), some (.ref 75), none]) (st' := [.int (nI u), .ref (σ.2 75 1)]) (σ' := σ) rfl ?_
        refine am_invv (y := 106) (b := (σ.2 75 1)) (as := [.int (nI u)]) (rest := []) rfl rfl rfl rfl rfl rfl (t3_kind hT3) (Nat.le_of_ble_eq_true rfl) ?_
        refine c_has (by omega) hW hR hu ?_
        show am_G _ M_X9_node _ 21 [some (.ref 41), some (.int (nI 1)), some (.int (nI u)), some (.int z), some (.ref 75), none] [.int (nI 1)] σ
        refine am_if (ty := 24) (tn := 27) rfl (by decide) rfl rfl (fun (h_2 : nI 1 = 0) => ?_) (fun (h_2 : ¬ (nI 1 = 0)) => ?_)
        · exact absurd h_2 (by decide)
        refine am_run 1 (pc' := 29) (ls' := [some (.ref 41), some (.int (nI 1)), some (.int (nI u)), some (.int z), some (.ref 75), none]) (st' := [.ref 75]) (σ' := σ) rfl ?_
        refine am_invv (y := 66) (b := 75) (as := []) (rest := []) rfl rfl rfl rfl rfl rfl rfl (Nat.le_of_ble_eq_true rfl) ?_
        refine am_enter' rfl rfl rfl (by omega) (ls := [some (.ref 75)]) rfl (fun d_3 hd_3 => ?_)
        refine am_run 2 (pc' := 4) (ls' := [some (.ref 75)]) (st' := [.ref (σ.2 75 1)]) (σ' := σ) rfl ?_
        refine am_reta rfl rfl (Or.inr ⟨_, rfl⟩) ?_
        show am_G _ M_X9_node _ 32 [some (.ref 41), some (.int (nI 1)), some (.int (nI u)), some (.int z), some (.ref 75), none] [.ref (σ.2 75 1)] σ
        refine am_run 2 (pc' := 35) (ls' := [some (.ref 41), some (.int (nI 1)), some (.int (nI u)), some (.int z), some (.ref 75), some (.ref (σ.2 75 1))]) (st' := [.int z]) (σ' := σ) rfl ?_
        refine am_tsw rfl rfl (L := [(0, 37), (1, 44), (2, 51), (3, 58), (4, 65), (5, 72)]) rfl ?_
        refine am_sw1 (k := nI 0) (tgt := 72) rfl (by decide) (by decide) rfl (fun h_z => absurd h_z (out_ne hz (by decide) (by decide))) (fun _ => ?_)
        refine am_sw1 (k := nI 1) (tgt := 79) rfl (by decide) (by decide) rfl (fun h_z => absurd h_z (out_ne hz (by decide) (by decide))) (fun _ => ?_)
        refine am_sw1 (k := nI 2) (tgt := 86) rfl (by decide) (by decide) rfl (fun h_z => absurd h_z (out_ne hz (by decide) (by decide))) (fun _ => ?_)
        refine am_sw1 (k := nI 3) (tgt := 93) rfl (by decide) (by decide) rfl (fun h_z => absurd h_z (out_ne hz (by decide) (by decide))) (fun _ => ?_)
        refine am_sw1 (k := nI 4) (tgt := 100) rfl (by decide) (by decide) rfl (fun h_z => absurd h_z (out_ne hz (by decide) (by decide))) (fun _ => ?_)
        refine am_sw1 (k := nI 5) (tgt := 107) rfl (by decide) (by decide) rfl (fun h_z => absurd h_z (out_ne hz (by decide) (by decide))) (fun _ => ?_)
        refine am_sw0 (tgt := 114) (by decide) rfl ?_
        refine am_run 1 (pc' := 116) (ls' := [some (.ref 41), some (.int (nI 1)), some (.int (nI u)), some (.int z), some (.ref 75), some (.ref (σ.2 75 1))]) (st' := [.int (-1000002)]) (σ' := σ) rfl ?_
        refine am_reti rfl rfl ?_
        refine ⟨rfl, ?_⟩
        refine am_enter' (M := M_X10_node) rfl rfl rfl (by omega) (ls := [some (.ref 0), some (.int (nI 1)), some (.int (nI u)), some (.int z), none]) rfl (fun d2 hd2 => ?_)
        refine am_run 2 (pc' := 2) (ls' := [some (.ref 0), some (.int (nI 1)), some (.int (nI u)), some (.int z), none]) (st' := [.int (nI 1), .ref 0]) (σ' := σ) rfl ?_
        refine am_invv (y := 151) (b := 0) (as := [.int (nI 1)]) (rest := []) rfl rfl rfl rfl rfl rfl rfl (Nat.le_of_ble_eq_true rfl) ?_
        refine c_prog1_1 (by omega) (n := n) (by exact hn2) hn1 hn60 ?_
        show am_G _ M_X10_node _ 5 [some (.ref 0), some (.int (nI 1)), some (.int (nI u)), some (.int z), none] [.int (nI 1)] σ
        refine am_if (ty := 24) (tn := 8) rfl (by decide) rfl rfl (fun (h_101 : nI 1 = 0) => ?_) (fun (h_101 : ¬ (nI 1 = 0)) => ?_)
        · exact absurd h_101 (by decide)
        refine am_run 5 (pc' := 15) (ls' := [some (.ref 0), some (.int (nI 1)), some (.int (nI u)), some (.int z), none]) (st' := [.int (nI 1), .ref 2, .int (nI 0), .int (nI u)]) (σ' := σ) rfl ?_
        refine am_ialdN (n := 3) (v := nI n) rfl rfl rfl (by omega) hn2 (by decide) ?_
        refine am_run 2 (pc' := 18) (ls' := [some (.ref 0), some (.int (nI 1)), some (.int (nI u)), some (.int z), none]) (st' := [.int (nI n - nI 1), .int (nI 0), .int (nI u)]) (σ' := σ) rfl ?_
        refine am_top (v' := nI (n - 1)) (nx_sub (by omega)) ?_
        refine am_invs (y := 148) (as := [.int (nI u), .int (nI 0), .int (nI (n - 1))]) (rest := []) rfl rfl rfl rfl rfl rfl (Nat.le_of_ble_eq_true rfl) ?_
        refine c_in1 (by omega) (by omega) (by omega) (by omega) ?_
        show am_G _ M_X10_node _ 21 [some (.ref 0), some (.int (nI 1)), some (.int (nI u)), some (.int z), none] [.int (nI 1)] σ
        refine am_if (ty := 24) (tn := 27) rfl (by decide) rfl rfl (fun (h_102 : nI 1 = 0) => ?_) (fun (h_102 : ¬ (nI 1 = 0)) => ?_)
        · exact absurd h_102 (by decide)
        refine am_run 2 (pc' := 29) (ls' := [some (.ref 0), some (.int (nI 1)), some (.int (nI u)), some (.int z), none]) (st' := [.int (nI u), .int (nI 1)]) (σ' := σ) rfl ?_
        refine am_invs (y := 158) (as := [.int (nI 1), .int (nI u)]) (rest := []) rfl rfl rfl rfl rfl rfl (Nat.le_of_ble_eq_true rfl) ?_
        refine c_m_placeOf (by omega) ?_
        show am_G _ M_X10_node _ 32 [some (.ref 0), some (.int (nI 1)), some (.int (nI u)), some (.int z), none] [.int (nI (60 * 1 + u))] σ
        refine am_run 2 (pc' := 35) (ls' := [some (.ref 0), some (.int (nI 1)), some (.int (nI u)), some (.int z), some (.int (nI (60 * 1 + u)))]) (st' := [.int z]) (σ' := σ) rfl ?_
        refine am_tsw rfl rfl (L := [(0, 37), (1, 45), (2, 53), (3, 61), (4, 69), (5, 77)]) rfl ?_
        refine am_sw1 (k := nI 0) (tgt := 72) rfl (by decide) (by decide) rfl (fun h_z => absurd h_z (out_ne hz (by decide) (by decide))) (fun _ => ?_)
        refine am_sw1 (k := nI 1) (tgt := 80) rfl (by decide) (by decide) rfl (fun h_z => absurd h_z (out_ne hz (by decide) (by decide))) (fun _ => ?_)
        refine am_sw1 (k := nI 2) (tgt := 88) rfl (by decide) (by decide) rfl (fun h_z => absurd h_z (out_ne hz (by decide) (by decide))) (fun _ => ?_)
        refine am_sw1 (k := nI 3) (tgt := 96) rfl (by decide) (by decide) rfl (fun h_z => absurd h_z (out_ne hz (by decide) (by decide))) (fun _ => ?_)
        refine am_sw1 (k := nI 4) (tgt := 104) rfl (by decide) (by decide) rfl (fun h_z => absurd h_z (out_ne hz (by decide) (by decide))) (fun _ => ?_)
        refine am_sw1 (k := nI 5) (tgt := 112) rfl (by decide) (by decide) rfl (fun h_z => absurd h_z (out_ne hz (by decide) (by decide))) (fun _ => ?_)
        refine am_sw0 (tgt := 119) (by decide) rfl ?_
        refine am_run 1 (pc' := 121) (ls' := [some (.ref 0), some (.int (nI 1)), some (.int (nI u)), some (.int z), some (.int (nI (60 * 1 + u)))]) (st' := [.int (-1000002)]) (σ' := σ) rfl ?_
        refine am_reti rfl rfl ?_
        exact ⟨rfl, hI⟩
    · skip
      refine ⟨-1000001, ?_⟩
      refine am_enter' (M := M_X9_node) rfl rfl rfl (by omega) (ls := [some (.ref 41), some (.int (nI 1)), some (.int y), some (.int z), none, none]) rfl (fun d' hd' => ?_)
      refine am_run 2 (pc' := 2) (ls' := [some (.ref 41), some (.int (nI 1)), some (.int y), some (.int z), none, none]) (st' := [.int (nI 1), .ref 41]) (σ' := σ) rfl ?_
      refine am_invv (y := 140) (b := 41) (as := [.int (nI 1)]) (rest := []) rfl rfl rfl rfl rfl rfl rfl (Nat.le_of_ble_eq_true rfl) ?_
      refine c_filled1_1 (by omega) hf ?_
      show am_G _ M_X9_node _ 5 [some (.ref 41), some (.int (nI 1)), some (.int y), some (.int z), none, none] [.ref 75] σ
      refine am_run 4 (pc' := 14) (ls' := [some (.ref 41), some (.int (nI 1)), some (.int y), some (.int z), some (.ref 75), none]) (st' := [.ref 75]) (σ' := σ) rfl ?_
      refine am_invv (y := 66) (b := 75) (as := []) (rest := []) rfl rfl rfl rfl rfl rfl rfl (Nat.le_of_ble_eq_true rfl) ?_
      refine am_enter' rfl rfl rfl (by omega) (ls := [some (.ref 75)]) rfl (fun d_1 hd_1 => ?_)
      refine am_run 2 (pc' := 4) (ls' := [some (.ref 75)]) (st' := [.ref (σ.2 75 1)]) (σ' := σ) rfl ?_
      refine am_reta rfl rfl (Or.inr ⟨_, rfl⟩) ?_
      show am_G _ M_X9_node _ 17 [some (.ref 41), some (.int (nI 1)), some (.int y), some (.int z), some (.ref 75), none] [.ref (σ.2 75 1)] σ
      refine am_run 1 (pc' := 18) (ls' := [some (.ref 41), some (.int (nI 1)), some (.int y), some (.int z), some (.ref 75), none]) (st' := [.int y, .ref (σ.2 75 1)]) (σ' := σ) rfl ?_
      refine am_invv (y := 106) (b := (σ.2 75 1)) (as := [.int y]) (rest := []) rfl rfl rfl rfl rfl rfl (t3_kind hT3) (Nat.le_of_ble_eq_true rfl) ?_
      refine c_has_out (by omega) hT3 hR.2.1 hn1 hn60 hy ?_
      show am_G _ M_X9_node _ 21 [some (.ref 41), some (.int (nI 1)), some (.int y), some (.int z), some (.ref 75), none] [.int (nI 0)] σ
      refine am_if (ty := 24) (tn := 27) rfl (by decide) rfl rfl (fun (h_2 : nI 0 = 0) => ?_) (fun (h_2 : ¬ (nI 0 = 0)) => ?_)
      rotate_left
      · exact absurd (by decide) h_2
      refine am_run 1 (pc' := 26) (ls' := [some (.ref 41), some (.int (nI 1)), some (.int y), some (.int z), some (.ref 75), none]) (st' := [.int (-1000001)]) (σ' := σ) rfl ?_
      refine am_reti rfl rfl ?_
      refine ⟨rfl, ?_⟩
      refine am_enter' (M := M_X10_node) rfl rfl rfl (by omega) (ls := [some (.ref 0), some (.int (nI 1)), some (.int y), some (.int z), none]) rfl (fun d2 hd2 => ?_)
      refine am_run 2 (pc' := 2) (ls' := [some (.ref 0), some (.int (nI 1)), some (.int y), some (.int z), none]) (st' := [.int (nI 1), .ref 0]) (σ' := σ) rfl ?_
      refine am_invv (y := 151) (b := 0) (as := [.int (nI 1)]) (rest := []) rfl rfl rfl rfl rfl rfl rfl (Nat.le_of_ble_eq_true rfl) ?_
      refine c_prog1_1 (by omega) (n := n) (by exact hn2) hn1 hn60 ?_
      show am_G _ M_X10_node _ 5 [some (.ref 0), some (.int (nI 1)), some (.int y), some (.int z), none] [.int (nI 1)] σ
      refine am_if (ty := 24) (tn := 8) rfl (by decide) rfl rfl (fun (h_101 : nI 1 = 0) => ?_) (fun (h_101 : ¬ (nI 1 = 0)) => ?_)
      · exact absurd h_101 (by decide)
      refine am_run 5 (pc' := 15) (ls' := [some (.ref 0), some (.int (nI 1)), some (.int y), some (.int z), none]) (st' := [.int (nI 1), .ref 2, .int (nI 0), .int y]) (σ' := σ) rfl ?_
      refine am_ialdN (n := 3) (v := nI n) rfl rfl rfl (by omega) hn2 (by decide) ?_
      refine am_run 2 (pc' := 18) (ls' := [some (.ref 0), some (.int (nI 1)), some (.int y), some (.int z), none]) (st' := [.int (nI n - nI 1), .int (nI 0), .int y]) (σ' := σ) rfl ?_
      refine am_top (v' := nI (n - 1)) (nx_sub (by omega)) ?_
      refine am_invs (y := 148) (as := [.int y, .int (nI 0), .int (nI (n - 1))]) (rest := []) rfl rfl rfl rfl rfl rfl (Nat.le_of_ble_eq_true rfl) ?_
      refine c_in0 (by omega) hy ?_
      show am_G _ M_X10_node _ 21 [some (.ref 0), some (.int (nI 1)), some (.int y), some (.int z), none] [.int (nI 0)] σ
      refine am_if (ty := 24) (tn := 27) rfl (by decide) rfl rfl (fun (h_102 : nI 0 = 0) => ?_) (fun (h_102 : ¬ (nI 0 = 0)) => ?_)
      rotate_left
      · exact absurd (by decide) h_102
      refine am_run 1 (pc' := 26) (ls' := [some (.ref 0), some (.int (nI 1)), some (.int y), some (.int z), none]) (st' := [.int (-1000001)]) (σ' := σ) rfl ?_
      refine am_reti rfl rfl ?_
      exact ⟨rfl, hI⟩

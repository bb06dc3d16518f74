set_option maxRecDepth 10000 in
set_option maxHeartbeats 2000000 in
theorem c_m_packed {d : Nat} (hd : 1 ≤ d) {σ : am_M} {Q : am_Q} {m c k q : Nat} (hm : m < 256) (hc : c < 256) (hk : k < 128) (hq7 : q < 128) (hq : Q (some (.int (nI (eM (m, c, k, q))))) σ) : am_C d 184 [.int (nI m), .int (nI c), .int (nI k), .int (nI q)] σ Q := by
  refine am_enter' (M := M_X10_packed) rfl rfl rfl (by omega) (ls := [some (.int (nI m)), some (.int (nI c)), some (.int (nI k)), some (.int (nI q))]) rfl (fun d' hd' => ?_)
  refine am_run 5 (pc' := 6) (ls' := [some (.int (nI m)), some (.int (nI c)), some (.int (nI k)), some (.int (nI q))]) (st' := [.int (nI m ||| ((nI c) <<< ((nI 8) &&& 31)))]) (σ' := σ) rfl ?_
  refine am_top (v' := nI (m + 256 * c)) (pq_kn c hm) ?_
  refine am_run 4 (pc' := 11) (ls' := [some (.int (nI m)), some (.int (nI c)), some (.int (nI k)), some (.int (nI q))]) (st' := [.int (nI (m + 256 * c) ||| ((nI k) <<< ((nI 16) &&& 31)))]) (σ' := σ) rfl ?_
  refine am_top (v' := nI (m + 256 * c + 65536 * k)) (by rw [nx_shl _ (by decide), nx_or, Nat.mul_comm k, show (2 : Nat) ^ 16 = 65536 from rfl, nx_orAdd (k := 16) 65536 rfl (by omega)]) ?_
  refine am_run 4 (pc' := 16) (ls' := [some (.int (nI m)), some (.int (nI c)), some (.int (nI k)), some (.int (nI q))]) (st' := [.int (nI (m + 256 * c + 65536 * k) ||| ((nI q) <<< ((nI 23) &&& 31)))]) (σ' := σ) rfl ?_
  refine am_top (v' := nI (eM (m, c, k, q))) (by rw [nx_shl _ (by decide), nx_or, Nat.mul_comm q, show (2 : Nat) ^ 23 = 8388608 from rfl, nx_orAdd (k := 23) 8388608 rfl (by omega)]; rfl) ?_
  refine am_reti rfl rfl ?_
  exact hq
set_option maxRecDepth 10000 in
set_option maxHeartbeats 2000000 in
theorem c_m_must {d : Nat} (hd : 1 ≤ d) {σ : am_M} {Q : am_Q} {r : R4} (hr : ok4 r) (hq : Q (some (.int (nI r.1))) σ) : am_C d 185 [.int (nI (eM r))] σ Q := by
  refine am_enter' (M := M_X10_must) rfl rfl rfl (by omega) (ls := [some (.int (nI (eM r)))]) rfl (fun d' hd' => ?_)
  refine am_run 3 (pc' := 5) (ls' := [some (.int (nI (eM r)))]) (st' := [.int (nI (eM r) &&& nI 255)]) (σ' := σ) rfl ?_
  refine am_top (v' := nI r.1) (by have h1 := hr.1; have h2 := hr.2.1; have h3 := hr.2.2.1; have h4 := hr.2.2.2; unfold eM; rw [show nI 255 = nI (256 - 1) from rfl, nx_mask (k := 8) _ rfl]; congr 1; omega) ?_
  refine am_reti rfl rfl ?_
  exact hq
set_option maxRecDepth 10000 in
set_option maxHeartbeats 2000000 in
theorem c_m_can {d : Nat} (hd : 1 ≤ d) {σ : am_M} {Q : am_Q} {r : R4} (hr : ok4 r) (hq : Q (some (.int (nI r.2.1))) σ) : am_C d 186 [.int (nI (eM r))] σ Q := by
  refine am_enter' (M := M_X10_can) rfl rfl rfl (by omega) (ls := [some (.int (nI (eM r)))]) rfl (fun d' hd' => ?_)
  refine am_run 5 (pc' := 8) (ls' := [some (.int (nI (eM r)))]) (st' := [.int (((nI (eM r)) >>> ((nI 8) &&& 31)) &&& nI 255)]) (σ' := σ) rfl ?_
  refine am_top (v' := nI r.2.1) (by have h1 := hr.1; have h2 := hr.2.1; have h3 := hr.2.2.1; have h4 := hr.2.2.2; unfold eM; rw [nx_shr (by omega) (by decide), show nI 255 = nI (256 - 1) from rfl, nx_mask (k := 8) _ rfl]; congr 1; omega) ?_
  refine am_reti rfl rfl ?_
  exact hq
set_option maxRecDepth 10000 in
set_option maxHeartbeats 2000000 in
theorem c_m_mustCodes {d : Nat} (hd : 1 ≤ d) {σ : am_M} {Q : am_Q} {r : R4} (hr : ok4 r) (hq : Q (some (.int (nI r.2.2.1))) σ) : am_C d 187 [.int (nI (eM r))] σ Q := by
  refine am_enter' (M := M_X10_mustCodes) rfl rfl rfl (by omega) (ls := [some (.int (nI (eM r)))]) rfl (fun d' hd' => ?_)
  refine am_run 5 (pc' := 7) (ls' := [some (.int (nI (eM r)))]) (st' := [.int (((nI (eM r)) >>> ((nI 16) &&& 31)) &&& nI 127)]) (σ' := σ) rfl ?_
  refine am_top (v' := nI r.2.2.1) (by have h1 := hr.1; have h2 := hr.2.1; have h3 := hr.2.2.1; have h4 := hr.2.2.2; unfold eM; rw [nx_shr (by omega) (by decide), show nI 127 = nI (128 - 1) from rfl, nx_mask (k := 7) _ rfl]; congr 1; omega) ?_
  refine am_reti rfl rfl ?_
  exact hq
set_option maxRecDepth 10000 in
set_option maxHeartbeats 2000000 in
theorem c_m_canCodes {d : Nat} (hd : 1 ≤ d) {σ : am_M} {Q : am_Q} {r : R4} (hr : ok4 r) (hq : Q (some (.int (nI r.2.2.2))) σ) : am_C d 188 [.int (nI (eM r))] σ Q := by
  refine am_enter' (M := M_X10_canCodes) rfl rfl rfl (by omega) (ls := [some (.int (nI (eM r)))]) rfl (fun d' hd' => ?_)
  refine am_run 5 (pc' := 7) (ls' := [some (.int (nI (eM r)))]) (st' := [.int (((nI (eM r)) >>> ((nI 23) &&& 31)) &&& nI 127)]) (σ' := σ) rfl ?_
  refine am_top (v' := nI r.2.2.2) (by have h1 := hr.1; have h2 := hr.2.1; have h3 := hr.2.2.1; have h4 := hr.2.2.2; unfold eM; rw [nx_shr (by omega) (by decide), show nI 127 = nI (128 - 1) from rfl, nx_mask (k := 7) _ rfl]; congr 1; omega) ?_
  refine am_reti rfl rfl ?_
  exact hq
set_option maxRecDepth 10000 in
set_option maxHeartbeats 2000000 in
theorem c_m_has {d : Nat} (hd : 1 ≤ d) {σ : am_M} {Q : am_Q} {a s : Nat} (ha : a < 2 ^ 31) (hs : s < 31) (h1 : a.testBit s = true → Q (some (.int (nI 1))) σ) (h0 : a.testBit s = false → Q (some (.int (nI 0))) σ) : am_C d 149 [.int (nI a), .int (nI s)] σ Q := by
  refine am_enter' (M := M_X10_has) rfl rfl rfl (by omega) (ls := [some (.int (nI a)), some (.int (nI s))]) rfl (fun d' hd' => ?_)
  refine am_run 6 (pc' := 6) (ls' := [some (.int (nI a)), some (.int (nI s))]) (st' := [.int (nI 1), .int (((nI a) >>> ((nI s) &&& 31)) &&& nI 1)]) (σ' := σ) rfl ?_
  refine am_ic (ty := 9) (tn := 13) rfl (by decide) rfl rfl (fun (h_1 : ((nI a) >>> ((nI s) &&& 31)) &&& nI 1 = nI 1) => ?_) (fun (h_1 : ¬ (((nI a) >>> ((nI s) &&& 31)) &&& nI 1 = nI 1)) => ?_)
  · refine am_run 2 (pc' := 14) (ls' := [some (.int (nI a)), some (.int (nI s))]) (st' := [.int (nI 1)]) (σ' := σ) rfl ?_
    refine am_retz rfl rfl (by decide) ?_
    exact h1 ((nx_hasM ha (by omega)).mp h_1)
  · refine am_run 1 (pc' := 14) (ls' := [some (.int (nI a)), some (.int (nI s))]) (st' := [.int (nI 0)]) (σ' := σ) rfl ?_
    refine am_retz rfl rfl (by decide) ?_
    exact h0 (by simpa using fun z => h_1 ((nx_hasM ha (by omega)).mpr z))
set_option maxRecDepth 10000 in
set_option maxHeartbeats 2000000 in
theorem c_m_code {d : Nat} (hd : 2 ≤ d) {σ : am_M} {Q : am_Q} {k : Nat} (hk : k < 128) (hq : Q (some (.int (nI (eM (r_cd k))))) σ) : am_C d 191 [.int (nI k)] σ Q := by
  refine am_enter' (M := M_X10_code) rfl rfl rfl (by omega) (ls := [some (.int (nI k))]) rfl (fun d' hd' => ?_)
  refine am_run 4 (pc' := 4) (ls' := [some (.int (nI k))]) (st' := [.int (nI k), .int (nI k), .int (nI 0), .int (nI 0)]) (σ' := σ) rfl ?_
  refine am_invs (y := 184) (as := [.int (nI 0), .int (nI 0), .int (nI k), .int (nI k)]) (rest := []) rfl rfl rfl rfl rfl rfl (Nat.le_of_ble_eq_true rfl) ?_
  refine c_m_packed (by omega) (m := 0) (c := 0) (k := k) (q := k) (by first | omega | decide | exact pow_lt_256 (by omega) | exact or_lt8 (by omega) (by omega) | exact or_lt7 (by omega) (by omega) | exact mx_lt (by omega) (by omega) | exact ct_lt (by omega) | exact or_lt7 (cl_lt (by omega)) (by omega) | exact cl_lt (by omega) | exact or_lt7 (cl_lt (by omega)) (tb_lt _)) (by first | omega | decide | exact pow_lt_256 (by omega) | exact or_lt8 (by omega) (by omega) | exact or_lt7 (by omega) (by omega) | exact mx_lt (by omega) (by omega) | exact ct_lt (by omega) | exact or_lt7 (cl_lt (by omega)) (by omega) | exact cl_lt (by omega) | exact or_lt7 (cl_lt (by omega)) (tb_lt _)) (by first | omega | decide | exact pow_lt_256 (by omega) | exact or_lt8 (by omega) (by omega) | exact or_lt7 (by omega) (by omega) | exact mx_lt (by omega) (by omega) | exact ct_lt (by omega) | exact or_lt7 (cl_lt (by omega)) (by omega) | exact cl_lt (by omega) | exact or_lt7 (cl_lt (by omega)) (tb_lt _)) (by first | omega | decide | exact pow_lt_256 (by omega) | exact or_lt8 (by omega) (by omega) | exact or_lt7 (by omega) (by omega) | exact mx_lt (by omega) (by omega) | exact ct_lt (by omega) | exact or_lt7 (cl_lt (by omega)) (by omega) | exact cl_lt (by omega) | exact or_lt7 (cl_lt (by omega)) (tb_lt _)) ?_
  show am_G _ M_X10_code _ 7 [some (.int (nI k))] [.int (nI (eM (0, 0, k, k)))] σ
  refine am_reti rfl rfl ?_
  exact hq
def ga (a b : Nat) : Nat → Nat
  | 0 => 0
  | t + 1 => ga a b t ||| (if a.testBit (t / 7) = true ∧ b.testBit (t % 7) = true then 2 ^ max (t / 7) (t % 7) else 0)
theorem ga_bit (a b l : Nat) : ∀ t, (ga a b t).testBit l = true ↔ ∃ t', t' < t ∧ a.testBit (t' / 7) = true ∧ b.testBit (t' % 7) = true ∧ max (t' / 7) (t' % 7) = l
  | 0 => by
    constructor
    · intro h
      rw [show ga a b 0 = 0 from rfl, Nat.zero_testBit] at h
      cases h
    · rintro ⟨t', h, _⟩
      exact absurd h (Nat.not_lt_zero _)
  | t + 1 => by
    have ih := ga_bit a b l t
    show (ga a b t ||| _).testBit l = true ↔ _
    rw [Nat.testBit_or, Bool.or_eq_true, ih]
    constructor
    · rintro (⟨t', h1, h2⟩ | h)
      · exact ⟨t', by omega, h2⟩
      · split at h
        · rename_i hc
          rw [Nat.testBit_two_pow, decide_eq_true_eq] at h
          exact ⟨t, by omega, hc.1, hc.2, h⟩
        · rw [Nat.zero_testBit] at h; cases h
    · rintro ⟨t', h1, h2, h3, h4⟩
      by_cases e : t' = t
      · subst e
        refine Or.inr ?_
        rw [if_pos ⟨h2, h3⟩, Nat.testBit_two_pow, decide_eq_true_eq]
        exact h4
      · exact Or.inl ⟨t', by omega, h2, h3, h4⟩
theorem bit_lt7 {a i : Nat} (ha : a < 128) (h : a.testBit i = true) : i < 7 := by
  refine Nat.lt_of_not_le fun q => ?_
  rw [Nat.testBit_lt_two_pow (Nat.lt_of_lt_of_le ha (show 2 ^ 7 ≤ 2 ^ i from Nat.pow_le_pow_right (by decide) q))] at h
  cases h
theorem ga_mx {a b : Nat} (ha : a < 128) (hb : b < 128) : ga a b 49 = mx a b := by
  apply Nat.eq_of_testBit_eq
  intro l
  have h : (ga a b 49).testBit l = true ↔ (mx a b).testBit l = true := by
    rw [ga_bit, mx_bit ha hb]
    constructor
    · rintro ⟨t, h1, h2, h3, h4⟩
      exact ⟨_, _, h2, h3, h4⟩
    · rintro ⟨i, j, h2, h3, h4⟩
      have := bit_lt7 ha h2
      have := bit_lt7 hb h3
      refine ⟨7 * i + j, by omega, ?_⟩
      rw [show (7 * i + j) / 7 = i by omega, show (7 * i + j) % 7 = j by omega]
      exact ⟨h2, h3, h4⟩
  rcases bt ((mx a b).testBit l) with e | e
  · rw [e, h.mpr e]
  · rcases bt ((ga a b 49).testBit l) with z | z
    · rw [h.mp z] at e; cases e
    · rw [e, z]
theorem ga_lt {a b : Nat} (ha : a < 128) (hb : b < 128) (t : Nat) : ga a b t < 128 := by
  refine Nat.lt_pow_two_of_testBit (n := 7) _ (fun j hj => ?_)
  rcases bt ((ga a b t).testBit j) with e | e
  · obtain ⟨t', -, h2, h3, h4⟩ := (ga_bit a b j t).mp e
    have := bit_lt7 ha h2
    have := bit_lt7 hb h3
    omega
  · exact e
theorem ga_s {a b i j : Nat} (hj : j < 7) : ga a b (7 * i + (j + 1)) = ga a b (7 * i + j) ||| (if a.testBit i = true ∧ b.testBit j = true then 2 ^ max i j else 0) := by
  rw [← Nat.add_assoc]
  show _ ||| _ = _
  rw [show (7 * i + j) / 7 = i by omega, show (7 * i + j) % 7 = j by omega]
set_option maxRecDepth 10000 in
set_option maxHeartbeats 2000000 in
theorem c_m_greater_in {d : Nat} (hd : 3 ≤ d) {σ : am_M} {Q : am_Q} {a b : Nat} (ha : a < 128) (hb : b < 128) {i : Nat} (hi : i < 7) (hn : ∀ v4 v5 : Option Value, am_G d M_X10_greater Q 4 [some (.int (nI a)), some (.int (nI b)), some (.int (nI (ga a b (7 * i + 7)))), some (.int (nI (i + 1))), v4, v5] [] σ) : ∀ (m j : Nat), j + m = 7 → ∀ v5 : Option Value, am_G d M_X10_greater Q 13 [some (.int (nI a)), some (.int (nI b)), some (.int (nI (ga a b (7 * i + j)))), some (.int (nI i)), some (.int (nI j)), v5] [] σ
  | 0, j, hm => by
    intro v5
    have hgl := ga_lt ha hb (7 * i + j)
    refine am_run 2 (pc' := 17) (ls' := [some (.int (nI a)), some (.int (nI b)), some (.int (nI (ga a b (7 * i + j)))), some (.int (nI i)), some (.int (nI j)), v5]) (st' := [.int (nI 7), .int (nI j)]) (σ' := σ) rfl ?_
    refine am_ic (ty := 20) (tn := 76) rfl (by decide) rfl rfl (fun (h_1 : nI j < nI 7) => ?_) (fun (h_1 : ¬ (nI j < nI 7)) => ?_)
    · have h_1 : j < 7 := (nI_ltI (by omega) (by omega)).mp h_1
      omega
    have h_1 : ¬ (j < 7) := fun z => h_1 ((nI_ltI (by omega) (by omega)).mpr z)
    refine am_run 1 (pc' := 79) (ls' := [some (.int (nI a)), some (.int (nI b)), some (.int (nI (ga a b (7 * i + j)))), some (.int (nI i + nI 1)), some (.int (nI j)), v5]) (st' := []) (σ' := σ) rfl ?_
    refine am_ls (ls' := [some (.int (nI a)), some (.int (nI b)), some (.int (nI (ga a b (7 * i + j)))), some (.int (nI (i + 1))), some (.int (nI j)), v5]) (by rw [nI_add]) ?_
    refine am_run 1 (pc' := 4) (ls' := [some (.int (nI a)), some (.int (nI b)), some (.int (nI (ga a b (7 * i + j)))), some (.int (nI (i + 1))), some (.int (nI j)), v5]) (st' := []) (σ' := σ) rfl ?_
    have e : j = 7 := by omega
    subst e
    exact hn _ _
  | m + 1, j, hm => by
    intro v5
    have hgl := ga_lt ha hb (7 * i + j)
    refine am_run 2 (pc' := 17) (ls' := [some (.int (nI a)), some (.int (nI b)), some (.int (nI (ga a b (7 * i + j)))), some (.int (nI i)), some (.int (nI j)), v5]) (st' := [.int (nI 7), .int (nI j)]) (σ' := σ) rfl ?_
    refine am_ic (ty := 20) (tn := 76) rfl (by decide) rfl rfl (fun (h_1 : nI j < nI 7) => ?_) (fun (h_1 : ¬ (nI j < nI 7)) => ?_)
    rotate_left
    · have h_1 : ¬ (j < 7) := fun z => h_1 ((nI_ltI (by omega) (by omega)).mpr z)
      omega
    have h_1 : j < 7 := (nI_ltI (by omega) (by omega)).mp h_1
    refine am_run 2 (pc' := 22) (ls' := [some (.int (nI a)), some (.int (nI b)), some (.int (nI (ga a b (7 * i + j)))), some (.int (nI i)), some (.int (nI j)), v5]) (st' := [.int (nI i), .int (nI a)]) (σ' := σ) rfl ?_
    refine am_invs (y := 149) (as := [.int (nI a), .int (nI i)]) (rest := []) rfl rfl rfl rfl rfl rfl (Nat.le_of_ble_eq_true rfl) ?_
    refine c_m_has (by omega) (a := a) (s := i) (by omega) (by omega) (fun hb_2 => ?_) (fun hb_2 => ?_)
    · show am_G _ M_X10_greater _ 25 [some (.int (nI a)), some (.int (nI b)), some (.int (nI (ga a b (7 * i + j)))), some (.int (nI i)), some (.int (nI j)), v5] [.int (nI 1)] σ
      refine am_if (ty := 41) (tn := 28) rfl (by decide) rfl rfl (fun (h_3 : nI 1 = 0) => ?_) (fun (h_3 : ¬ (nI 1 = 0)) => ?_)
      · exact absurd h_3 (by decide)
      refine am_run 2 (pc' := 31) (ls' := [some (.int (nI a)), some (.int (nI b)), some (.int (nI (ga a b (7 * i + j)))), some (.int (nI i)), some (.int (nI j)), v5]) (st' := [.int (nI j), .int (nI b)]) (σ' := σ) rfl ?_
      refine am_invs (y := 149) (as := [.int (nI b), .int (nI j)]) (rest := []) rfl rfl rfl rfl rfl rfl (Nat.le_of_ble_eq_true rfl) ?_
      refine c_m_has (by omega) (a := b) (s := j) (by omega) (by omega) (fun hb_4 => ?_) (fun hb_4 => ?_)
      · show am_G _ M_X10_greater _ 34 [some (.int (nI a)), some (.int (nI b)), some (.int (nI (ga a b (7 * i + j)))), some (.int (nI i)), some (.int (nI j)), v5] [.int (nI 1)] σ
        refine am_if (ty := 41) (tn := 37) rfl (by decide) rfl rfl (fun (h_5 : nI 1 = 0) => ?_) (fun (h_5 : ¬ (nI 1 = 0)) => ?_)
        · exact absurd h_5 (by decide)
        refine am_run 5 (pc' := 47) (ls' := [some (.int (nI a)), some (.int (nI b)), some (.int (nI (ga a b (7 * i + j)))), some (.int (nI i)), some (.int (nI j)), some (.int (nI 1))]) (st' := [.int (nI 1), .int (nI (ga a b (7 * i + j)))]) (σ' := σ) rfl ?_
        refine am_if (ty := 67) (tn := 50) rfl (by decide) rfl rfl (fun (h_6 : nI 1 = 0) => ?_) (fun (h_6 : ¬ (nI 1 = 0)) => ?_)
        · exact absurd h_6 (by decide)
        refine am_run 3 (pc' := 54) (ls' := [some (.int (nI a)), some (.int (nI b)), some (.int (nI (ga a b (7 * i + j)))), some (.int (nI i)), some (.int (nI j)), some (.int (nI 1))]) (st' := [.int (nI j), .int (nI i), .int (nI 1), .int (nI (ga a b (7 * i + j)))]) (σ' := σ) rfl ?_
        refine am_ic (ty := 57) (tn := 61) rfl (by decide) rfl rfl (fun (h_7 : nI j < nI i) => ?_) (fun (h_7 : ¬ (nI j < nI i)) => ?_)
        · have h_7 : j < i := (nI_ltI (by omega) (by omega)).mp h_7
          refine am_run 3 (pc' := 64) (ls' := [some (.int (nI a)), some (.int (nI b)), some (.int (nI (ga a b (7 * i + j)))), some (.int (nI i)), some (.int (nI j)), some (.int (nI 1))]) (st' := [.int ((nI 1) <<< ((nI i) &&& 31)), .int (nI (ga a b (7 * i + j)))]) (σ' := σ) rfl ?_
          refine am_top (v' := nI (2 ^ i)) (by rw [nx_shl 1 (by omega), Nat.one_mul]) ?_
          refine am_run 2 (pc' := 69) (ls' := [some (.int (nI a)), some (.int (nI b)), some (.int (nI (ga a b (7 * i + j)))), some (.int (nI i)), some (.int (nI j)), some (.int (nI 1))]) (st' := [.int (nI (ga a b (7 * i + j)) ||| nI (2 ^ i))]) (σ' := σ) rfl ?_
          refine am_top (v' := nI (ga a b (7 * i + j) ||| 2 ^ i)) (nx_or _ _) ?_
          refine am_run 2 (pc' := 73) (ls' := [some (.int (nI a)), some (.int (nI b)), some (.int (nI (ga a b (7 * i + j) ||| 2 ^ i))), some (.int (nI i)), some (.int (nI j + nI 1)), some (.int (nI 1))]) (st' := []) (σ' := σ) rfl ?_
          refine am_ls (ls' := [some (.int (nI a)), some (.int (nI b)), some (.int (nI (ga a b (7 * i + j) ||| 2 ^ i))), some (.int (nI i)), some (.int (nI (j + 1))), some (.int (nI 1))]) (by rw [nI_add]) ?_
          refine am_run 1 (pc' := 13) (ls' := [some (.int (nI a)), some (.int (nI b)), some (.int (nI (ga a b (7 * i + j) ||| 2 ^ i))), some (.int (nI i)), some (.int (nI (j + 1))), some (.int (nI 1))]) (st' := []) (σ' := σ) rfl ?_
          refine am_ls (ls' := [some (.int (nI a)), some (.int (nI b)), some (.int (nI (ga a b (7 * i + (j + 1))))), some (.int (nI i)), some (.int (nI (j + 1))), some (.int (nI 1))]) ?_ ?_
          · congr 4
            rw [ga_s (by omega)]
            first | (rw [if_pos ⟨by assumption, by assumption⟩]; done) | (rw [if_pos ⟨by assumption, by assumption⟩, Nat.max_eq_left (by omega)]; done) | (rw [if_pos ⟨by assumption, by assumption⟩, Nat.max_eq_right (by omega)]; done) | (rw [if_neg (fun z => by simp_all)]; done)
          exact c_m_greater_in hd ha hb hi hn m (j + 1) (by omega) _
        · have h_7 : ¬ (j < i) := fun z => h_7 ((nI_ltI (by omega) (by omega)).mpr z)
          refine am_run 2 (pc' := 64) (ls' := [some (.int (nI a)), some (.int (nI b)), some (.int (nI (ga a b (7 * i + j)))), some (.int (nI i)), some (.int (nI j)), some (.int (nI 1))]) (st' := [.int ((nI 1) <<< ((nI j) &&& 31)), .int (nI (ga a b (7 * i + j)))]) (σ' := σ) rfl ?_
          refine am_top (v' := nI (2 ^ j)) (by rw [nx_shl 1 (by omega), Nat.one_mul]) ?_
          refine am_run 2 (pc' := 69) (ls' := [some (.int (nI a)), some (.int (nI b)), some (.int (nI (ga a b (7 * i + j)))), some (.int (nI i)), some (.int (nI j)), some (.int (nI 1))]) (st' := [.int (nI (ga a b (7 * i + j)) ||| nI (2 ^ j))]) (σ' := σ) rfl ?_
          refine am_top (v' := nI (ga a b (7 * i + j) ||| 2 ^ j)) (nx_or _ _) ?_
          refine am_run 2 (pc' := 73) (ls' := [some (.int (nI a)), some (.int (nI b)), some (.int (nI (ga a b (7 * i + j) ||| 2 ^ j))), some (.int (nI i)), some (.int (nI j + nI 1)), some (.int (nI 1))]) (st' := []) (σ' := σ) rfl ?_
          refine am_ls (ls' := [some (.int (nI a)), some (.int (nI b)), some (.int (nI (ga a b (7 * i + j) ||| 2 ^ j))), some (.int (nI i)), some (.int (nI (j + 1))), some (.int (nI 1))]) (by rw [nI_add]) ?_
          refine am_run 1 (pc' := 13) (ls' := [some (.int (nI a)), some (.int (nI b)), some (.int (nI (ga a b (7 * i + j) ||| 2 ^ j))), some (.int (nI i)), some (.int (nI (j + 1))), some (.int (nI 1))]) (st' := []) (σ' := σ) rfl ?_
          refine am_ls (ls' := [some (.int (nI a)), some (.int (nI b)), some (.int (nI (ga a b (7 * i + (j + 1))))), some (.int (nI i)), some (.int (nI (j + 1))), some (.int (nI 1))]) ?_ ?_
          · congr 4
            rw [ga_s (by omega)]
            first | (rw [if_pos ⟨by assumption, by assumption⟩]; done) | (rw [if_pos ⟨by assumption, by assumption⟩, Nat.max_eq_left (by omega)]; done) | (rw [if_pos ⟨by assumption, by assumption⟩, Nat.max_eq_right (by omega)]; done) | (rw [if_neg (fun z => by simp_all)]; done)
          exact c_m_greater_in hd ha hb hi hn m (j + 1) (by omega) _
      · show am_G _ M_X10_greater _ 34 [some (.int (nI a)), some (.int (nI b)), some (.int (nI (ga a b (7 * i + j)))), some (.int (nI i)), some (.int (nI j)), v5] [.int (nI 0)] σ
        refine am_if (ty := 41) (tn := 37) rfl (by decide) rfl rfl (fun (h_8 : nI 0 = 0) => ?_) (fun (h_8 : ¬ (nI 0 = 0)) => ?_)
        rotate_left
        · exact absurd (by decide) h_8
        refine am_run 4 (pc' := 47) (ls' := [some (.int (nI a)), some (.int (nI b)), some (.int (nI (ga a b (7 * i + j)))), some (.int (nI i)), some (.int (nI j)), some (.int (nI 0))]) (st' := [.int (nI 0), .int (nI (ga a b (7 * i + j)))]) (σ' := σ) rfl ?_
        refine am_if (ty := 67) (tn := 50) rfl (by decide) rfl rfl (fun (h_9 : nI 0 = 0) => ?_) (fun (h_9 : ¬ (nI 0 = 0)) => ?_)
        rotate_left
        · exact absurd (by decide) h_9
        refine am_run 2 (pc' := 69) (ls' := [some (.int (nI a)), some (.int (nI b)), some (.int (nI (ga a b (7 * i + j)))), some (.int (nI i)), some (.int (nI j)), some (.int (nI 0))]) (st' := [.int (nI (ga a b (7 * i + j)) ||| nI 0)]) (σ' := σ) rfl ?_
        refine am_top (v' := nI (ga a b (7 * i + j) ||| 0)) (nx_or _ _) ?_
        refine am_run 2 (pc' := 73) (ls' := [some (.int (nI a)), some (.int (nI b)), some (.int (nI (ga a b (7 * i + j) ||| 0))), some (.int (nI i)), some (.int (nI j + nI 1)), some (.int (nI 0))]) (st' := []) (σ' := σ) rfl ?_
        refine am_ls (ls' := [some (.int (nI a)), some (.int (nI b)), some (.int (nI (ga a b (7 * i + j) ||| 0))), some (.int (nI i)), some (.int (nI (j + 1))), some (.int (nI 0))]) (by rw [nI_add]) ?_
        refine am_run 1 (pc' := 13) (ls' := [some (.int (nI a)), some (.int (nI b)), some (.int (nI (ga a b (7 * i + j) ||| 0))), some (.int (nI i)), some (.int (nI (j + 1))), some (.int (nI 0))]) (st' := []) (σ' := σ) rfl ?_
        refine am_ls (ls' := [some (.int (nI a)), some (.int (nI b)), some (.int (nI (ga a b (7 * i + (j + 1))))), some (.int (nI i)), some (.int (nI (j + 1))), some (.int (nI 0))]) ?_ ?_
        · congr 4
          rw [ga_s (by omega)]
          first | (rw [if_pos ⟨by assumption, by assumption⟩]; done) | (rw [if_pos ⟨by assumption, by assumption⟩, Nat.max_eq_left (by omega)]; done) | (rw [if_pos ⟨by assumption, by assumption⟩, Nat.max_eq_right (by omega)]; done) | (rw [if_neg (fun z => by simp_all)]; done)
        exact c_m_greater_in hd ha hb hi hn m (j + 1) (by omega) _
    · show am_G _ M_X10_greater _ 25 [some (.int (nI a)), some (.int (nI b)), some (.int (nI (ga a b (7 * i + j)))), some (.int (nI i)), some (.int (nI j)), v5] [.int (nI 0)] σ
      refine am_if (ty := 41) (tn := 28) rfl (by decide) rfl rfl (fun (h_10 : nI 0 = 0) => ?_) (fun (h_10 : ¬ (nI 0 = 0)) => ?_)
      rotate_left
      · exact absurd (by decide) h_10
      refine am_run 4 (pc' := 47) (ls' := [some (.int (nI a)), some (.int (nI b)), some (.int (nI (ga a b (7 * i + j)))), some (.int (nI i)), some (.int (nI j)), some (.int (nI 0))]) (st' := [.int (nI 0), .int (nI (ga a b (7 * i + j)))]) (σ' := σ) rfl ?_
      refine am_if (ty := 67) (tn := 50) rfl (by decide) rfl rfl (fun (h_11 : nI 0 = 0) => ?_) (fun (h_11 : ¬ (nI 0 = 0)) => ?_)
      rotate_left
      · exact absurd (by decide) h_11
      refine am_run 2 (pc' := 69) (ls' := [some (.int (nI a)), some (.int (nI b)), some (.int (nI (ga a b (7 * i + j)))), some (.int (nI i)), some (.int (nI j)), some (.int (nI 0))]) (st' := [.int (nI (ga a b (7 * i + j)) ||| nI 0)]) (σ' := σ) rfl ?_
      refine am_top (v' := nI (ga a b (7 * i + j) ||| 0)) (nx_or _ _) ?_
      refine am_run 2 (pc' := 73) (ls' := [some (.int (nI a)), some (.int (nI b)), some (.int (nI (ga a b (7 * i + j) ||| 0))), some (.int (nI i)), some (.int (nI j + nI 1)), some (.int (nI 0))]) (st' := []) (σ' := σ) rfl ?_
      refine am_ls (ls' := [some (.int (nI a)), some (.int (nI b)), some (.int (nI (ga a b (7 * i + j) ||| 0))), some (.int (nI i)), some (.int (nI (j + 1))), some (.int (nI 0))]) (by rw [nI_add]) ?_
      refine am_run 1 (pc' := 13) (ls' := [some (.int (nI a)), some (.int (nI b)), some (.int (nI (ga a b (7 * i + j) ||| 0))), some (.int (nI i)), some (.int (nI (j + 1))), some (.int (nI 0))]) (st' := []) (σ' := σ) rfl ?_
      refine am_ls (ls' := [some (.int (nI a)), some (.int (nI b)), some (.int (nI (ga a b (7 * i + (j + 1))))), some (.int (nI i)), some (.int (nI (j + 1))), some (.int (nI 0))]) ?_ ?_
      · congr 4
        rw [ga_s (by omega)]
        first | (rw [if_pos ⟨by assumption, by assumption⟩]; done) | (rw [if_pos ⟨by assumption, by assumption⟩, Nat.max_eq_left (by omega)]; done) | (rw [if_pos ⟨by assumption, by assumption⟩, Nat.max_eq_right (by omega)]; done) | (rw [if_neg (fun z => by simp_all)]; done)
      exact c_m_greater_in hd ha hb hi hn m (j + 1) (by omega) _
set_option maxRecDepth 10000 in
set_option maxHeartbeats 2000000 in
theorem c_m_greater_out {d : Nat} (hd : 3 ≤ d) {σ : am_M} {Q : am_Q} {a b : Nat} (ha : a < 128) (hb : b < 128) (hq : Q (some (.int (nI (mx a b)))) σ) : ∀ (m i : Nat), i + m = 7 → ∀ v4 v5 : Option Value, am_G d M_X10_greater Q 4 [some (.int (nI a)), some (.int (nI b)), some (.int (nI (ga a b (7 * i)))), some (.int (nI i)), v4, v5] [] σ
  | 0, i, hm => by
    intro v4 v5
    refine am_run 2 (pc' := 7) (ls' := [some (.int (nI a)), some (.int (nI b)), some (.int (nI (ga a b (7 * i)))), some (.int (nI i)), v4, v5]) (st' := [.int (nI 7), .int (nI i)]) (σ' := σ) rfl ?_
    refine am_ic (ty := 10) (tn := 82) rfl (by decide) rfl rfl (fun (h_1 : nI i < nI 7) => ?_) (fun (h_1 : ¬ (nI i < nI 7)) => ?_)
    · have h_1 : i < 7 := (nI_ltI (by omega) (by omega)).mp h_1
      omega
    have h_1 : ¬ (i < 7) := fun z => h_1 ((nI_ltI (by omega) (by omega)).mpr z)
    refine am_run 1 (pc' := 83) (ls' := [some (.int (nI a)), some (.int (nI b)), some (.int (nI (ga a b (7 * i)))), some (.int (nI i)), v4, v5]) (st' := [.int (nI (ga a b (7 * i)))]) (σ' := σ) rfl ?_
    refine am_reti rfl rfl ?_
    have e : i = 7 := by omega
    subst e
    rw [show 7 * 7 = 49 from rfl, ga_mx ha hb]
    exact hq
  | m + 1, i, hm => by
    intro v4 v5
    refine am_run 2 (pc' := 7) (ls' := [some (.int (nI a)), some (.int (nI b)), some (.int (nI (ga a b (7 * i)))), some (.int (nI i)), v4, v5]) (st' := [.int (nI 7), .int (nI i)]) (σ' := σ) rfl ?_
    refine am_ic (ty := 10) (tn := 82) rfl (by decide) rfl rfl (fun (h_1 : nI i < nI 7) => ?_) (fun (h_1 : ¬ (nI i < nI 7)) => ?_)
    rotate_left
    · have h_1 : ¬ (i < 7) := fun z => h_1 ((nI_ltI (by omega) (by omega)).mpr z)
      omega
    have h_1 : i < 7 := (nI_ltI (by omega) (by omega)).mp h_1
    refine am_run 2 (pc' := 13) (ls' := [some (.int (nI a)), some (.int (nI b)), some (.int (nI (ga a b (7 * i)))), some (.int (nI i)), some (.int (nI 0)), v5]) (st' := []) (σ' := σ) rfl ?_
    exact c_m_greater_in hd ha hb (by omega) (fun v4 v5 => c_m_greater_out hd ha hb hq m (i + 1) (by omega) v4 v5) 7 0 rfl _
set_option maxRecDepth 10000 in
set_option maxHeartbeats 2000000 in
theorem c_m_greater {d : Nat} (hd : 4 ≤ d) {σ : am_M} {Q : am_Q} {a b : Nat} (ha : a < 128) (hb : b < 128) (hq : Q (some (.int (nI (mx a b)))) σ) : am_C d 196 [.int (nI a), .int (nI b)] σ Q := by
  refine am_enter' (M := M_X10_greater) rfl rfl rfl (by omega) (ls := [some (.int (nI a)), some (.int (nI b)), none, none, none, none]) rfl (fun d' hd' => ?_)
  refine am_run 4 (pc' := 4) (ls' := [some (.int (nI a)), some (.int (nI b)), some (.int (nI 0)), some (.int (nI 0)), none, none]) (st' := []) (σ' := σ) rfl ?_
  exact c_m_greater_out (by omega) ha hb hq 7 0 rfl _ _
set_option maxRecDepth 10000 in
set_option maxHeartbeats 2000000 in
theorem c_m_lessOne {d : Nat} (hd : 1 ≤ d) {σ : am_M} {Q : am_Q} {k : Nat} (hk : k < 128) (hq : Q (some (.int (nI (ct k)))) σ) : am_C d 198 [.int (nI k)] σ Q := by
  refine am_enter' (M := M_X10_lessOne) rfl rfl rfl (by omega) (ls := [some (.int (nI k))]) rfl (fun d' hd' => ?_)
  refine am_run 15 (pc' := 15) (ls' := [some (.int (nI k))]) (st' := [.int (((nI k &&& nI 3) ||| (((nI k) >>> ((nI 2) &&& 31)) &&& nI 1)) ||| (((nI k) >>> ((nI 3) &&& 31)) <<< ((nI 2) &&& 31)))]) (σ' := σ) rfl ?_
  refine am_top (v' := nI (ct k)) (by rw [show nI 3 &&& 31 = nI 3 &&& 31 from rfl, nx_shr (by omega) (by decide), nx_shr (by omega) (by decide), nx_shl _ (by decide), show nI 3 = nI (4 - 1) from rfl, nx_mask (k := 2) k rfl, show nI 1 = nI (2 - 1) from rfl, nx_mask (k := 1) _ rfl, nx_or, nx_or]; rfl) ?_
  refine am_reti rfl rfl ?_
  exact hq
theorem eM_hide {r : R4} (hr : ok4 r) {g : Nat} (hg : g < 8) : nI (eM r) &&& ((nI (2 ^ g) ||| nI (2 ^ (g + 8))) ^^^ -1) = nI (eM (r_hide r g)) := by
  obtain ⟨h1, h2, h3, h4⟩ := hr
  have e1 : eM r = r.1 + 256 * (r.2.1 + 256 * (r.2.2.1 + 128 * r.2.2.2)) := by unfold eM; omega
  have e2 : eM (r_hide r g) = cl r.1 g + 256 * (cl r.2.1 g + 256 * (r.2.2.1 + 128 * r.2.2.2)) := by unfold eM r_hide; dsimp only; omega
  have e3 : nI (2 ^ g) ||| nI (2 ^ (g + 8)) = nI (2 ^ g + 256 * 2 ^ g) := by
    rw [nx_or, Nat.pow_add, Nat.mul_comm (2 ^ g), show (2 : Nat) ^ 8 = 256 from rfl, nx_orAdd (k := 8) 256 rfl (pow_lt_256 hg)]
  rw [e3, e1, e2, pq_noK h1 hg, pq_clS h2 hg]
set_option maxRecDepth 10000 in
set_option maxHeartbeats 2000000 in
theorem c_m_without {d : Nat} (hd : 1 ≤ d) {σ : am_M} {Q : am_Q} {r : R4} {g : Nat} (hr : ok4 r) (hg : g < 8) (hq : Q (some (.int (nI (eM (r_hide r g))))) σ) : am_C d 200 [.int (nI (eM r)), .int (nI g)] σ Q := by
  refine am_enter' (M := M_X10_without) rfl rfl rfl (by omega) (ls := [some (.int (nI (eM r))), some (.int (nI g))]) rfl (fun d' hd' => ?_)
  refine am_run 4 (pc' := 4) (ls' := [some (.int (nI (eM r))), some (.int (nI g))]) (st' := [.int ((nI 1) <<< ((nI g) &&& 31)), .int (nI (eM r))]) (σ' := σ) rfl ?_
  refine am_top (v' := nI (2 ^ g)) (by rw [nx_shl 1 (by omega), Nat.one_mul]) ?_
  refine am_run 4 (pc' := 9) (ls' := [some (.int (nI (eM r))), some (.int (nI g))]) (st' := [.int (nI g + nI 8), .int (nI 1), .int (nI (2 ^ g)), .int (nI (eM r))]) (σ' := σ) rfl ?_
  refine am_top (v' := nI (g + 8)) (nI_add _ _) ?_
  refine am_run 1 (pc' := 10) (ls' := [some (.int (nI (eM r))), some (.int (nI g))]) (st' := [.int ((nI 1) <<< ((nI (g + 8)) &&& 31)), .int (nI (2 ^ g)), .int (nI (eM r))]) (σ' := σ) rfl ?_
  refine am_top (v' := nI (2 ^ (g + 8))) (by rw [nx_shl 1 (by omega), Nat.one_mul]) ?_
  refine am_run 4 (pc' := 14) (ls' := [some (.int (nI (eM r))), some (.int (nI g))]) (st' := [.int (nI (eM r) &&& ((nI (2 ^ g) ||| nI (2 ^ (g + 8))) ^^^ (-1)))]) (σ' := σ) rfl ?_
  refine am_top (v' := nI (eM (r_hide r g))) (eM_hide hr hg) ?_
  refine am_reti rfl rfl ?_
  exact hq
set_option maxRecDepth 10000 in
set_option maxHeartbeats 2000000 in
theorem c_m_beside {d : Nat} (hd : 6 ≤ d) {σ : am_M} {Q : am_Q} {a b : R4} (oka : ok4 a) (okb : ok4 b) (hq : Q (some (.int (nI (eM (r_par a b))))) σ) : am_C d 197 [.int (nI (eM a)), .int (nI (eM b))] σ Q := by
  obtain ⟨a1, a2, a3, a4⟩ := id oka
  obtain ⟨b1, b2, b3, b4⟩ := id okb
  refine am_enter' (M := M_X10_beside) rfl rfl rfl (by omega) (ls := [some (.int (nI (eM a))), some (.int (nI (eM b))), none]) rfl (fun d' hd' => ?_)
  refine am_run 1 (pc' := 1) (ls' := [some (.int (nI (eM a))), some (.int (nI (eM b))), none]) (st' := [.int (nI (eM a))]) (σ' := σ) rfl ?_
  refine am_invs (y := 187) (as := [.int (nI (eM a))]) (rest := []) rfl rfl rfl rfl rfl rfl (Nat.le_of_ble_eq_true rfl) ?_
  refine c_m_mustCodes (by omega) (r := a) oka ?_
  show am_G _ M_X10_beside _ 4 [some (.int (nI (eM a))), some (.int (nI (eM b))), none] [.int (nI a.2.2.1)] σ
  refine am_run 1 (pc' := 5) (ls' := [some (.int (nI (eM a))), some (.int (nI (eM b))), none]) (st' := [.int (nI (eM b)), .int (nI a.2.2.1)]) (σ' := σ) rfl ?_
  refine am_invs (y := 187) (as := [.int (nI (eM b))]) (rest := [.int (nI a.2.2.1)]) rfl rfl rfl rfl rfl rfl (Nat.le_of_ble_eq_true rfl) ?_
  refine c_m_mustCodes (by omega) (r := b) okb ?_
  show am_G _ M_X10_beside _ 8 [some (.int (nI (eM a))), some (.int (nI (eM b))), none] [.int (nI b.2.2.1), .int (nI a.2.2.1)] σ
  refine am_invs (y := 196) (as := [.int (nI a.2.2.1), .int (nI b.2.2.1)]) (rest := []) rfl rfl rfl rfl rfl rfl (Nat.le_of_ble_eq_true rfl) ?_
  refine c_m_greater (by omega) (a := a.2.2.1) (b := b.2.2.1) (by omega) (by omega) ?_
  show am_G _ M_X10_beside _ 11 [some (.int (nI (eM a))), some (.int (nI (eM b))), none] [.int (nI (mx a.2.2.1 b.2.2.1))] σ
  refine am_run 2 (pc' := 13) (ls' := [some (.int (nI (eM a))), some (.int (nI (eM b))), some (.int (nI (mx a.2.2.1 b.2.2.1)))]) (st' := [.int (nI (eM a))]) (σ' := σ) rfl ?_
  refine am_invs (y := 185) (as := [.int (nI (eM a))]) (rest := []) rfl rfl rfl rfl rfl rfl (Nat.le_of_ble_eq_true rfl) ?_
  refine c_m_must (by omega) (r := a) oka ?_
  show am_G _ M_X10_beside _ 16 [some (.int (nI (eM a))), some (.int (nI (eM b))), some (.int (nI (mx a.2.2.1 b.2.2.1)))] [.int (nI a.1)] σ
  refine am_run 1 (pc' := 17) (ls' := [some (.int (nI (eM a))), some (.int (nI (eM b))), some (.int (nI (mx a.2.2.1 b.2.2.1)))]) (st' := [.int (nI (eM b)), .int (nI a.1)]) (σ' := σ) rfl ?_
  refine am_invs (y := 185) (as := [.int (nI (eM b))]) (rest := [.int (nI a.1)]) rfl rfl rfl rfl rfl rfl (Nat.le_of_ble_eq_true rfl) ?_
  refine c_m_must (by omega) (r := b) okb ?_
  show am_G _ M_X10_beside _ 20 [some (.int (nI (eM a))), some (.int (nI (eM b))), some (.int (nI (mx a.2.2.1 b.2.2.1)))] [.int (nI b.1), .int (nI a.1)] σ
  refine am_run 1 (pc' := 21) (ls' := [some (.int (nI (eM a))), some (.int (nI (eM b))), some (.int (nI (mx a.2.2.1 b.2.2.1)))]) (st' := [.int (nI a.1 ||| nI b.1)]) (σ' := σ) rfl ?_
  refine am_top (v' := nI (a.1 ||| b.1)) (nx_or _ _) ?_
  refine am_run 1 (pc' := 22) (ls' := [some (.int (nI (eM a))), some (.int (nI (eM b))), some (.int (nI (mx a.2.2.1 b.2.2.1)))]) (st' := [.int (nI (eM a)), .int (nI (a.1 ||| b.1))]) (σ' := σ) rfl ?_
  refine am_invs (y := 186) (as := [.int (nI (eM a))]) (rest := [.int (nI (a.1 ||| b.1))]) rfl rfl rfl rfl rfl rfl (Nat.le_of_ble_eq_true rfl) ?_
  refine c_m_can (by omega) (r := a) oka ?_
  show am_G _ M_X10_beside _ 25 [some (.int (nI (eM a))), some (.int (nI (eM b))), some (.int (nI (mx a.2.2.1 b.2.2.1)))] [.int (nI a.2.1), .int (nI (a.1 ||| b.1))] σ
  refine am_run 1 (pc' := 26) (ls' := [some (.int (nI (eM a))), some (.int (nI (eM b))), some (.int (nI (mx a.2.2.1 b.2.2.1)))]) (st' := [.int (nI (eM b)), .int (nI a.2.1), .int (nI (a.1 ||| b.1))]) (σ' := σ) rfl ?_
  refine am_invs (y := 186) (as := [.int (nI (eM b))]) (rest := [.int (nI a.2.1), .int (nI (a.1 ||| b.1))]) rfl rfl rfl rfl rfl rfl (Nat.le_of_ble_eq_true rfl) ?_
  refine c_m_can (by omega) (r := b) okb ?_
  show am_G _ M_X10_beside _ 29 [some (.int (nI (eM a))), some (.int (nI (eM b))), some (.int (nI (mx a.2.2.1 b.2.2.1)))] [.int (nI b.2.1), .int (nI a.2.1), .int (nI (a.1 ||| b.1))] σ
  refine am_run 1 (pc' := 30) (ls' := [some (.int (nI (eM a))), some (.int (nI (eM b))), some (.int (nI (mx a.2.2.1 b.2.2.1)))]) (st' := [.int (nI a.2.1 ||| nI b.2.1), .int (nI (a.1 ||| b.1))]) (σ' := σ) rfl ?_
  refine am_top (v' := nI (a.2.1 ||| b.2.1)) (nx_or _ _) ?_
  refine am_run 2 (pc' := 32) (ls' := [some (.int (nI (eM a))), some (.int (nI (eM b))), some (.int (nI (mx a.2.2.1 b.2.2.1)))]) (st' := [.int (nI (eM a)), .int (nI (mx a.2.2.1 b.2.2.1)), .int (nI (a.2.1 ||| b.2.1)), .int (nI (a.1 ||| b.1))]) (σ' := σ) rfl ?_
  refine am_invs (y := 188) (as := [.int (nI (eM a))]) (rest := [.int (nI (mx a.2.2.1 b.2.2.1)), .int (nI (a.2.1 ||| b.2.1)), .int (nI (a.1 ||| b.1))]) rfl rfl rfl rfl rfl rfl (Nat.le_of_ble_eq_true rfl) ?_
  refine c_m_canCodes (by omega) (r := a) oka ?_
  show am_G _ M_X10_beside _ 35 [some (.int (nI (eM a))), some (.int (nI (eM b))), some (.int (nI (mx a.2.2.1 b.2.2.1)))] [.int (nI a.2.2.2), .int (nI (mx a.2.2.1 b.2.2.1)), .int (nI (a.2.1 ||| b.2.1)), .int (nI (a.1 ||| b.1))] σ
  refine am_run 1 (pc' := 36) (ls' := [some (.int (nI (eM a))), some (.int (nI (eM b))), some (.int (nI (mx a.2.2.1 b.2.2.1)))]) (st' := [.int (nI (eM b)), .int (nI a.2.2.2), .int (nI (mx a.2.2.1 b.2.2.1)), .int (nI (a.2.1 ||| b.2.1)), .int (nI (a.1 ||| b.1))]) (σ' := σ) rfl ?_
  refine am_invs (y := 188) (as := [.int (nI (eM b))]) (rest := [.int (nI a.2.2.2), .int (nI (mx a.2.2.1 b.2.2.1)), .int (nI (a.2.1 ||| b.2.1)), .int (nI (a.1 ||| b.1))]) rfl rfl rfl rfl rfl rfl (Nat.le_of_ble_eq_true rfl) ?_
  refine c_m_canCodes (by omega) (r := b) okb ?_
  show am_G _ M_X10_beside _ 39 [some (.int (nI (eM a))), some (.int (nI (eM b))), some (.int (nI (mx a.2.2.1 b.2.2.1)))] [.int (nI b.2.2.2), .int (nI a.2.2.2), .int (nI (mx a.2.2.1 b.2.2.1)), .int (nI (a.2.1 ||| b.2.1)), .int (nI (a.1 ||| b.1))] σ
  refine am_invs (y := 196) (as := [.int (nI a.2.2.2), .int (nI b.2.2.2)]) (rest := [.int (nI (mx a.2.2.1 b.2.2.1)), .int (nI (a.2.1 ||| b.2.1)), .int (nI (a.1 ||| b.1))]) rfl rfl rfl rfl rfl rfl (Nat.le_of_ble_eq_true rfl) ?_
  refine c_m_greater (by omega) (a := a.2.2.2) (b := b.2.2.2) (by omega) (by omega) ?_
  show am_G _ M_X10_beside _ 42 [some (.int (nI (eM a))), some (.int (nI (eM b))), some (.int (nI (mx a.2.2.1 b.2.2.1)))] [.int (nI (mx a.2.2.2 b.2.2.2)), .int (nI (mx a.2.2.1 b.2.2.1)), .int (nI (a.2.1 ||| b.2.1)), .int (nI (a.1 ||| b.1))] σ
  refine am_invs (y := 184) (as := [.int (nI (a.1 ||| b.1)), .int (nI (a.2.1 ||| b.2.1)), .int (nI (mx a.2.2.1 b.2.2.1)), .int (nI (mx a.2.2.2 b.2.2.2))]) (rest := []) rfl rfl rfl rfl rfl rfl (Nat.le_of_ble_eq_true rfl) ?_
  refine c_m_packed (by omega) (m := a.1 ||| b.1) (c := a.2.1 ||| b.2.1) (k := mx a.2.2.1 b.2.2.1) (q := mx a.2.2.2 b.2.2.2) (by first | omega | decide | exact pow_lt_256 (by omega) | exact or_lt8 (by omega) (by omega) | exact or_lt7 (by omega) (by omega) | exact mx_lt (by omega) (by omega) | exact ct_lt (by omega) | exact or_lt7 (cl_lt (by omega)) (by omega) | exact cl_lt (by omega) | exact or_lt7 (cl_lt (by omega)) (tb_lt _)) (by first | omega | decide | exact pow_lt_256 (by omega) | exact or_lt8 (by omega) (by omega) | exact or_lt7 (by omega) (by omega) | exact mx_lt (by omega) (by omega) | exact ct_lt (by omega) | exact or_lt7 (cl_lt (by omega)) (by omega) | exact cl_lt (by omega) | exact or_lt7 (cl_lt (by omega)) (tb_lt _)) (by first | omega | decide | exact pow_lt_256 (by omega) | exact or_lt8 (by omega) (by omega) | exact or_lt7 (by omega) (by omega) | exact mx_lt (by omega) (by omega) | exact ct_lt (by omega) | exact or_lt7 (cl_lt (by omega)) (by omega) | exact cl_lt (by omega) | exact or_lt7 (cl_lt (by omega)) (tb_lt _)) (by first | omega | decide | exact pow_lt_256 (by omega) | exact or_lt8 (by omega) (by omega) | exact or_lt7 (by omega) (by omega) | exact mx_lt (by omega) (by omega) | exact ct_lt (by omega) | exact or_lt7 (cl_lt (by omega)) (by omega) | exact cl_lt (by omega) | exact or_lt7 (cl_lt (by omega)) (tb_lt _)) ?_
  show am_G _ M_X10_beside _ 45 [some (.int (nI (eM a))), some (.int (nI (eM b))), some (.int (nI (mx a.2.2.1 b.2.2.1)))] [.int (nI (eM (a.1 ||| b.1, a.2.1 ||| b.2.1, mx a.2.2.1 b.2.2.1, mx a.2.2.2 b.2.2.2)))] σ
  refine am_reti rfl rfl ?_
  exact hq
set_option maxRecDepth 10000 in
set_option maxHeartbeats 2000000 in
theorem c_m_perhapsOf {d : Nat} (hd : 3 ≤ d) {σ : am_M} {Q : am_Q} {a b : R4} (oka : ok4 a) (okb : ok4 b) (hq : Q (some (.int (nI (eM (r_or a b))))) σ) : am_C d 199 [.int (nI (eM a)), .int (nI (eM b))] σ Q := by
  obtain ⟨a1, a2, a3, a4⟩ := id oka
  obtain ⟨b1, b2, b3, b4⟩ := id okb
  refine am_enter' (M := M_X10_perhapsOf) rfl rfl rfl (by omega) (ls := [some (.int (nI (eM a))), some (.int (nI (eM b)))]) rfl (fun d' hd' => ?_)
  refine am_run 2 (pc' := 2) (ls' := [some (.int (nI (eM a))), some (.int (nI (eM b)))]) (st' := [.int (nI (eM a)), .int (nI 0)]) (σ' := σ) rfl ?_
  refine am_invs (y := 186) (as := [.int (nI (eM a))]) (rest := [.int (nI 0)]) rfl rfl rfl rfl rfl rfl (Nat.le_of_ble_eq_true rfl) ?_
  refine c_m_can (by omega) (r := a) oka ?_
  show am_G _ M_X10_perhapsOf _ 5 [some (.int (nI (eM a))), some (.int (nI (eM b)))] [.int (nI a.2.1), .int (nI 0)] σ
  refine am_run 1 (pc' := 6) (ls' := [some (.int (nI (eM a))), some (.int (nI (eM b)))]) (st' := [.int (nI (eM b)), .int (nI a.2.1), .int (nI 0)]) (σ' := σ) rfl ?_
  refine am_invs (y := 186) (as := [.int (nI (eM b))]) (rest := [.int (nI a.2.1), .int (nI 0)]) rfl rfl rfl rfl rfl rfl (Nat.le_of_ble_eq_true rfl) ?_
  refine c_m_can (by omega) (r := b) okb ?_
  show am_G _ M_X10_perhapsOf _ 9 [some (.int (nI (eM a))), some (.int (nI (eM b)))] [.int (nI b.2.1), .int (nI a.2.1), .int (nI 0)] σ
  refine am_run 1 (pc' := 10) (ls' := [some (.int (nI (eM a))), some (.int (nI (eM b)))]) (st' := [.int (nI a.2.1 ||| nI b.2.1), .int (nI 0)]) (σ' := σ) rfl ?_
  refine am_top (v' := nI (a.2.1 ||| b.2.1)) (nx_or _ _) ?_
  refine am_run 2 (pc' := 12) (ls' := [some (.int (nI (eM a))), some (.int (nI (eM b)))]) (st' := [.int (nI (eM a)), .int (nI 0), .int (nI (a.2.1 ||| b.2.1)), .int (nI 0)]) (σ' := σ) rfl ?_
  refine am_invs (y := 188) (as := [.int (nI (eM a))]) (rest := [.int (nI 0), .int (nI (a.2.1 ||| b.2.1)), .int (nI 0)]) rfl rfl rfl rfl rfl rfl (Nat.le_of_ble_eq_true rfl) ?_
  refine c_m_canCodes (by omega) (r := a) oka ?_
  show am_G _ M_X10_perhapsOf _ 15 [some (.int (nI (eM a))), some (.int (nI (eM b)))] [.int (nI a.2.2.2), .int (nI 0), .int (nI (a.2.1 ||| b.2.1)), .int (nI 0)] σ
  refine am_run 1 (pc' := 16) (ls' := [some (.int (nI (eM a))), some (.int (nI (eM b)))]) (st' := [.int (nI (eM b)), .int (nI a.2.2.2), .int (nI 0), .int (nI (a.2.1 ||| b.2.1)), .int (nI 0)]) (σ' := σ) rfl ?_
  refine am_invs (y := 188) (as := [.int (nI (eM b))]) (rest := [.int (nI a.2.2.2), .int (nI 0), .int (nI (a.2.1 ||| b.2.1)), .int (nI 0)]) rfl rfl rfl rfl rfl rfl (Nat.le_of_ble_eq_true rfl) ?_
  refine c_m_canCodes (by omega) (r := b) okb ?_
  show am_G _ M_X10_perhapsOf _ 19 [some (.int (nI (eM a))), some (.int (nI (eM b)))] [.int (nI b.2.2.2), .int (nI a.2.2.2), .int (nI 0), .int (nI (a.2.1 ||| b.2.1)), .int (nI 0)] σ
  refine am_run 1 (pc' := 20) (ls' := [some (.int (nI (eM a))), some (.int (nI (eM b)))]) (st' := [.int (nI a.2.2.2 ||| nI b.2.2.2), .int (nI 0), .int (nI (a.2.1 ||| b.2.1)), .int (nI 0)]) (σ' := σ) rfl ?_
  refine am_top (v' := nI (a.2.2.2 ||| b.2.2.2)) (nx_or _ _) ?_
  refine am_invs (y := 184) (as := [.int (nI 0), .int (nI (a.2.1 ||| b.2.1)), .int (nI 0), .int (nI (a.2.2.2 ||| b.2.2.2))]) (rest := []) rfl rfl rfl rfl rfl rfl (Nat.le_of_ble_eq_true rfl) ?_
  refine c_m_packed (by omega) (m := 0) (c := a.2.1 ||| b.2.1) (k := 0) (q := a.2.2.2 ||| b.2.2.2) (by first | omega | decide | exact pow_lt_256 (by omega) | exact or_lt8 (by omega) (by omega) | exact or_lt7 (by omega) (by omega) | exact mx_lt (by omega) (by omega) | exact ct_lt (by omega) | exact or_lt7 (cl_lt (by omega)) (by omega) | exact cl_lt (by omega) | exact or_lt7 (cl_lt (by omega)) (tb_lt _)) (by first | omega | decide | exact pow_lt_256 (by omega) | exact or_lt8 (by omega) (by omega) | exact or_lt7 (by omega) (by omega) | exact mx_lt (by omega) (by omega) | exact ct_lt (by omega) | exact or_lt7 (cl_lt (by omega)) (by omega) | exact cl_lt (by omega) | exact or_lt7 (cl_lt (by omega)) (tb_lt _)) (by first | omega | decide | exact pow_lt_256 (by omega) | exact or_lt8 (by omega) (by omega) | exact or_lt7 (by omega) (by omega) | exact mx_lt (by omega) (by omega) | exact ct_lt (by omega) | exact or_lt7 (cl_lt (by omega)) (by omega) | exact cl_lt (by omega) | exact or_lt7 (cl_lt (by omega)) (tb_lt _)) (by first | omega | decide | exact pow_lt_256 (by omega) | exact or_lt8 (by omega) (by omega) | exact or_lt7 (by omega) (by omega) | exact mx_lt (by omega) (by omega) | exact ct_lt (by omega) | exact or_lt7 (cl_lt (by omega)) (by omega) | exact cl_lt (by omega) | exact or_lt7 (cl_lt (by omega)) (tb_lt _)) ?_
  show am_G _ M_X10_perhapsOf _ 23 [some (.int (nI (eM a))), some (.int (nI (eM b)))] [.int (nI (eM (0, a.2.1 ||| b.2.1, 0, a.2.2.2 ||| b.2.2.2)))] σ
  refine am_reti rfl rfl ?_
  exact hq
set_option maxRecDepth 10000 in
set_option maxHeartbeats 2000000 in
theorem c_m_trapped {d : Nat} (hd : 3 ≤ d) {σ : am_M} {Q : am_Q} {a : R4} (oka : ok4 a) (hq : Q (some (.int (nI (eM (r_trap a))))) σ) : am_C d 204 [.int (nI (eM a))] σ Q := by
  obtain ⟨a1, a2, a3, a4⟩ := id oka
  refine am_enter' (M := M_X10_trapped) rfl rfl rfl (by omega) (ls := [some (.int (nI (eM a)))]) rfl (fun d' hd' => ?_)
  refine am_run 1 (pc' := 1) (ls' := [some (.int (nI (eM a)))]) (st' := [.int (nI (eM a))]) (σ' := σ) rfl ?_
  refine am_invs (y := 185) (as := [.int (nI (eM a))]) (rest := []) rfl rfl rfl rfl rfl rfl (Nat.le_of_ble_eq_true rfl) ?_
  refine c_m_must (by omega) (r := a) oka ?_
  show am_G _ M_X10_trapped _ 4 [some (.int (nI (eM a)))] [.int (nI a.1)] σ
  refine am_run 1 (pc' := 5) (ls' := [some (.int (nI (eM a)))]) (st' := [.int (nI (eM a)), .int (nI a.1)]) (σ' := σ) rfl ?_
  refine am_invs (y := 186) (as := [.int (nI (eM a))]) (rest := [.int (nI a.1)]) rfl rfl rfl rfl rfl rfl (Nat.le_of_ble_eq_true rfl) ?_
  refine c_m_can (by omega) (r := a) oka ?_
  show am_G _ M_X10_trapped _ 8 [some (.int (nI (eM a)))] [.int (nI a.2.1), .int (nI a.1)] σ
  refine am_run 1 (pc' := 9) (ls' := [some (.int (nI (eM a)))]) (st' := [.int (nI (eM a)), .int (nI a.2.1), .int (nI a.1)]) (σ' := σ) rfl ?_
  refine am_invs (y := 187) (as := [.int (nI (eM a))]) (rest := [.int (nI a.2.1), .int (nI a.1)]) rfl rfl rfl rfl rfl rfl (Nat.le_of_ble_eq_true rfl) ?_
  refine c_m_mustCodes (by omega) (r := a) oka ?_
  show am_G _ M_X10_trapped _ 12 [some (.int (nI (eM a)))] [.int (nI a.2.2.1), .int (nI a.2.1), .int (nI a.1)] σ
  refine am_invs (y := 198) (as := [.int (nI a.2.2.1)]) (rest := [.int (nI a.2.1), .int (nI a.1)]) rfl rfl rfl rfl rfl rfl (Nat.le_of_ble_eq_true rfl) ?_
  refine c_m_lessOne (by omega) (k := a.2.2.1) (by omega) ?_
  show am_G _ M_X10_trapped _ 15 [some (.int (nI (eM a)))] [.int (nI (ct a.2.2.1)), .int (nI a.2.1), .int (nI a.1)] σ
  refine am_run 1 (pc' := 16) (ls' := [some (.int (nI (eM a)))]) (st' := [.int (nI (eM a)), .int (nI (ct a.2.2.1)), .int (nI a.2.1), .int (nI a.1)]) (σ' := σ) rfl ?_
  refine am_invs (y := 188) (as := [.int (nI (eM a))]) (rest := [.int (nI (ct a.2.2.1)), .int (nI a.2.1), .int (nI a.1)]) rfl rfl rfl rfl rfl rfl (Nat.le_of_ble_eq_true rfl) ?_
  refine c_m_canCodes (by omega) (r := a) oka ?_
  show am_G _ M_X10_trapped _ 19 [some (.int (nI (eM a)))] [.int (nI a.2.2.2), .int (nI (ct a.2.2.1)), .int (nI a.2.1), .int (nI a.1)] σ
  refine am_invs (y := 198) (as := [.int (nI a.2.2.2)]) (rest := [.int (nI (ct a.2.2.1)), .int (nI a.2.1), .int (nI a.1)]) rfl rfl rfl rfl rfl rfl (Nat.le_of_ble_eq_true rfl) ?_
  refine c_m_lessOne (by omega) (k := a.2.2.2) (by omega) ?_
  show am_G _ M_X10_trapped _ 22 [some (.int (nI (eM a)))] [.int (nI (ct a.2.2.2)), .int (nI (ct a.2.2.1)), .int (nI a.2.1), .int (nI a.1)] σ
  refine am_invs (y := 184) (as := [.int (nI a.1), .int (nI a.2.1), .int (nI (ct a.2.2.1)), .int (nI (ct a.2.2.2))]) (rest := []) rfl rfl rfl rfl rfl rfl (Nat.le_of_ble_eq_true rfl) ?_
  refine c_m_packed (by omega) (m := a.1) (c := a.2.1) (k := ct a.2.2.1) (q := ct a.2.2.2) (by first | omega | decide | exact pow_lt_256 (by omega) | exact or_lt8 (by omega) (by omega) | exact or_lt7 (by omega) (by omega) | exact mx_lt (by omega) (by omega) | exact ct_lt (by omega) | exact or_lt7 (cl_lt (by omega)) (by omega) | exact cl_lt (by omega) | exact or_lt7 (cl_lt (by omega)) (tb_lt _)) (by first | omega | decide | exact pow_lt_256 (by omega) | exact or_lt8 (by omega) (by omega) | exact or_lt7 (by omega) (by omega) | exact mx_lt (by omega) (by omega) | exact ct_lt (by omega) | exact or_lt7 (cl_lt (by omega)) (by omega) | exact cl_lt (by omega) | exact or_lt7 (cl_lt (by omega)) (tb_lt _)) (by first | omega | decide | exact pow_lt_256 (by omega) | exact or_lt8 (by omega) (by omega) | exact or_lt7 (by omega) (by omega) | exact mx_lt (by omega) (by omega) | exact ct_lt (by omega) | exact or_lt7 (cl_lt (by omega)) (by omega) | exact cl_lt (by omega) | exact or_lt7 (cl_lt (by omega)) (tb_lt _)) (by first | omega | decide | exact pow_lt_256 (by omega) | exact or_lt8 (by omega) (by omega) | exact or_lt7 (by omega) (by omega) | exact mx_lt (by omega) (by omega) | exact ct_lt (by omega) | exact or_lt7 (cl_lt (by omega)) (by omega) | exact cl_lt (by omega) | exact or_lt7 (cl_lt (by omega)) (tb_lt _)) ?_
  show am_G _ M_X10_trapped _ 25 [some (.int (nI (eM a)))] [.int (nI (eM (a.1, a.2.1, ct a.2.2.1, ct a.2.2.2)))] σ
  refine am_reti rfl rfl ?_
  exact hq
set_option maxRecDepth 10000 in
set_option maxHeartbeats 2000000 in
theorem c_m_cellOf {d : Nat} (hd : 1 ≤ d) {σ : am_M} {Q : am_Q} {n w m : Nat} (hq : Q (some (.int (nI ((n * 27 + w) * 4 + m)))) σ) : am_C d 189 [.int (nI n), .int (nI w), .int (nI m)] σ Q := by
  refine am_enter' (M := M_X10_cellOf) rfl rfl rfl (by omega) (ls := [some (.int (nI n)), some (.int (nI w)), some (.int (nI m))]) rfl (fun d' hd' => ?_)
  refine am_run 3 (pc' := 4) (ls' := [some (.int (nI n)), some (.int (nI w)), some (.int (nI m))]) (st' := [.int (nI n * nI 27)]) (σ' := σ) rfl ?_
  refine am_top (v' := nI (n * 27)) (am_nmul _ _) ?_
  refine am_run 2 (pc' := 6) (ls' := [some (.int (nI n)), some (.int (nI w)), some (.int (nI m))]) (st' := [.int (nI (n * 27) + nI w)]) (σ' := σ) rfl ?_
  refine am_top (v' := nI (n * 27 + w)) (nI_add _ _) ?_
  refine am_run 2 (pc' := 8) (ls' := [some (.int (nI n)), some (.int (nI w)), some (.int (nI m))]) (st' := [.int (nI (n * 27 + w) * nI 4)]) (σ' := σ) rfl ?_
  refine am_top (v' := nI ((n * 27 + w) * 4)) (am_nmul _ _) ?_
  refine am_run 2 (pc' := 10) (ls' := [some (.int (nI n)), some (.int (nI w)), some (.int (nI m))]) (st' := [.int (nI ((n * 27 + w) * 4) + nI m)]) (σ' := σ) rfl ?_
  refine am_top (v' := nI ((n * 27 + w) * 4 + m)) (nI_add _ _) ?_
  refine am_reti rfl rfl ?_
  exact hq
set_option maxRecDepth 10000 in
set_option maxHeartbeats 2000000 in
theorem c_m_placeOf {d : Nat} (hd : 1 ≤ d) {σ : am_M} {Q : am_Q} {j n : Nat} (hq : Q (some (.int (nI (60 * j + n)))) σ) : am_C d 158 [.int (nI j), .int (nI n)] σ Q := by
  refine am_enter' (M := M_X10_placeOf) rfl rfl rfl (by omega) (ls := [some (.int (nI j)), some (.int (nI n))]) rfl (fun d' hd' => ?_)
  refine am_run 3 (pc' := 4) (ls' := [some (.int (nI j)), some (.int (nI n))]) (st' := [.int (nI 60 * nI j)]) (σ' := σ) rfl ?_
  refine am_top (v' := nI (60 * j)) (am_nmul _ _) ?_
  refine am_run 2 (pc' := 6) (ls' := [some (.int (nI j)), some (.int (nI n))]) (st' := [.int (nI (60 * j) + nI n)]) (σ' := σ) rfl ?_
  refine am_top (v' := nI (60 * j + n)) (nI_add _ _) ?_
  refine am_reti rfl rfl ?_
  exact hq
set_option maxRecDepth 10000 in
set_option maxHeartbeats 2000000 in
theorem c_m_threeTo {d : Nat} (hd : 1 ≤ d) {σ : am_M} {Q : am_Q} {a : Nat} (ha : a ≤ 3) (hq : Q (some (.int (nI (3 ^ a)))) σ) : am_C d 193 [.int (nI a)] σ Q := by
  rcases (show a = 0 ∨ a = 1 ∨ a = 2 ∨ a = 3 by omega) with rfl | rfl | rfl | rfl
  · refine am_enter' (M := M_X10_threeTo) rfl rfl rfl (by omega) (ls := [some (.int (nI 0))]) rfl (fun d' hd' => ?_)
    refine am_run 1 (pc' := 1) (ls' := [some (.int (nI 0))]) (st' := [.int (nI 0)]) (σ' := σ) rfl ?_
    refine am_if (ty := 4) (tn := 8) rfl (by decide) rfl rfl (fun (h_1 : nI 0 = 0) => ?_) (fun (h_1 : ¬ (nI 0 = 0)) => ?_)
    rotate_left
    · exact absurd (by decide) h_1
    refine am_run 2 (pc' := 29) (ls' := [some (.int (nI 0))]) (st' := [.int (nI 1)]) (σ' := σ) rfl ?_
    refine am_reti rfl rfl ?_
    exact hq
  · refine am_enter' (M := M_X10_threeTo) rfl rfl rfl (by omega) (ls := [some (.int (nI 1))]) rfl (fun d' hd' => ?_)
    refine am_run 1 (pc' := 1) (ls' := [some (.int (nI 1))]) (st' := [.int (nI 1)]) (σ' := σ) rfl ?_
    refine am_if (ty := 4) (tn := 8) rfl (by decide) rfl rfl (fun (h_1 : nI 1 = 0) => ?_) (fun (h_1 : ¬ (nI 1 = 0)) => ?_)
    · exact absurd h_1 (by decide)
    refine am_run 2 (pc' := 10) (ls' := [some (.int (nI 1))]) (st' := [.int (nI 1), .int (nI 1)]) (σ' := σ) rfl ?_
    refine am_ic (ty := 13) (tn := 17) rfl (by decide) rfl rfl (fun (h_2 : nI 1 = nI 1) => ?_) (fun (h_2 : ¬ (nI 1 = nI 1)) => ?_)
    rotate_left
    · exact absurd (by decide) h_2
    refine am_run 2 (pc' := 29) (ls' := [some (.int (nI 1))]) (st' := [.int (nI 3)]) (σ' := σ) rfl ?_
    refine am_reti rfl rfl ?_
    exact hq
  · refine am_enter' (M := M_X10_threeTo) rfl rfl rfl (by omega) (ls := [some (.int (nI 2))]) rfl (fun d' hd' => ?_)
    refine am_run 1 (pc' := 1) (ls' := [some (.int (nI 2))]) (st' := [.int (nI 2)]) (σ' := σ) rfl ?_
    refine am_if (ty := 4) (tn := 8) rfl (by decide) rfl rfl (fun (h_1 : nI 2 = 0) => ?_) (fun (h_1 : ¬ (nI 2 = 0)) => ?_)
    · exact absurd h_1 (by decide)
    refine am_run 2 (pc' := 10) (ls' := [some (.int (nI 2))]) (st' := [.int (nI 1), .int (nI 2)]) (σ' := σ) rfl ?_
    refine am_ic (ty := 13) (tn := 17) rfl (by decide) rfl rfl (fun (h_2 : nI 2 = nI 1) => ?_) (fun (h_2 : ¬ (nI 2 = nI 1)) => ?_)
    · exact absurd h_2 (by decide)
    refine am_run 2 (pc' := 19) (ls' := [some (.int (nI 2))]) (st' := [.int (nI 2), .int (nI 2)]) (σ' := σ) rfl ?_
    refine am_ic (ty := 22) (tn := 27) rfl (by decide) rfl rfl (fun (h_3 : nI 2 = nI 2) => ?_) (fun (h_3 : ¬ (nI 2 = nI 2)) => ?_)
    rotate_left
    · exact absurd (by decide) h_3
    refine am_run 2 (pc' := 29) (ls' := [some (.int (nI 2))]) (st' := [.int (nI 9)]) (σ' := σ) rfl ?_
    refine am_reti rfl rfl ?_
    exact hq
  · refine am_enter' (M := M_X10_threeTo) rfl rfl rfl (by omega) (ls := [some (.int (nI 3))]) rfl (fun d' hd' => ?_)
    refine am_run 1 (pc' := 1) (ls' := [some (.int (nI 3))]) (st' := [.int (nI 3)]) (σ' := σ) rfl ?_
    refine am_if (ty := 4) (tn := 8) rfl (by decide) rfl rfl (fun (h_1 : nI 3 = 0) => ?_) (fun (h_1 : ¬ (nI 3 = 0)) => ?_)
    · exact absurd h_1 (by decide)
    refine am_run 2 (pc' := 10) (ls' := [some (.int (nI 3))]) (st' := [.int (nI 1), .int (nI 3)]) (σ' := σ) rfl ?_
    refine am_ic (ty := 13) (tn := 17) rfl (by decide) rfl rfl (fun (h_2 : nI 3 = nI 1) => ?_) (fun (h_2 : ¬ (nI 3 = nI 1)) => ?_)
    · exact absurd h_2 (by decide)
    refine am_run 2 (pc' := 19) (ls' := [some (.int (nI 3))]) (st' := [.int (nI 2), .int (nI 3)]) (σ' := σ) rfl ?_
    refine am_ic (ty := 22) (tn := 27) rfl (by decide) rfl rfl (fun (h_3 : nI 3 = nI 2) => ?_) (fun (h_3 : ¬ (nI 3 = nI 2)) => ?_)
    · exact absurd h_3 (by decide)
    refine am_run 1 (pc' := 29) (ls' := [some (.int (nI 3))]) (st' := [.int (nI 27)]) (σ' := σ) rfl ?_
    refine am_reti rfl rfl ?_
    exact hq

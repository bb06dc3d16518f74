/-! exploration: masks and their parts; the tables of what is reached -/
def mkv (u : Nat) : Prop := 1 ≤ pcn u 21 ∧ pcn u 21 ≤ 3
/-- the parts of a mask, so far: the set, how many signals -/
def ptk (m k : Nat) : Nat → Nat × Nat
  | 0 => (0, 0)
  | s + 1 => if m.testBit s = true then (if k.testBit (ptk m k s).2 = true then (ptk m k s).1 ||| 2 ^ s else (ptk m k s).1, (ptk m k s).2 + 1) else ptk m k s
def pt (m k : Nat) : Nat := (ptk m k 8).1
theorem ptk_le (m k : Nat) : ∀ s, s ≤ 8 → (ptk m k s).1 < 256 ∧ (ptk m k s).2 ≤ s
  | 0, _ => by exact ⟨by show 0 < 256; decide, Nat.le_refl 0⟩
  | s + 1, h => by
    obtain ⟨h1, h2⟩ := ptk_le m k s (by omega)
    unfold ptk
    split
    · refine ⟨?_, Nat.succ_le_succ h2⟩
      show (if k.testBit (ptk m k s).2 = true then (ptk m k s).1 ||| 2 ^ s else (ptk m k s).1) < 256
      split
      · exact or_lt8 h1 (pow_lt_256 (by omega))
      · exact h1
    · exact ⟨h1, by omega⟩
theorem pt_lt (m k : Nat) : pt m k < 256 := (ptk_le m k 8 (Nat.le_refl 8)).1
theorem mk_f : ∀ u, u < 256 → ((pcn u 21 = 0 ↔ u = 0) ∧ (pcn u 21 ≤ 3 → 2 ^ pcn u 21 ≤ 8 ∧ pt u 0 = 0 ∧ ∀ i, i < 8 → i < 2 ^ pcn u 21 → (nI (pt u i) - nI u) &&& nI u = nI (pt u (i + 1)))) := by decide +kernel
/-- no mask -/
def NMK (y : Int32) : Prop := (y < 0 ∨ (¬ y < 0 ∧ nI 255 < y)) ∨ ∃ u, u < 256 ∧ y = nI u ∧ ¬ mkv u
theorem mk_cases (y : Int32) : (∃ u, u < 256 ∧ y = nI u ∧ mkv u) ∨ NMK y := by
  rcases i32_in y (k := 255) (by decide) with ⟨u, hu, rfl⟩ | hy
  · by_cases h : mkv u
    · exact Or.inl ⟨u, by omega, rfl, h⟩
    · exact Or.inr (Or.inr ⟨u, by omega, rfl, h⟩)
  · exact Or.inr (Or.inl hy)
set_option maxRecDepth 10000 in
set_option maxHeartbeats 2000000 in
theorem c_mask1_class {d : Nat} (hd : 2 ≤ d) {σ : am_M} {u : Nat} (hu : u < 256) (hm : mkv u) {Q : am_Q} (hq : Q (some (.int (nI 1))) σ) : am_C d 142 [.int (nI u)] σ Q := by
  obtain ⟨m1, m2⟩ := hm
  have m3 := (mk_f u hu).1
  have hpl := pcn_le u 21
  refine am_enter' (M := M_X9_isMask) rfl rfl rfl (by omega) (ls := [some (.int (nI u))]) rfl (fun d' hd' => ?_)
  refine am_run 1 (pc' := 1) (ls' := [some (.int (nI u))]) (st' := [.int (nI u)]) (σ' := σ) rfl ?_
  refine am_invs (y := 141) (as := [.int (nI u)]) (rest := []) rfl rfl rfl rfl rfl rfl (Nat.le_of_ble_eq_true rfl) ?_
  refine c_sig1 (by omega) (by omega) ?_
  show am_G _ M_X9_isMask _ 4 [some (.int (nI u))] [.int (nI 1)] σ
  refine am_if (ty := 23) (tn := 7) rfl (by decide) rfl rfl (fun (h_1 : nI 1 = 0) => ?_) (fun (h_1 : ¬ (nI 1 = 0)) => ?_)
  · exact absurd h_1 (by decide)
  refine am_run 1 (pc' := 8) (ls' := [some (.int (nI u))]) (st' := [.int (nI u)]) (σ' := σ) rfl ?_
  refine am_if (ty := 23) (tn := 11) rfl (by decide) rfl rfl (fun (h_2 : nI u = 0) => ?_) (fun (h_2 : ¬ (nI u = 0)) => ?_)
  · have h_2 : u = 0 := (am_n0 (by omega)).mp h_2
    omega
  have h_2 : ¬ (u = 0) := fun z => h_2 ((am_n0 (by omega)).mpr z)
  refine am_run 1 (pc' := 12) (ls' := [some (.int (nI u))]) (st' := [.int (nI u)]) (σ' := σ) rfl ?_
  refine am_invs (y := 254) (as := [.int (nI u)]) (rest := []) rfl rfl rfl rfl rfl rfl (Nat.le_of_ble_eq_true rfl) ?_
  refine c_bitCount (by omega) (by omega) ?_
  show am_G _ M_X9_isMask _ 15 [some (.int (nI u))] [.int (nI (pcn u 21))] σ
  refine am_run 1 (pc' := 16) (ls' := [some (.int (nI u))]) (st' := [.int (nI 3), .int (nI (pcn u 21))]) (σ' := σ) rfl ?_
  refine am_ic (ty := 23) (tn := 19) rfl (by decide) rfl rfl (fun (h_3 : nI 3 < nI (pcn u 21)) => ?_) (fun (h_3 : ¬ (nI 3 < nI (pcn u 21))) => ?_)
  · have h_3 : 3 < pcn u 21 := (nI_ltI (by omega) (by omega)).mp h_3
    omega
  have h_3 : ¬ (3 < pcn u 21) := fun z => h_3 ((nI_ltI (by omega) (by omega)).mpr z)
  refine am_run 2 (pc' := 24) (ls' := [some (.int (nI u))]) (st' := [.int (nI 1)]) (σ' := σ) rfl ?_
  refine am_retz rfl rfl (by decide) ?_
  exact hq
set_option maxRecDepth 10000 in
set_option maxHeartbeats 2000000 in
theorem c_mask0_class {d : Nat} (hd : 2 ≤ d) {σ : am_M} {y : Int32} (h : NMK y) {Q : am_Q} (hq : Q (some (.int (nI 0))) σ) : am_C d 142 [.int y] σ Q := by
  rcases h with hy | ⟨u, hu, rfl, hm⟩
  · skip
    refine am_enter' (M := M_X9_isMask) rfl rfl rfl (by omega) (ls := [some (.int y)]) rfl (fun d' hd' => ?_)
    refine am_run 1 (pc' := 1) (ls' := [some (.int y)]) (st' := [.int y]) (σ' := σ) rfl ?_
    refine am_invs (y := 141) (as := [.int y]) (rest := []) rfl rfl rfl rfl rfl rfl (Nat.le_of_ble_eq_true rfl) ?_
    refine c_sig0 (by omega) hy ?_
    show am_G _ M_X9_isMask _ 4 [some (.int y)] [.int (nI 0)] σ
    refine am_if (ty := 23) (tn := 7) rfl (by decide) rfl rfl (fun (h_1 : nI 0 = 0) => ?_) (fun (h_1 : ¬ (nI 0 = 0)) => ?_)
    rotate_left
    · exact absurd (by decide) h_1
    refine am_run 1 (pc' := 24) (ls' := [some (.int y)]) (st' := [.int (nI 0)]) (σ' := σ) rfl ?_
    refine am_retz rfl rfl (by decide) ?_
    exact hq
  · unfold mkv at hm
    have m3 := (mk_f u hu).1
    have hpl := pcn_le u 21
    by_cases h0 : u = 0
    · skip
      refine am_enter' (M := M_X9_isMask) rfl rfl rfl (by omega) (ls := [some (.int (nI u))]) rfl (fun d' hd' => ?_)
      refine am_run 1 (pc' := 1) (ls' := [some (.int (nI u))]) (st' := [.int (nI u)]) (σ' := σ) rfl ?_
      refine am_invs (y := 141) (as := [.int (nI u)]) (rest := []) rfl rfl rfl rfl rfl rfl (Nat.le_of_ble_eq_true rfl) ?_
      refine c_sig1 (by omega) (by omega) ?_
      show am_G _ M_X9_isMask _ 4 [some (.int (nI u))] [.int (nI 1)] σ
      refine am_if (ty := 23) (tn := 7) rfl (by decide) rfl rfl (fun (h_1 : nI 1 = 0) => ?_) (fun (h_1 : ¬ (nI 1 = 0)) => ?_)
      · exact absurd h_1 (by decide)
      refine am_run 1 (pc' := 8) (ls' := [some (.int (nI u))]) (st' := [.int (nI u)]) (σ' := σ) rfl ?_
      refine am_if (ty := 23) (tn := 11) rfl (by decide) rfl rfl (fun (h_2 : nI u = 0) => ?_) (fun (h_2 : ¬ (nI u = 0)) => ?_)
      rotate_left
      · have h_2 : ¬ (u = 0) := fun z => h_2 ((am_n0 (by omega)).mpr z)
        omega
      have h_2 : u = 0 := (am_n0 (by omega)).mp h_2
      refine am_run 1 (pc' := 24) (ls' := [some (.int (nI u))]) (st' := [.int (nI 0)]) (σ' := σ) rfl ?_
      refine am_retz rfl rfl (by decide) ?_
      exact hq
    · skip
      refine am_enter' (M := M_X9_isMask) rfl rfl rfl (by omega) (ls := [some (.int (nI u))]) rfl (fun d' hd' => ?_)
      refine am_run 1 (pc' := 1) (ls' := [some (.int (nI u))]) (st' := [.int (nI u)]) (σ' := σ) rfl ?_
      refine am_invs (y := 141) (as := [.int (nI u)]) (rest := []) rfl rfl rfl rfl rfl rfl (Nat.le_of_ble_eq_true rfl) ?_
      refine c_sig1 (by omega) (by omega) ?_
      show am_G _ M_X9_isMask _ 4 [some (.int (nI u))] [.int (nI 1)] σ
      refine am_if (ty := 23) (tn := 7) rfl (by decide) rfl rfl (fun (h_1 : nI 1 = 0) => ?_) (fun (h_1 : ¬ (nI 1 = 0)) => ?_)
      · exact absurd h_1 (by decide)
      refine am_run 1 (pc' := 8) (ls' := [some (.int (nI u))]) (st' := [.int (nI u)]) (σ' := σ) rfl ?_
      refine am_if (ty := 23) (tn := 11) rfl (by decide) rfl rfl (fun (h_2 : nI u = 0) => ?_) (fun (h_2 : ¬ (nI u = 0)) => ?_)
      · have h_2 : u = 0 := (am_n0 (by omega)).mp h_2
        omega
      have h_2 : ¬ (u = 0) := fun z => h_2 ((am_n0 (by omega)).mpr z)
      refine am_run 1 (pc' := 12) (ls' := [some (.int (nI u))]) (st' := [.int (nI u)]) (σ' := σ) rfl ?_
      refine am_invs (y := 254) (as := [.int (nI u)]) (rest := []) rfl rfl rfl rfl rfl rfl (Nat.le_of_ble_eq_true rfl) ?_
      refine c_bitCount (by omega) (by omega) ?_
      show am_G _ M_X9_isMask _ 15 [some (.int (nI u))] [.int (nI (pcn u 21))] σ
      refine am_run 1 (pc' := 16) (ls' := [some (.int (nI u))]) (st' := [.int (nI 3), .int (nI (pcn u 21))]) (σ' := σ) rfl ?_
      refine am_ic (ty := 23) (tn := 19) rfl (by decide) rfl rfl (fun (h_3 : nI 3 < nI (pcn u 21)) => ?_) (fun (h_3 : ¬ (nI 3 < nI (pcn u 21))) => ?_)
      rotate_left
      · have h_3 : ¬ (3 < pcn u 21) := fun z => h_3 ((nI_ltI (by omega) (by omega)).mpr z)
        omega
      have h_3 : 3 < pcn u 21 := (nI_ltI (by omega) (by omega)).mp h_3
      refine am_run 1 (pc' := 24) (ls' := [some (.int (nI u))]) (st' := [.int (nI 0)]) (σ' := σ) rfl ?_
      refine am_retz rfl rfl (by decide) ?_
      exact hq
set_option maxRecDepth 10000 in
set_option maxHeartbeats 2000000 in
theorem c_mask1_model {d : Nat} (hd : 2 ≤ d) {σ : am_M} {u : Nat} (hu : u < 256) (hm : mkv u) {Q : am_Q} (hq : Q (some (.int (nI 1))) σ) : am_C d 240 [.int (nI u)] σ Q := by
  obtain ⟨m1, m2⟩ := hm
  have m3 := (mk_f u hu).1
  have hpl := pcn_le u 21
  refine am_enter' (M := M_X10_isMask) rfl rfl rfl (by omega) (ls := [some (.int (nI u))]) rfl (fun d' hd' => ?_)
  refine am_run 3 (pc' := 5) (ls' := [some (.int (nI u))]) (st' := [.int (nI 255), .int (nI 0), .int (nI u)]) (σ' := σ) rfl ?_
  refine am_invs (y := 148) (as := [.int (nI u), .int (nI 0), .int (nI 255)]) (rest := []) rfl rfl rfl rfl rfl rfl (Nat.le_of_ble_eq_true rfl) ?_
  refine c_in1 (by omega) (by omega) (by omega) (by omega) ?_
  show am_G _ M_X10_isMask _ 8 [some (.int (nI u))] [.int (nI 1)] σ
  refine am_if (ty := 27) (tn := 11) rfl (by decide) rfl rfl (fun (h_1 : nI 1 = 0) => ?_) (fun (h_1 : ¬ (nI 1 = 0)) => ?_)
  · exact absurd h_1 (by decide)
  refine am_run 1 (pc' := 12) (ls' := [some (.int (nI u))]) (st' := [.int (nI u)]) (σ' := σ) rfl ?_
  refine am_invs (y := 150) (as := [.int (nI u)]) (rest := []) rfl rfl rfl rfl rfl rfl (Nat.le_of_ble_eq_true rfl) ?_
  refine c_ones (by omega) (by omega) ?_
  show am_G _ M_X10_isMask _ 15 [some (.int (nI u))] [.int (nI (pcn u 21))] σ
  refine am_run 2 (pc' := 17) (ls' := [some (.int (nI u))]) (st' := [.int (nI 3), .int (nI 1), .int (nI (pcn u 21))]) (σ' := σ) rfl ?_
  refine am_invs (y := 148) (as := [.int (nI (pcn u 21)), .int (nI 1), .int (nI 3)]) (rest := []) rfl rfl rfl rfl rfl rfl (Nat.le_of_ble_eq_true rfl) ?_
  refine c_in1 (by omega) (by omega) (by omega) (by omega) ?_
  show am_G _ M_X10_isMask _ 20 [some (.int (nI u))] [.int (nI 1)] σ
  refine am_if (ty := 27) (tn := 23) rfl (by decide) rfl rfl (fun (h_2 : nI 1 = 0) => ?_) (fun (h_2 : ¬ (nI 1 = 0)) => ?_)
  · exact absurd h_2 (by decide)
  refine am_run 2 (pc' := 28) (ls' := [some (.int (nI u))]) (st' := [.int (nI 1)]) (σ' := σ) rfl ?_
  refine am_retz rfl rfl (by decide) ?_
  exact hq
set_option maxRecDepth 10000 in
set_option maxHeartbeats 2000000 in
theorem c_mask0_model {d : Nat} (hd : 2 ≤ d) {σ : am_M} {y : Int32} (h : NMK y) {Q : am_Q} (hq : Q (some (.int (nI 0))) σ) : am_C d 240 [.int y] σ Q := by
  rcases h with hy | ⟨u, hu, rfl, hm⟩
  · skip
    refine am_enter' (M := M_X10_isMask) rfl rfl rfl (by omega) (ls := [some (.int y)]) rfl (fun d' hd' => ?_)
    refine am_run 3 (pc' := 5) (ls' := [some (.int y)]) (st' := [.int (nI 255), .int (nI 0), .int y]) (σ' := σ) rfl ?_
    refine am_invs (y := 148) (as := [.int y, .int (nI 0), .int (nI 255)]) (rest := []) rfl rfl rfl rfl rfl rfl (Nat.le_of_ble_eq_true rfl) ?_
    refine c_in0 (by omega) hy ?_
    show am_G _ M_X10_isMask _ 8 [some (.int y)] [.int (nI 0)] σ
    refine am_if (ty := 27) (tn := 11) rfl (by decide) rfl rfl (fun (h_1 : nI 0 = 0) => ?_) (fun (h_1 : ¬ (nI 0 = 0)) => ?_)
    rotate_left
    · exact absurd (by decide) h_1
    refine am_run 1 (pc' := 28) (ls' := [some (.int y)]) (st' := [.int (nI 0)]) (σ' := σ) rfl ?_
    refine am_retz rfl rfl (by decide) ?_
    exact hq
  · unfold mkv at hm
    have m3 := (mk_f u hu).1
    have hpl := pcn_le u 21
    refine am_enter' (M := M_X10_isMask) rfl rfl rfl (by omega) (ls := [some (.int (nI u))]) rfl (fun d' hd' => ?_)
    refine am_run 3 (pc' := 5) (ls' := [some (.int (nI u))]) (st' := [.int (nI 255), .int (nI 0), .int (nI u)]) (σ' := σ) rfl ?_
    refine am_invs (y := 148) (as := [.int (nI u), .int (nI 0), .int (nI 255)]) (rest := []) rfl rfl rfl rfl rfl rfl (Nat.le_of_ble_eq_true rfl) ?_
    refine c_in1 (by omega) (by omega) (by omega) (by omega) ?_
    show am_G _ M_X10_isMask _ 8 [some (.int (nI u))] [.int (nI 1)] σ
    refine am_if (ty := 27) (tn := 11) rfl (by decide) rfl rfl (fun (h_1 : nI 1 = 0) => ?_) (fun (h_1 : ¬ (nI 1 = 0)) => ?_)
    · exact absurd h_1 (by decide)
    refine am_run 1 (pc' := 12) (ls' := [some (.int (nI u))]) (st' := [.int (nI u)]) (σ' := σ) rfl ?_
    refine am_invs (y := 150) (as := [.int (nI u)]) (rest := []) rfl rfl rfl rfl rfl rfl (Nat.le_of_ble_eq_true rfl) ?_
    refine c_ones (by omega) (by omega) ?_
    show am_G _ M_X10_isMask _ 15 [some (.int (nI u))] [.int (nI (pcn u 21))] σ
    refine am_run 2 (pc' := 17) (ls' := [some (.int (nI u))]) (st' := [.int (nI 3), .int (nI 1), .int (nI (pcn u 21))]) (σ' := σ) rfl ?_
    refine am_invs (y := 148) (as := [.int (nI (pcn u 21)), .int (nI 1), .int (nI 3)]) (rest := []) rfl rfl rfl rfl rfl rfl (Nat.le_of_ble_eq_true rfl) ?_
    refine c_in0n (by omega) (by omega) (by omega) (by omega) (by omega) ?_
    show am_G _ M_X10_isMask _ 20 [some (.int (nI u))] [.int (nI 0)] σ
    refine am_if (ty := 27) (tn := 23) rfl (by decide) rfl rfl (fun (h_2 : nI 0 = 0) => ?_) (fun (h_2 : ¬ (nI 0 = 0)) => ?_)
    rotate_left
    · exact absurd (by decide) h_2
    refine am_run 1 (pc' := 28) (ls' := [some (.int (nI u))]) (st' := [.int (nI 0)]) (σ' := σ) rfl ?_
    refine am_retz rfl rfl (by decide) ?_
    exact hq
set_option maxRecDepth 10000 in
set_option maxHeartbeats 2000000 in
theorem c_subsetsOf {d : Nat} (hd : 2 ≤ d) {σ : am_M} {u : Nat} (hu : u < 256) (hm : mkv u) {Q : am_Q} (hq : Q (some (.int (nI (2 ^ pcn u 21)))) σ) : am_C d 143 [.int (nI u)] σ Q := by
  obtain ⟨m1, m2⟩ := hm
  have h8 := ((mk_f u hu).2 m2).1
  refine am_enter' (M := M_X9_subsetsOf) rfl rfl rfl (by omega) (ls := [some (.int (nI u))]) rfl (fun d' hd' => ?_)
  refine am_run 3 (pc' := 4) (ls' := [some (.int (nI u))]) (st' := [.int (nI u), .int (nI 1), .int (nI 8)]) (σ' := σ) rfl ?_
  refine am_invs (y := 254) (as := [.int (nI u)]) (rest := [.int (nI 1), .int (nI 8)]) rfl rfl rfl rfl rfl rfl (Nat.le_of_ble_eq_true rfl) ?_
  refine c_bitCount (by omega) (by omega) ?_
  show am_G _ M_X9_subsetsOf _ 7 [some (.int (nI u))] [.int (nI (pcn u 21)), .int (nI 1), .int (nI 8)] σ
  refine am_run 1 (pc' := 8) (ls' := [some (.int (nI u))]) (st' := [.int ((nI 1) <<< ((nI (pcn u 21)) &&& 31)), .int (nI 8)]) (σ' := σ) rfl ?_
  refine am_top (v' := nI (2 ^ pcn u 21)) (by rw [nx_shl _ (by omega), Nat.one_mul]) ?_
  refine am_mxr (b := false) rfl rfl (Nat.le_of_ble_eq_true rfl) ?_
  refine am_top (v' := nI (2 ^ pcn u 21)) (by rw [pq_min (by decide) (by omega), Nat.min_eq_right h8]) ?_
  refine am_reti rfl rfl ?_
  exact hq
set_option maxRecDepth 10000 in
set_option maxHeartbeats 2000000 in
theorem c_subsetAfter {d : Nat} (hd : 1 ≤ d) {σ : am_M} {u i : Nat} (hu : u < 256) (hm : mkv u) (hi : i < 2 ^ pcn u 21) {Q : am_Q} (hq : Q (some (.int (nI (pt u (i + 1))))) σ) : am_C d 144 [.int (nI (pt u i)), .int (nI u)] σ Q := by
  have h8 := (mk_f u hu).2 hm.2
  refine am_enter' (M := M_X9_subsetAfter) rfl rfl rfl (by omega) (ls := [some (.int (nI (pt u i))), some (.int (nI u))]) rfl (fun d' hd' => ?_)
  refine am_run 5 (pc' := 5) (ls' := [some (.int (nI (pt u i))), some (.int (nI u))]) (st' := [.int ((nI (pt u i) - nI u) &&& nI u)]) (σ' := σ) rfl ?_
  refine am_top (v' := nI (pt u (i + 1))) (h8.2.2 i (by omega) hi) ?_
  refine am_reti rfl rfl ?_
  exact hq
set_option maxRecDepth 10000 in
set_option maxHeartbeats 2000000 in
theorem c_partOf_loop {d : Nat} (hd : 1 ≤ d) {σ : am_M} {u i : Nat} (hu : u < 256) (hi : i < 8) {Q : am_Q} (hq : Q (some (.int (nI (pt u i)))) σ) : ∀ (m k : Nat), k + m = 8 → am_G d M_X10_partOf Q 7 [some (.int (nI u)), some (.int (nI i)), some (.int (nI ((ptk u i k).1))), some (.int (nI ((ptk u i k).2))), some (.int (nI k))] [] σ
  | 0, k, hm => by
    have e : k = 8 := by omega
    subst e
    refine am_run 2 (pc' := 11) (ls' := [some (.int (nI u)), some (.int (nI i)), some (.int (nI ((ptk u i 8).1))), some (.int (nI ((ptk u i 8).2))), some (.int (nI 8))]) (st' := [.int (nI 8), .int (nI 8)]) (σ' := σ) rfl ?_
    refine am_ic (ty := 14) (tn := 51) rfl (by decide) rfl rfl (fun (h_1 : nI 8 < nI 8) => ?_) (fun (h_1 : ¬ (nI 8 < nI 8)) => ?_)
    · exact absurd h_1 (by decide)
    refine am_run 1 (pc' := 52) (ls' := [some (.int (nI u)), some (.int (nI i)), some (.int (nI ((ptk u i 8).1))), some (.int (nI ((ptk u i 8).2))), some (.int (nI 8))]) (st' := [.int (nI ((ptk u i 8).1))]) (σ' := σ) rfl ?_
    refine am_reti rfl rfl ?_
    exact hq
  | m + 1, k, hm => by
    obtain ⟨h1, h2⟩ := ptk_le u i k (by omega)
    have hk2 : 2 ^ k < 256 := pow_lt_256 (by omega)
    refine am_run 2 (pc' := 11) (ls' := [some (.int (nI u)), some (.int (nI i)), some (.int (nI ((ptk u i k).1))), some (.int (nI ((ptk u i k).2))), some (.int (nI k))]) (st' := [.int (nI 8), .int (nI k)]) (σ' := σ) rfl ?_
    refine am_ic (ty := 14) (tn := 51) rfl (by decide) rfl rfl (fun (h_1 : nI k < nI 8) => ?_) (fun (h_1 : ¬ (nI k < nI 8)) => ?_)
    rotate_left
    · have h_1 : ¬ (k < 8) := fun z => h_1 ((nI_ltI (by omega) (by omega)).mpr z)
      omega
    have h_1 : k < 8 := (nI_ltI (by omega) (by omega)).mp h_1
    refine am_run 2 (pc' := 17) (ls' := [some (.int (nI u)), some (.int (nI i)), some (.int (nI ((ptk u i k).1))), some (.int (nI ((ptk u i k).2))), some (.int (nI k))]) (st' := [.int (nI k), .int (nI u)]) (σ' := σ) rfl ?_
    refine am_invs (y := 149) (as := [.int (nI u), .int (nI k)]) (rest := []) rfl rfl rfl rfl rfl rfl (Nat.le_of_ble_eq_true rfl) ?_
    refine c_m_has (by omega) (a := u) (s := k) (by omega) (by omega) (fun hb_2 => ?_) (fun hb_2 => ?_)
    · show am_G _ M_X10_partOf _ 20 [some (.int (nI u)), some (.int (nI i)), some (.int (nI ((ptk u i k).1))), some (.int (nI ((ptk u i k).2))), some (.int (nI k))] [.int (nI 1)] σ
      refine am_if (ty := 45) (tn := 23) rfl (by decide) rfl rfl (fun (h_3 : nI 1 = 0) => ?_) (fun (h_3 : ¬ (nI 1 = 0)) => ?_)
      · exact absurd h_3 (by decide)
      refine am_run 3 (pc' := 26) (ls' := [some (.int (nI u)), some (.int (nI i)), some (.int (nI ((ptk u i k).1))), some (.int (nI ((ptk u i k).2))), some (.int (nI k))]) (st' := [.int (nI ((ptk u i k).2)), .int (nI i), .int (nI ((ptk u i k).1))]) (σ' := σ) rfl ?_
      refine am_invs (y := 149) (as := [.int (nI i), .int (nI ((ptk u i k).2))]) (rest := [.int (nI ((ptk u i k).1))]) rfl rfl rfl rfl rfl rfl (Nat.le_of_ble_eq_true rfl) ?_
      refine c_m_has (by omega) (a := i) (s := (ptk u i k).2) (by omega) (by omega) (fun hb_4 => ?_) (fun hb_4 => ?_)
      · show am_G _ M_X10_partOf _ 29 [some (.int (nI u)), some (.int (nI i)), some (.int (nI ((ptk u i k).1))), some (.int (nI ((ptk u i k).2))), some (.int (nI k))] [.int (nI 1), .int (nI ((ptk u i k).1))] σ
        refine am_if (ty := 39) (tn := 32) rfl (by decide) rfl rfl (fun (h_5 : nI 1 = 0) => ?_) (fun (h_5 : ¬ (nI 1 = 0)) => ?_)
        · exact absurd h_5 (by decide)
        refine am_run 3 (pc' := 36) (ls' := [some (.int (nI u)), some (.int (nI i)), some (.int (nI ((ptk u i k).1))), some (.int (nI ((ptk u i k).2))), some (.int (nI k))]) (st' := [.int ((nI 1) <<< ((nI k) &&& 31)), .int (nI ((ptk u i k).1))]) (σ' := σ) rfl ?_
        refine am_top (v' := nI (2 ^ k)) (by rw [nx_shl _ (by omega), Nat.one_mul]) ?_
        refine am_run 2 (pc' := 41) (ls' := [some (.int (nI u)), some (.int (nI i)), some (.int (nI ((ptk u i k).1))), some (.int (nI ((ptk u i k).2))), some (.int (nI k))]) (st' := [.int (nI ((ptk u i k).1) ||| nI (2 ^ k))]) (σ' := σ) rfl ?_
        refine am_top (v' := nI ((ptk u i k).1 ||| 2 ^ k)) (nx_or _ _) ?_
        refine am_run 2 (pc' := 45) (ls' := [some (.int (nI u)), some (.int (nI i)), some (.int (nI ((ptk u i k).1 ||| 2 ^ k))), some (.int (nI ((ptk u i k).2) + nI 1)), some (.int (nI k))]) (st' := []) (σ' := σ) rfl ?_
        refine am_ls (ls' := [some (.int (nI u)), some (.int (nI i)), some (.int (nI ((ptk u i k).1 ||| 2 ^ k))), some (.int (nI ((ptk u i k).2 + 1))), some (.int (nI k))]) (by rw [nI_add]) ?_
        refine am_run 1 (pc' := 48) (ls' := [some (.int (nI u)), some (.int (nI i)), some (.int (nI ((ptk u i k).1 ||| 2 ^ k))), some (.int (nI ((ptk u i k).2 + 1))), some (.int (nI k + nI 1))]) (st' := []) (σ' := σ) rfl ?_
        refine am_ls (ls' := [some (.int (nI u)), some (.int (nI i)), some (.int (nI ((ptk u i k).1 ||| 2 ^ k))), some (.int (nI ((ptk u i k).2 + 1))), some (.int (nI (k + 1)))]) (by rw [nI_add]) ?_
        refine am_run 1 (pc' := 7) (ls' := [some (.int (nI u)), some (.int (nI i)), some (.int (nI ((ptk u i k).1 ||| 2 ^ k))), some (.int (nI ((ptk u i k).2 + 1))), some (.int (nI (k + 1)))]) (st' := []) (σ' := σ) rfl ?_
        have e : ptk u i (k + 1) = ((ptk u i k).1 ||| 2 ^ k, (ptk u i k).2 + 1) := by show (if u.testBit k = true then _ else _) = _; rw [if_pos (by assumption), if_pos (by assumption)]
        refine am_ls (ls' := [some (.int (nI u)), some (.int (nI i)), some (.int (nI ((ptk u i (k + 1)).1))), some (.int (nI ((ptk u i (k + 1)).2))), some (.int (nI (k + 1)))]) (by rw [e]) ?_
        exact c_partOf_loop hd hu hi hq m (k + 1) (by omega)
      · show am_G _ M_X10_partOf _ 29 [some (.int (nI u)), some (.int (nI i)), some (.int (nI ((ptk u i k).1))), some (.int (nI ((ptk u i k).2))), some (.int (nI k))] [.int (nI 0), .int (nI ((ptk u i k).1))] σ
        refine am_if (ty := 39) (tn := 32) rfl (by decide) rfl rfl (fun (h_6 : nI 0 = 0) => ?_) (fun (h_6 : ¬ (nI 0 = 0)) => ?_)
        rotate_left
        · exact absurd (by decide) h_6
        refine am_run 2 (pc' := 41) (ls' := [some (.int (nI u)), some (.int (nI i)), some (.int (nI ((ptk u i k).1))), some (.int (nI ((ptk u i k).2))), some (.int (nI k))]) (st' := [.int (nI ((ptk u i k).1) ||| nI 0)]) (σ' := σ) rfl ?_
        refine am_top (v' := nI ((ptk u i k).1 ||| 0)) (nx_or _ _) ?_
        refine am_run 2 (pc' := 45) (ls' := [some (.int (nI u)), some (.int (nI i)), some (.int (nI ((ptk u i k).1 ||| 0))), some (.int (nI ((ptk u i k).2) + nI 1)), some (.int (nI k))]) (st' := []) (σ' := σ) rfl ?_
        refine am_ls (ls' := [some (.int (nI u)), some (.int (nI i)), some (.int (nI ((ptk u i k).1 ||| 0))), some (.int (nI ((ptk u i k).2 + 1))), some (.int (nI k))]) (by rw [nI_add]) ?_
        refine am_run 1 (pc' := 48) (ls' := [some (.int (nI u)), some (.int (nI i)), some (.int (nI ((ptk u i k).1 ||| 0))), some (.int (nI ((ptk u i k).2 + 1))), some (.int (nI k + nI 1))]) (st' := []) (σ' := σ) rfl ?_
        refine am_ls (ls' := [some (.int (nI u)), some (.int (nI i)), some (.int (nI ((ptk u i k).1 ||| 0))), some (.int (nI ((ptk u i k).2 + 1))), some (.int (nI (k + 1)))]) (by rw [nI_add]) ?_
        refine am_run 1 (pc' := 7) (ls' := [some (.int (nI u)), some (.int (nI i)), some (.int (nI ((ptk u i k).1 ||| 0))), some (.int (nI ((ptk u i k).2 + 1))), some (.int (nI (k + 1)))]) (st' := []) (σ' := σ) rfl ?_
        have e : ptk u i (k + 1) = ((ptk u i k).1 ||| 0, (ptk u i k).2 + 1) := by show (if u.testBit k = true then _ else _) = _; rw [if_pos (by assumption), if_neg (nfl (by assumption)), Nat.or_zero]
        refine am_ls (ls' := [some (.int (nI u)), some (.int (nI i)), some (.int (nI ((ptk u i (k + 1)).1))), some (.int (nI ((ptk u i (k + 1)).2))), some (.int (nI (k + 1)))]) (by rw [e]) ?_
        exact c_partOf_loop hd hu hi hq m (k + 1) (by omega)
    · show am_G _ M_X10_partOf _ 20 [some (.int (nI u)), some (.int (nI i)), some (.int (nI ((ptk u i k).1))), some (.int (nI ((ptk u i k).2))), some (.int (nI k))] [.int (nI 0)] σ
      refine am_if (ty := 45) (tn := 23) rfl (by decide) rfl rfl (fun (h_7 : nI 0 = 0) => ?_) (fun (h_7 : ¬ (nI 0 = 0)) => ?_)
      rotate_left
      · exact absurd (by decide) h_7
      refine am_run 1 (pc' := 48) (ls' := [some (.int (nI u)), some (.int (nI i)), some (.int (nI ((ptk u i k).1))), some (.int (nI ((ptk u i k).2))), some (.int (nI k + nI 1))]) (st' := []) (σ' := σ) rfl ?_
      refine am_ls (ls' := [some (.int (nI u)), some (.int (nI i)), some (.int (nI ((ptk u i k).1))), some (.int (nI ((ptk u i k).2))), some (.int (nI (k + 1)))]) (by rw [nI_add]) ?_
      refine am_run 1 (pc' := 7) (ls' := [some (.int (nI u)), some (.int (nI i)), some (.int (nI ((ptk u i k).1))), some (.int (nI ((ptk u i k).2))), some (.int (nI (k + 1)))]) (st' := []) (σ' := σ) rfl ?_
      have e : ptk u i (k + 1) = ((ptk u i k).1, (ptk u i k).2) := by show (if u.testBit k = true then _ else _) = _; rw [if_neg (nfl (by assumption))]
      refine am_ls (ls' := [some (.int (nI u)), some (.int (nI i)), some (.int (nI ((ptk u i (k + 1)).1))), some (.int (nI ((ptk u i (k + 1)).2))), some (.int (nI (k + 1)))]) (by rw [e]) ?_
      exact c_partOf_loop hd hu hi hq m (k + 1) (by omega)
set_option maxRecDepth 10000 in
set_option maxHeartbeats 2000000 in
theorem c_partOf {d : Nat} (hd : 2 ≤ d) {σ : am_M} {u i : Nat} (hu : u < 256) (hi : i < 8) {Q : am_Q} (hq : Q (some (.int (nI (pt u i)))) σ) : am_C d 241 [.int (nI u), .int (nI i)] σ Q := by
  refine am_enter' (M := M_X10_partOf) rfl rfl rfl (by omega) (ls := [some (.int (nI u)), some (.int (nI i)), none, none, none]) rfl (fun d' hd' => ?_)
  refine am_run 6 (pc' := 7) (ls' := [some (.int (nI u)), some (.int (nI i)), some (.int (nI 0)), some (.int (nI 0)), some (.int (nI 0))]) (st' := []) (σ' := σ) rfl ?_
  exact c_partOf_loop (by omega) hu hi hq 8 0 rfl
/-- the first place of a pair, else how many there are -/
def fnd (f g : Nat → Nat) (a b : Nat) : Nat → Nat
  | 0 => 0
  | c + 1 => if fnd f g a b c < c then fnd f g a b c else if f c = a ∧ g c = b then c else c + 1
theorem fnd_le (f g : Nat → Nat) (a b : Nat) : ∀ c, fnd f g a b c ≤ c
  | 0 => Nat.le_refl 0
  | c + 1 => by
    have := fnd_le f g a b c
    unfold fnd
    split
    · omega
    · split <;> omega
theorem fnd_no {f g : Nat → Nat} {a b : Nat} : ∀ c, (∀ k, k < c → ¬ (f k = a ∧ g k = b)) → fnd f g a b c = c
  | 0, _ => rfl
  | c + 1, h => by
    have := fnd_no c (fun k hk => h k (by omega))
    unfold fnd
    rw [this, if_neg (Nat.lt_irrefl c), if_neg (h c (by omega))]
theorem fnd_yes {f g : Nat → Nat} {a b k : Nat} (h1 : f k = a ∧ g k = b) (h2 : ∀ k', k' < k → ¬ (f k' = a ∧ g k' = b)) : ∀ c, k < c → fnd f g a b c = k
  | 0, h => absurd h (Nat.not_lt_zero _)
  | c + 1, h => by
    unfold fnd
    by_cases e : k = c
    · subst e
      rw [fnd_no k h2, if_neg (Nat.lt_irrefl k), if_pos h1]
    · rw [fnd_yes h1 h2 c (by omega), if_pos (by omega)]
def up1 (f : Nat → Nat) (k x : Nat) : Nat → Nat := fun i => if i = k then x else f i
theorem up1_s (f : Nat → Nat) (k x : Nat) : up1 f k x k = x := if_pos rfl
theorem up1_o (f : Nat → Nat) {k i : Nat} (x : Nat) (h : i ≠ k) : up1 f k x i = f i := if_neg h
def z0 : Nat → Nat := fun _ => 0
/-- the class's table of what is reached -/
def TX (σ : am_M) (lim c : Nat) (f g h : Nat → Nat) : Prop := c ≤ lim ∧ lim ≤ 200 ∧ σ.1 79 3 = nI c ∧ σ.1 79 4 = nI lim ∧ ∀ k, k < c → σ.1 80 k = nI (f k) ∧ σ.1 81 k = nI (g k) ∧ σ.1 82 k = nI (h k) ∧ f k ≤ 1048576 ∧ g k ≤ 1048576 ∧ h k ≤ k
theorem TX.add {σ : am_M} {lim c : Nat} {f g h : Nat → Nat} (hT : TX σ lim c f g h) (hl : c < lim) {a b st : Nat} (ha : a ≤ 1048576) (hb : b ≤ 1048576) (hs : st ≤ c) : TX (am_wr (am_wr (am_wr (am_wr σ 80 c (nI a)) 81 c (nI b)) 82 c (nI st)) 79 3 (nI (c + 1))) lim (c + 1) (up1 f c a) (up1 g c b) (up1 h c st) := by
  obtain ⟨h1, h2, h3, h4, h5⟩ := hT
  refine ⟨by omega, h2, am_same _ _ _ _, ?_, fun k hk => ?_⟩
  · rw [am_diff _ _ _ _ _ (by decide), am_wr_ne _ (by decide), am_wr_ne _ (by decide), am_wr_ne _ (by decide)]; exact h4
  · by_cases e : k = c
    · subst e
      rw [up1_s, up1_s, up1_s, am_wr_ne _ (by decide), am_wr_ne _ (by decide), am_wr_ne _ (by decide), am_same, am_wr_ne _ (by decide), am_wr_ne _ (by decide), am_same, am_wr_ne _ (by decide), am_same]
      exact ⟨rfl, rfl, rfl, ha, hb, hs⟩
    · rw [up1_o f _ e, up1_o g _ e, up1_o h _ e]
      simp only [am_rd1, e, and_false, if_false, show ¬ (80 = 79) by decide, show ¬ (80 = 82) by decide, show ¬ (80 = 81) by decide, show ¬ (81 = 79) by decide, show ¬ (81 = 82) by decide, show ¬ (82 = 79) by decide, false_and]
      exact h5 k (by omega)
set_option maxRecDepth 10000 in
set_option maxHeartbeats 2000000 in
theorem c_reach_loop {d : Nat} {σ : am_M} {lim c a b st : Nat} {f g h : Nat → Nat} (hT : TX σ lim c f g h) (ha : a ≤ 1048576) (hb : b ≤ 1048576) {Q : am_Q} (h1 : fnd f g a b c < c → Q (some (.int (nI (fnd f g a b c)))) σ) (h2 : fnd f g a b c = c → c < lim → Q (some (.int (nI c))) (am_wr (am_wr (am_wr (am_wr σ 80 c (nI a)) 81 c (nI b)) 82 c (nI st)) 79 3 (nI (c + 1)))) (h3 : fnd f g a b c = c → c = lim → Q (some (.int (-1))) σ) : ∀ (m k : Nat), k + m = c → (∀ k', k' < k → ¬ (f k' = a ∧ g k' = b)) → am_G d M_X5_reach Q 3 [some (.ref 79), some (.int (nI a)), some (.int (nI b)), some (.int (nI st)), some (.int (nI k))] [] σ
  | 0, k, hm, hk => by
    obtain ⟨t1, t2, t3, t4, t5⟩ := id hT
    have e : k = c := by omega
    subst e
    have en := fnd_no k hk
    by_cases hl : k < lim
    · skip
      refine am_run 2 (pc' := 8) (ls' := [some (.ref 79), some (.int (nI a)), some (.int (nI b)), some (.int (nI st)), some (.int (nI k))]) (st' := [.int (nI 200), .int (nI k)]) (σ' := σ) rfl ?_
      refine am_ic (ty := 11) (tn := 51) rfl (by decide) rfl rfl (fun (h_1 : nI k < nI 200) => ?_) (fun (h_1 : ¬ (nI k < nI 200)) => ?_)
      · have h_1 : k < 200 := (nI_ltI (by omega) (by omega)).mp h_1
        refine am_run 3 (pc' := 17) (ls' := [some (.ref 79), some (.int (nI a)), some (.int (nI b)), some (.int (nI st)), some (.int (nI k))]) (st' := [.int (σ.1 79 3), .int (nI k)]) (σ' := σ) rfl ?_
        refine am_top (v' := nI k) t3 ?_
        refine am_ic (ty := 20) (tn := 51) rfl (by decide) rfl rfl (fun (h_2 : nI k < nI k) => ?_) (fun (h_2 : ¬ (nI k < nI k)) => ?_)
        · have h_2 : k < k := (nI_ltI (by omega) (by omega)).mp h_2
          omega
        have h_2 : ¬ (k < k) := fun z => h_2 ((nI_ltI (by omega) (by omega)).mpr z)
        refine am_run 2 (pc' := 55) (ls' := [some (.ref 79), some (.int (nI a)), some (.int (nI b)), some (.int (nI st)), some (.int (nI k))]) (st' := [.int (σ.1 79 3)]) (σ' := σ) rfl ?_
        refine am_top (v' := nI k) t3 ?_
        refine am_if (ty := 79) (tn := 58) rfl (by decide) rfl rfl (fun (h_3 : nI k < 0) => ?_) (fun (h_3 : ¬ (nI k < 0)) => ?_)
        · have h_3 : k < 0 := (am_nlt0 (by omega)).mp h_3
          exact absurd h_3 (Nat.not_lt_zero _)
        have h_3 : ¬ (k < 0) := fun z => h_3 ((am_nlt0 (by omega)).mpr z)
        refine am_run 2 (pc' := 62) (ls' := [some (.ref 79), some (.int (nI a)), some (.int (nI b)), some (.int (nI st)), some (.int (nI k))]) (st' := [.int (σ.1 79 3)]) (σ' := σ) rfl ?_
        refine am_top (v' := nI k) t3 ?_
        refine am_run 2 (pc' := 66) (ls' := [some (.ref 79), some (.int (nI a)), some (.int (nI b)), some (.int (nI st)), some (.int (nI k))]) (st' := [.int (σ.1 79 4), .int (nI k)]) (σ' := σ) rfl ?_
        refine am_top (v' := nI lim) t4 ?_
        refine am_ic (ty := 69) (tn := 79) rfl (by decide) rfl rfl (fun (h_4 : nI k < nI lim) => ?_) (fun (h_4 : ¬ (nI k < nI lim)) => ?_)
        rotate_left
        · have h_4 : ¬ (k < lim) := fun z => h_4 ((nI_ltI (by omega) (by omega)).mpr z)
          omega
        have h_4 : k < lim := (nI_ltI (by omega) (by omega)).mp h_4
        refine am_run 2 (pc' := 73) (ls' := [some (.ref 79), some (.int (nI a)), some (.int (nI b)), some (.int (nI st)), some (.int (nI k))]) (st' := [.int (σ.1 79 3)]) (σ' := σ) rfl ?_
        refine am_top (v' := nI k) t3 ?_
        refine am_run 1 (pc' := 76) (ls' := [some (.ref 79), some (.int (nI a)), some (.int (nI b)), some (.int (nI st)), some (.int (nI k))]) (st' := [.int (nI 200), .int (nI k)]) (σ' := σ) rfl ?_
        refine am_ic (ty := 81) (tn := 79) rfl (by decide) rfl rfl (fun (h_5 : nI k < nI 200) => ?_) (fun (h_5 : ¬ (nI k < nI 200)) => ?_)
        rotate_left
        · have h_5 : ¬ (k < 200) := fun z => h_5 ((nI_ltI (by omega) (by omega)).mpr z)
          omega
        have h_5 : k < 200 := (nI_ltI (by omega) (by omega)).mp h_5
        refine am_run 4 (pc' := 89) (ls' := [some (.ref 79), some (.int (nI a)), some (.int (nI b)), some (.int (nI st)), some (.int (nI k))]) (st' := [.int (σ.1 79 3), .ref 80]) (σ' := σ) rfl ?_
        refine am_top (v' := nI k) t3 ?_
        refine am_run 1 (pc' := 90) (ls' := [some (.ref 79), some (.int (nI a)), some (.int (nI b)), some (.int (nI st)), some (.int (nI k))]) (st' := [.int (nI a), .int (nI k), .ref 80]) (σ' := σ) rfl ?_
        refine am_iastN (n := 200) rfl rfl rfl (by omega) (by decide) ?_
        refine am_run 4 (pc' := 99) (ls' := [some (.ref 79), some (.int (nI a)), some (.int (nI b)), some (.int (nI st)), some (.int (nI k))]) (st' := [.int (σ.1 79 3), .ref 81]) (σ' := (am_wr σ 80 k (nI a))) rfl ?_
        refine am_top (v' := nI k) t3 ?_
        refine am_run 1 (pc' := 100) (ls' := [some (.ref 79), some (.int (nI a)), some (.int (nI b)), some (.int (nI st)), some (.int (nI k))]) (st' := [.int (nI b), .int (nI k), .ref 81]) (σ' := (am_wr σ 80 k (nI a))) rfl ?_
        refine am_iastN (n := 200) rfl rfl rfl (by omega) (by decide) ?_
        refine am_run 4 (pc' := 109) (ls' := [some (.ref 79), some (.int (nI a)), some (.int (nI b)), some (.int (nI st)), some (.int (nI k))]) (st' := [.int (σ.1 79 3), .ref 82]) (σ' := (am_wr (am_wr σ 80 k (nI a)) 81 k (nI b))) rfl ?_
        refine am_top (v' := nI k) t3 ?_
        refine am_run 1 (pc' := 110) (ls' := [some (.ref 79), some (.int (nI a)), some (.int (nI b)), some (.int (nI st)), some (.int (nI k))]) (st' := [.int (nI st), .int (nI k), .ref 82]) (σ' := (am_wr (am_wr σ 80 k (nI a)) 81 k (nI b))) rfl ?_
        refine am_iastN (n := 200) rfl rfl rfl (by omega) (by decide) ?_
        refine am_run 3 (pc' := 116) (ls' := [some (.ref 79), some (.int (nI a)), some (.int (nI b)), some (.int (nI st)), some (.int (nI k))]) (st' := [.int (σ.1 79 3), .ref 79]) (σ' := (am_wr (am_wr (am_wr σ 80 k (nI a)) 81 k (nI b)) 82 k (nI st))) rfl ?_
        refine am_top (v' := nI k) t3 ?_
        refine am_run 2 (pc' := 118) (ls' := [some (.ref 79), some (.int (nI a)), some (.int (nI b)), some (.int (nI st)), some (.int (nI k))]) (st' := [.int (nI k + nI 1), .ref 79]) (σ' := (am_wr (am_wr (am_wr σ 80 k (nI a)) 81 k (nI b)) 82 k (nI st))) rfl ?_
        refine am_top (v' := nI (k + 1)) (nI_add _ _) ?_
        refine am_run 5 (pc' := 127) (ls' := [some (.ref 79), some (.int (nI a)), some (.int (nI b)), some (.int (nI st)), some (.int (nI k))]) (st' := [.int (nI (k + 1) - nI 1)]) (σ' := (am_wr (am_wr (am_wr (am_wr σ 80 k (nI a)) 81 k (nI b)) 82 k (nI st)) 79 3 (nI (k + 1)))) rfl ?_
        refine am_top (v' := nI k) (nx_sub (by omega)) ?_
        refine am_reti rfl rfl ?_
        exact h2 en hl
      · have h_1 : ¬ (k < 200) := fun z => h_1 ((nI_ltI (by omega) (by omega)).mpr z)
        refine am_run 2 (pc' := 55) (ls' := [some (.ref 79), some (.int (nI a)), some (.int (nI b)), some (.int (nI st)), some (.int (nI k))]) (st' := [.int (σ.1 79 3)]) (σ' := σ) rfl ?_
        refine am_top (v' := nI k) t3 ?_
        refine am_if (ty := 79) (tn := 58) rfl (by decide) rfl rfl (fun (h_6 : nI k < 0) => ?_) (fun (h_6 : ¬ (nI k < 0)) => ?_)
        · have h_6 : k < 0 := (am_nlt0 (by omega)).mp h_6
          exact absurd h_6 (Nat.not_lt_zero _)
        have h_6 : ¬ (k < 0) := fun z => h_6 ((am_nlt0 (by omega)).mpr z)
        refine am_run 2 (pc' := 62) (ls' := [some (.ref 79), some (.int (nI a)), some (.int (nI b)), some (.int (nI st)), some (.int (nI k))]) (st' := [.int (σ.1 79 3)]) (σ' := σ) rfl ?_
        refine am_top (v' := nI k) t3 ?_
        refine am_run 2 (pc' := 66) (ls' := [some (.ref 79), some (.int (nI a)), some (.int (nI b)), some (.int (nI st)), some (.int (nI k))]) (st' := [.int (σ.1 79 4), .int (nI k)]) (σ' := σ) rfl ?_
        refine am_top (v' := nI lim) t4 ?_
        refine am_ic (ty := 69) (tn := 79) rfl (by decide) rfl rfl (fun (h_7 : nI k < nI lim) => ?_) (fun (h_7 : ¬ (nI k < nI lim)) => ?_)
        rotate_left
        · have h_7 : ¬ (k < lim) := fun z => h_7 ((nI_ltI (by omega) (by omega)).mpr z)
          omega
        have h_7 : k < lim := (nI_ltI (by omega) (by omega)).mp h_7
        refine am_run 2 (pc' := 73) (ls' := [some (.ref 79), some (.int (nI a)), some (.int (nI b)), some (.int (nI st)), some (.int (nI k))]) (st' := [.int (σ.1 79 3)]) (σ' := σ) rfl ?_
        refine am_top (v' := nI k) t3 ?_
        refine am_run 1 (pc' := 76) (ls' := [some (.ref 79), some (.int (nI a)), some (.int (nI b)), some (.int (nI st)), some (.int (nI k))]) (st' := [.int (nI 200), .int (nI k)]) (σ' := σ) rfl ?_
        refine am_ic (ty := 81) (tn := 79) rfl (by decide) rfl rfl (fun (h_8 : nI k < nI 200) => ?_) (fun (h_8 : ¬ (nI k < nI 200)) => ?_)
        rotate_left
        · have h_8 : ¬ (k < 200) := fun z => h_8 ((nI_ltI (by omega) (by omega)).mpr z)
          omega
        have h_8 : k < 200 := (nI_ltI (by omega) (by omega)).mp h_8
        refine am_run 4 (pc' := 89) (ls' := [some (.ref 79), some (.int (nI a)), some (.int (nI b)), some (.int (nI st)), some (.int (nI k))]) (st' := [.int (σ.1 79 3), .ref 80]) (σ' := σ) rfl ?_
        refine am_top (v' := nI k) t3 ?_
        refine am_run 1 (pc' := 90) (ls' := [some (.ref 79), some (.int (nI a)), some (.int (nI b)), some (.int (nI st)), some (.int (nI k))]) (st' := [.int (nI a), .int (nI k), .ref 80]) (σ' := σ) rfl ?_
        refine am_iastN (n := 200) rfl rfl rfl (by omega) (by decide) ?_
        refine am_run 4 (pc' := 99) (ls' := [some (.ref 79), some (.int (nI a)), some (.int (nI b)), some (.int (nI st)), some (.int (nI k))]) (st' := [.int (σ.1 79 3), .ref 81]) (σ' := (am_wr σ 80 k (nI a))) rfl ?_
        refine am_top (v' := nI k) t3 ?_
        refine am_run 1 (pc' := 100) (ls' := [some (.ref 79), some (.int (nI a)), some (.int (nI b)), some (.int (nI st)), some (.int (nI k))]) (st' := [.int (nI b), .int (nI k), .ref 81]) (σ' := (am_wr σ 80 k (nI a))) rfl ?_
        refine am_iastN (n := 200) rfl rfl rfl (by omega) (by decide) ?_
        refine am_run 4 (pc' := 109) (ls' := [some (.ref 79), some (.int (nI a)), some (.int (nI b)), some (.int (nI st)), some (.int (nI k))]) (st' := [.int (σ.1 79 3), .ref 82]) (σ' := (am_wr (am_wr σ 80 k (nI a)) 81 k (nI b))) rfl ?_
        refine am_top (v' := nI k) t3 ?_
        refine am_run 1 (pc' := 110) (ls' := [some (.ref 79), some (.int (nI a)), some (.int (nI b)), some (.int (nI st)), some (.int (nI k))]) (st' := [.int (nI st), .int (nI k), .ref 82]) (σ' := (am_wr (am_wr σ 80 k (nI a)) 81 k (nI b))) rfl ?_
        refine am_iastN (n := 200) rfl rfl rfl (by omega) (by decide) ?_
        refine am_run 3 (pc' := 116) (ls' := [some (.ref 79), some (.int (nI a)), some (.int (nI b)), some (.int (nI st)), some (.int (nI k))]) (st' := [.int (σ.1 79 3), .ref 79]) (σ' := (am_wr (am_wr (am_wr σ 80 k (nI a)) 81 k (nI b)) 82 k (nI st))) rfl ?_
        refine am_top (v' := nI k) t3 ?_
        refine am_run 2 (pc' := 118) (ls' := [some (.ref 79), some (.int (nI a)), some (.int (nI b)), some (.int (nI st)), some (.int (nI k))]) (st' := [.int (nI k + nI 1), .ref 79]) (σ' := (am_wr (am_wr (am_wr σ 80 k (nI a)) 81 k (nI b)) 82 k (nI st))) rfl ?_
        refine am_top (v' := nI (k + 1)) (nI_add _ _) ?_
        refine am_run 5 (pc' := 127) (ls' := [some (.ref 79), some (.int (nI a)), some (.int (nI b)), some (.int (nI st)), some (.int (nI k))]) (st' := [.int (nI (k + 1) - nI 1)]) (σ' := (am_wr (am_wr (am_wr (am_wr σ 80 k (nI a)) 81 k (nI b)) 82 k (nI st)) 79 3 (nI (k + 1)))) rfl ?_
        refine am_top (v' := nI k) (nx_sub (by omega)) ?_
        refine am_reti rfl rfl ?_
        exact h2 en hl
    · skip
      refine am_run 2 (pc' := 8) (ls' := [some (.ref 79), some (.int (nI a)), some (.int (nI b)), some (.int (nI st)), some (.int (nI k))]) (st' := [.int (nI 200), .int (nI k)]) (σ' := σ) rfl ?_
      refine am_ic (ty := 11) (tn := 51) rfl (by decide) rfl rfl (fun (h_1 : nI k < nI 200) => ?_) (fun (h_1 : ¬ (nI k < nI 200)) => ?_)
      · have h_1 : k < 200 := (nI_ltI (by omega) (by omega)).mp h_1
        refine am_run 3 (pc' := 17) (ls' := [some (.ref 79), some (.int (nI a)), some (.int (nI b)), some (.int (nI st)), some (.int (nI k))]) (st' := [.int (σ.1 79 3), .int (nI k)]) (σ' := σ) rfl ?_
        refine am_top (v' := nI k) t3 ?_
        refine am_ic (ty := 20) (tn := 51) rfl (by decide) rfl rfl (fun (h_2 : nI k < nI k) => ?_) (fun (h_2 : ¬ (nI k < nI k)) => ?_)
        · have h_2 : k < k := (nI_ltI (by omega) (by omega)).mp h_2
          omega
        have h_2 : ¬ (k < k) := fun z => h_2 ((nI_ltI (by omega) (by omega)).mpr z)
        refine am_run 2 (pc' := 55) (ls' := [some (.ref 79), some (.int (nI a)), some (.int (nI b)), some (.int (nI st)), some (.int (nI k))]) (st' := [.int (σ.1 79 3)]) (σ' := σ) rfl ?_
        refine am_top (v' := nI k) t3 ?_
        refine am_if (ty := 79) (tn := 58) rfl (by decide) rfl rfl (fun (h_3 : nI k < 0) => ?_) (fun (h_3 : ¬ (nI k < 0)) => ?_)
        · have h_3 : k < 0 := (am_nlt0 (by omega)).mp h_3
          exact absurd h_3 (Nat.not_lt_zero _)
        have h_3 : ¬ (k < 0) := fun z => h_3 ((am_nlt0 (by omega)).mpr z)
        refine am_run 2 (pc' := 62) (ls' := [some (.ref 79), some (.int (nI a)), some (.int (nI b)), some (.int (nI st)), some (.int (nI k))]) (st' := [.int (σ.1 79 3)]) (σ' := σ) rfl ?_
        refine am_top (v' := nI k) t3 ?_
        refine am_run 2 (pc' := 66) (ls' := [some (.ref 79), some (.int (nI a)), some (.int (nI b)), some (.int (nI st)), some (.int (nI k))]) (st' := [.int (σ.1 79 4), .int (nI k)]) (σ' := σ) rfl ?_
        refine am_top (v' := nI lim) t4 ?_
        refine am_ic (ty := 69) (tn := 79) rfl (by decide) rfl rfl (fun (h_4 : nI k < nI lim) => ?_) (fun (h_4 : ¬ (nI k < nI lim)) => ?_)
        · have h_4 : k < lim := (nI_ltI (by omega) (by omega)).mp h_4
          omega
        have h_4 : ¬ (k < lim) := fun z => h_4 ((nI_ltI (by omega) (by omega)).mpr z)
        refine am_run 1 (pc' := 80) (ls' := [some (.ref 79), some (.int (nI a)), some (.int (nI b)), some (.int (nI st)), some (.int (nI k))]) (st' := [.int (-1)]) (σ' := σ) rfl ?_
        refine am_reti rfl rfl ?_
        exact h3 en (by omega)
      · have h_1 : ¬ (k < 200) := fun z => h_1 ((nI_ltI (by omega) (by omega)).mpr z)
        refine am_run 2 (pc' := 55) (ls' := [some (.ref 79), some (.int (nI a)), some (.int (nI b)), some (.int (nI st)), some (.int (nI k))]) (st' := [.int (σ.1 79 3)]) (σ' := σ) rfl ?_
        refine am_top (v' := nI k) t3 ?_
        refine am_if (ty := 79) (tn := 58) rfl (by decide) rfl rfl (fun (h_5 : nI k < 0) => ?_) (fun (h_5 : ¬ (nI k < 0)) => ?_)
        · have h_5 : k < 0 := (am_nlt0 (by omega)).mp h_5
          exact absurd h_5 (Nat.not_lt_zero _)
        have h_5 : ¬ (k < 0) := fun z => h_5 ((am_nlt0 (by omega)).mpr z)
        refine am_run 2 (pc' := 62) (ls' := [some (.ref 79), some (.int (nI a)), some (.int (nI b)), some (.int (nI st)), some (.int (nI k))]) (st' := [.int (σ.1 79 3)]) (σ' := σ) rfl ?_
        refine am_top (v' := nI k) t3 ?_
        refine am_run 2 (pc' := 66) (ls' := [some (.ref 79), some (.int (nI a)), some (.int (nI b)), some (.int (nI st)), some (.int (nI k))]) (st' := [.int (σ.1 79 4), .int (nI k)]) (σ' := σ) rfl ?_
        refine am_top (v' := nI lim) t4 ?_
        refine am_ic (ty := 69) (tn := 79) rfl (by decide) rfl rfl (fun (h_6 : nI k < nI lim) => ?_) (fun (h_6 : ¬ (nI k < nI lim)) => ?_)
        · have h_6 : k < lim := (nI_ltI (by omega) (by omega)).mp h_6
          omega
        have h_6 : ¬ (k < lim) := fun z => h_6 ((nI_ltI (by omega) (by omega)).mpr z)
        refine am_run 1 (pc' := 80) (ls' := [some (.ref 79), some (.int (nI a)), some (.int (nI b)), some (.int (nI st)), some (.int (nI k))]) (st' := [.int (-1)]) (σ' := σ) rfl ?_
        refine am_reti rfl rfl ?_
        exact h3 en (by omega)
  | m + 1, k, hm, hk => by
    obtain ⟨t1, t2, t3, t4, t5⟩ := id hT
    obtain ⟨f1, f2, f3, f4, f5, f6⟩ := t5 k (by omega)
    refine am_run 2 (pc' := 8) (ls' := [some (.ref 79), some (.int (nI a)), some (.int (nI b)), some (.int (nI st)), some (.int (nI k))]) (st' := [.int (nI 200), .int (nI k)]) (σ' := σ) rfl ?_
    refine am_ic (ty := 11) (tn := 51) rfl (by decide) rfl rfl (fun (h_1 : nI k < nI 200) => ?_) (fun (h_1 : ¬ (nI k < nI 200)) => ?_)
    rotate_left
    · have h_1 : ¬ (k < 200) := fun z => h_1 ((nI_ltI (by omega) (by omega)).mpr z)
      omega
    have h_1 : k < 200 := (nI_ltI (by omega) (by omega)).mp h_1
    refine am_run 3 (pc' := 17) (ls' := [some (.ref 79), some (.int (nI a)), some (.int (nI b)), some (.int (nI st)), some (.int (nI k))]) (st' := [.int (σ.1 79 3), .int (nI k)]) (σ' := σ) rfl ?_
    refine am_top (v' := nI c) t3 ?_
    refine am_ic (ty := 20) (tn := 51) rfl (by decide) rfl rfl (fun (h_2 : nI k < nI c) => ?_) (fun (h_2 : ¬ (nI k < nI c)) => ?_)
    rotate_left
    · have h_2 : ¬ (k < c) := fun z => h_2 ((nI_ltI (by omega) (by omega)).mpr z)
      omega
    have h_2 : k < c := (nI_ltI (by omega) (by omega)).mp h_2
    refine am_run 3 (pc' := 26) (ls' := [some (.ref 79), some (.int (nI a)), some (.int (nI b)), some (.int (nI st)), some (.int (nI k))]) (st' := [.int (nI k), .ref 80]) (σ' := σ) rfl ?_
    refine am_ialdN (n := 200) (v := nI (f k)) rfl rfl rfl (by omega) f1 (by decide) ?_
    refine am_run 1 (pc' := 28) (ls' := [some (.ref 79), some (.int (nI a)), some (.int (nI b)), some (.int (nI st)), some (.int (nI k))]) (st' := [.int (nI a), .int (nI (f k))]) (σ' := σ) rfl ?_
    refine am_ic (ty := 31) (tn := 45) rfl (by decide) rfl rfl (fun (h_3 : nI (f k) = nI a) => ?_) (fun (h_3 : ¬ (nI (f k) = nI a)) => ?_)
    · have h_3 : f k = a := (nI_eq (by omega) (by omega)).mp h_3
      refine am_run 3 (pc' := 37) (ls' := [some (.ref 79), some (.int (nI a)), some (.int (nI b)), some (.int (nI st)), some (.int (nI k))]) (st' := [.int (nI k), .ref 81]) (σ' := σ) rfl ?_
      refine am_ialdN (n := 200) (v := nI (g k)) rfl rfl rfl (by omega) f2 (by decide) ?_
      refine am_run 1 (pc' := 39) (ls' := [some (.ref 79), some (.int (nI a)), some (.int (nI b)), some (.int (nI st)), some (.int (nI k))]) (st' := [.int (nI b), .int (nI (g k))]) (σ' := σ) rfl ?_
      refine am_ic (ty := 42) (tn := 45) rfl (by decide) rfl rfl (fun (h_4 : nI (g k) = nI b) => ?_) (fun (h_4 : ¬ (nI (g k) = nI b)) => ?_)
      · have h_4 : g k = b := (nI_eq (by omega) (by omega)).mp h_4
        refine am_run 1 (pc' := 44) (ls' := [some (.ref 79), some (.int (nI a)), some (.int (nI b)), some (.int (nI st)), some (.int (nI k))]) (st' := [.int (nI k)]) (σ' := σ) rfl ?_
        refine am_reti rfl rfl ?_
        have ey := fnd_yes (f := f) (g := g) (a := a) (b := b) (k := k) ⟨by assumption, by assumption⟩ hk c (by omega)
        have := h1 (by omega)
        rw [ey] at this
        exact this
      · have h_4 : ¬ (g k = b) := fun z => h_4 ((nI_eq (by omega) (by omega)).mpr z)
        refine am_run 1 (pc' := 48) (ls' := [some (.ref 79), some (.int (nI a)), some (.int (nI b)), some (.int (nI st)), some (.int (nI k + nI 1))]) (st' := []) (σ' := σ) rfl ?_
        refine am_ls (ls' := [some (.ref 79), some (.int (nI a)), some (.int (nI b)), some (.int (nI st)), some (.int (nI (k + 1)))]) (by rw [nI_add]) ?_
        refine am_run 1 (pc' := 3) (ls' := [some (.ref 79), some (.int (nI a)), some (.int (nI b)), some (.int (nI st)), some (.int (nI (k + 1)))]) (st' := []) (σ' := σ) rfl ?_
        refine c_reach_loop hT ha hb h1 h2 h3 m (k + 1) (by omega) (fun k' hk' => ?_)
        by_cases e : k' = k
        · subst e; intro z; simp_all
        · exact hk k' (by omega)
    · have h_3 : ¬ (f k = a) := fun z => h_3 ((nI_eq (by omega) (by omega)).mpr z)
      refine am_run 1 (pc' := 48) (ls' := [some (.ref 79), some (.int (nI a)), some (.int (nI b)), some (.int (nI st)), some (.int (nI k + nI 1))]) (st' := []) (σ' := σ) rfl ?_
      refine am_ls (ls' := [some (.ref 79), some (.int (nI a)), some (.int (nI b)), some (.int (nI st)), some (.int (nI (k + 1)))]) (by rw [nI_add]) ?_
      refine am_run 1 (pc' := 3) (ls' := [some (.ref 79), some (.int (nI a)), some (.int (nI b)), some (.int (nI st)), some (.int (nI (k + 1)))]) (st' := []) (σ' := σ) rfl ?_
      refine c_reach_loop hT ha hb h1 h2 h3 m (k + 1) (by omega) (fun k' hk' => ?_)
      by_cases e : k' = k
      · subst e; intro z; simp_all
      · exact hk k' (by omega)
set_option maxRecDepth 10000 in
set_option maxHeartbeats 2000000 in
theorem c_reach {d : Nat} (hd : 1 ≤ d) {σ : am_M} {lim c a b st : Nat} {f g h : Nat → Nat} (hT : TX σ lim c f g h) (ha : a ≤ 1048576) (hb : b ≤ 1048576) {Q : am_Q} (h1 : fnd f g a b c < c → Q (some (.int (nI (fnd f g a b c)))) σ) (h2 : fnd f g a b c = c → c < lim → Q (some (.int (nI c))) (am_wr (am_wr (am_wr (am_wr σ 80 c (nI a)) 81 c (nI b)) 82 c (nI st)) 79 3 (nI (c + 1)))) (h3 : fnd f g a b c = c → c = lim → Q (some (.int (-1))) σ) : am_C d 78 [.ref 79, .int (nI a), .int (nI b), .int (nI st)] σ Q := by
  refine am_enter' (M := M_X5_reach) rfl rfl rfl (by omega) (ls := [some (.ref 79), some (.int (nI a)), some (.int (nI b)), some (.int (nI st)), none]) rfl (fun d' hd' => ?_)
  refine am_run 2 (pc' := 3) (ls' := [some (.ref 79), some (.int (nI a)), some (.int (nI b)), some (.int (nI st)), some (.int (nI 0))]) (st' := []) (σ' := σ) rfl ?_
  exact c_reach_loop hT ha hb h1 h2 h3 c 0 (by omega) (fun _ z => absurd z (Nat.not_lt_zero _))
set_option maxRecDepth 10000 in
set_option maxHeartbeats 2000000 in
theorem c_rbegin {d : Nat} (hd : 3 ≤ d) {σ : am_M} {lim a b : Nat} (hl : 1 ≤ lim ∧ lim ≤ 200) (ha : a ≤ 1048576) (hb : b ≤ 1048576) {Q : am_Q} (hq : ∀ σ', (∀ c, c < 79 ∨ 82 < c → σ'.1 c = σ.1 c) → σ'.2 = σ.2 → TX σ' lim 1 (up1 z0 0 a) (up1 z0 0 b) (up1 z0 0 0) → Q none σ') : am_C d 73 [.ref 79, .int (nI lim), .int (nI a), .int (nI b)] σ Q := by
  refine am_enter' (M := M_X5_begin) rfl rfl rfl (by omega) (ls := [some (.ref 79), some (.int (nI lim)), some (.int (nI a)), some (.int (nI b))]) rfl (fun d' hd' => ?_)
  refine am_run 3 (pc' := 5) (ls' := [some (.ref 79), some (.int (nI lim)), some (.int (nI a)), some (.int (nI b))]) (st' := [.int (nI 200), .int (nI lim), .ref 79]) (σ' := σ) rfl ?_
  refine am_mxr (b := false) rfl rfl (Nat.le_of_ble_eq_true rfl) ?_
  refine am_top (v' := nI lim) (by rw [pq_min (by omega) (by decide), Nat.min_eq_left hl.2]) ?_
  refine am_run 8 (pc' := 20) (ls' := [some (.ref 79), some (.int (nI lim)), some (.int (nI a)), some (.int (nI b))]) (st' := [.int (nI 0), .int (nI b), .int (nI a), .ref 79]) (σ' := (am_wr (am_wr σ 79 4 (nI lim)) 79 3 (nI 0))) rfl ?_
  refine am_invv (y := 78) (b := 79) (as := [.int (nI a), .int (nI b), .int (nI 0)]) (rest := []) rfl rfl rfl rfl rfl rfl rfl (Nat.le_of_ble_eq_true rfl) ?_
  have hT0 : TX (am_wr (am_wr σ 79 4 (nI lim)) 79 3 (nI 0)) lim 0 z0 z0 z0 := ⟨by omega, by omega, rfl, rfl, fun k z => absurd z (Nat.not_lt_zero _)⟩
  refine c_reach (by omega) hT0 ha hb (fun z => absurd z (Nat.not_lt_zero _)) (fun _ hl2 => ?_) (fun _ z => absurd z (by omega))
  have hT1 := hT0.add hl2 ha hb (Nat.le_refl 0)
  show am_G _ M_X5_begin _ 23 [some (.ref 79), some (.int (nI lim)), some (.int (nI a)), some (.int (nI b))] [.int (nI 0)] (am_wr (am_wr (am_wr (am_wr (am_wr (am_wr σ 79 4 (nI lim)) 79 3 (nI 0)) 80 0 (nI a)) 81 0 (nI b)) 82 0 (nI 0)) 79 3 (nI (0 + 1)))
  refine am_run 1 (pc' := 24) (ls' := [some (.ref 79), some (.int (nI lim)), some (.int (nI a)), some (.int (nI b))]) (st' := []) (σ' := (am_wr (am_wr (am_wr (am_wr (am_wr (am_wr σ 79 4 (nI lim)) 79 3 (nI 0)) 80 0 (nI a)) 81 0 (nI b)) 82 0 (nI 0)) 79 3 (nI (0 + 1)))) rfl ?_
  refine am_retv rfl rfl ?_
  exact hq _ (fun c hc => by rw [am_wr_ne _ (by omega), am_wr_ne _ (by omega), am_wr_ne _ (by omega), am_wr_ne _ (by omega), am_wr_ne _ (by omega), am_wr_ne _ (by omega)]) rfl hT1
set_option maxRecDepth 10000 in
set_option maxHeartbeats 2000000 in
theorem c_firstAt {d : Nat} (hd : 1 ≤ d) {σ : am_M} {lim c k : Nat} {f g h : Nat → Nat} (hT : TX σ lim c f g h) (hk : k < c) {Q : am_Q} (hq : Q (some (.int (nI (f k)))) σ) : am_C d 75 [.ref 79, .int (nI k)] σ Q := by
  obtain ⟨t1, t2, t3, t4, t5⟩ := id hT
  obtain ⟨f1, f2, f3, -⟩ := t5 k hk
  refine am_enter' (M := M_X5_firstAt) rfl rfl rfl (by omega) (ls := [some (.ref 79), some (.int (nI k))]) rfl (fun d' hd' => ?_)
  refine am_run 1 (pc' := 1) (ls' := [some (.ref 79), some (.int (nI k))]) (st' := [.int (nI k)]) (σ' := σ) rfl ?_
  refine am_if (ty := 20) (tn := 4) rfl (by decide) rfl rfl (fun (h_1 : nI k < 0) => ?_) (fun (h_1 : ¬ (nI k < 0)) => ?_)
  · have h_1 : k < 0 := (am_nlt0 (by omega)).mp h_1
    exact absurd h_1 (Nat.not_lt_zero _)
  have h_1 : ¬ (k < 0) := fun z => h_1 ((am_nlt0 (by omega)).mpr z)
  refine am_run 2 (pc' := 8) (ls' := [some (.ref 79), some (.int (nI k))]) (st' := [.int (nI 200), .int (nI k)]) (σ' := σ) rfl ?_
  refine am_ic (ty := 11) (tn := 20) rfl (by decide) rfl rfl (fun (h_2 : nI k < nI 200) => ?_) (fun (h_2 : ¬ (nI k < nI 200)) => ?_)
  rotate_left
  · have h_2 : ¬ (k < 200) := fun z => h_2 ((nI_ltI (by omega) (by omega)).mpr z)
    omega
  have h_2 : k < 200 := (nI_ltI (by omega) (by omega)).mp h_2
  refine am_run 3 (pc' := 16) (ls' := [some (.ref 79), some (.int (nI k))]) (st' := [.int (nI k), .ref 80]) (σ' := σ) rfl ?_
  refine am_ialdN (n := 200) (v := nI (f k)) rfl rfl rfl (by omega) f1 (by decide) ?_
  refine am_run 1 (pc' := 21) (ls' := [some (.ref 79), some (.int (nI k))]) (st' := [.int (nI (f k))]) (σ' := σ) rfl ?_
  refine am_reti rfl rfl ?_
  exact hq
set_option maxRecDepth 10000 in
set_option maxHeartbeats 2000000 in
theorem c_secondAt {d : Nat} (hd : 1 ≤ d) {σ : am_M} {lim c k : Nat} {f g h : Nat → Nat} (hT : TX σ lim c f g h) (hk : k < c) {Q : am_Q} (hq : Q (some (.int (nI (g k)))) σ) : am_C d 76 [.ref 79, .int (nI k)] σ Q := by
  obtain ⟨t1, t2, t3, t4, t5⟩ := id hT
  obtain ⟨f1, f2, f3, -⟩ := t5 k hk
  refine am_enter' (M := M_X5_secondAt) rfl rfl rfl (by omega) (ls := [some (.ref 79), some (.int (nI k))]) rfl (fun d' hd' => ?_)
  refine am_run 1 (pc' := 1) (ls' := [some (.ref 79), some (.int (nI k))]) (st' := [.int (nI k)]) (σ' := σ) rfl ?_
  refine am_if (ty := 20) (tn := 4) rfl (by decide) rfl rfl (fun (h_1 : nI k < 0) => ?_) (fun (h_1 : ¬ (nI k < 0)) => ?_)
  · have h_1 : k < 0 := (am_nlt0 (by omega)).mp h_1
    exact absurd h_1 (Nat.not_lt_zero _)
  have h_1 : ¬ (k < 0) := fun z => h_1 ((am_nlt0 (by omega)).mpr z)
  refine am_run 2 (pc' := 8) (ls' := [some (.ref 79), some (.int (nI k))]) (st' := [.int (nI 200), .int (nI k)]) (σ' := σ) rfl ?_
  refine am_ic (ty := 11) (tn := 20) rfl (by decide) rfl rfl (fun (h_2 : nI k < nI 200) => ?_) (fun (h_2 : ¬ (nI k < nI 200)) => ?_)
  rotate_left
  · have h_2 : ¬ (k < 200) := fun z => h_2 ((nI_ltI (by omega) (by omega)).mpr z)
    omega
  have h_2 : k < 200 := (nI_ltI (by omega) (by omega)).mp h_2
  refine am_run 3 (pc' := 16) (ls' := [some (.ref 79), some (.int (nI k))]) (st' := [.int (nI k), .ref 81]) (σ' := σ) rfl ?_
  refine am_ialdN (n := 200) (v := nI (g k)) rfl rfl rfl (by omega) f2 (by decide) ?_
  refine am_run 1 (pc' := 21) (ls' := [some (.ref 79), some (.int (nI k))]) (st' := [.int (nI (g k))]) (σ' := σ) rfl ?_
  refine am_reti rfl rfl ?_
  exact hq
set_option maxRecDepth 10000 in
set_option maxHeartbeats 2000000 in
theorem c_stepsAt {d : Nat} (hd : 1 ≤ d) {σ : am_M} {lim c k : Nat} {f g h : Nat → Nat} (hT : TX σ lim c f g h) (hk : k < c) {Q : am_Q} (hq : Q (some (.int (nI (h k)))) σ) : am_C d 77 [.ref 79, .int (nI k)] σ Q := by
  obtain ⟨t1, t2, t3, t4, t5⟩ := id hT
  obtain ⟨f1, f2, f3, -⟩ := t5 k hk
  refine am_enter' (M := M_X5_stepsAt) rfl rfl rfl (by omega) (ls := [some (.ref 79), some (.int (nI k))]) rfl (fun d' hd' => ?_)
  refine am_run 1 (pc' := 1) (ls' := [some (.ref 79), some (.int (nI k))]) (st' := [.int (nI k)]) (σ' := σ) rfl ?_
  refine am_if (ty := 20) (tn := 4) rfl (by decide) rfl rfl (fun (h_1 : nI k < 0) => ?_) (fun (h_1 : ¬ (nI k < 0)) => ?_)
  · have h_1 : k < 0 := (am_nlt0 (by omega)).mp h_1
    exact absurd h_1 (Nat.not_lt_zero _)
  have h_1 : ¬ (k < 0) := fun z => h_1 ((am_nlt0 (by omega)).mpr z)
  refine am_run 2 (pc' := 8) (ls' := [some (.ref 79), some (.int (nI k))]) (st' := [.int (nI 200), .int (nI k)]) (σ' := σ) rfl ?_
  refine am_ic (ty := 11) (tn := 20) rfl (by decide) rfl rfl (fun (h_2 : nI k < nI 200) => ?_) (fun (h_2 : ¬ (nI k < nI 200)) => ?_)
  rotate_left
  · have h_2 : ¬ (k < 200) := fun z => h_2 ((nI_ltI (by omega) (by omega)).mpr z)
    omega
  have h_2 : k < 200 := (nI_ltI (by omega) (by omega)).mp h_2
  refine am_run 3 (pc' := 16) (ls' := [some (.ref 79), some (.int (nI k))]) (st' := [.int (nI k), .ref 82]) (σ' := σ) rfl ?_
  refine am_ialdN (n := 200) (v := nI (h k)) rfl rfl rfl (by omega) f3 (by decide) ?_
  refine am_run 1 (pc' := 21) (ls' := [some (.ref 79), some (.int (nI k))]) (st' := [.int (nI (h k))]) (σ' := σ) rfl ?_
  refine am_reti rfl rfl ?_
  exact hq
set_option maxRecDepth 10000 in
set_option maxHeartbeats 2000000 in
theorem c_rsize {d : Nat} (hd : 1 ≤ d) {σ : am_M} {lim c : Nat} {f g h : Nat → Nat} (hT : TX σ lim c f g h) {Q : am_Q} (hq : Q (some (.int (nI c))) σ) : am_C d 74 [.ref 79] σ Q := by
  refine am_enter' (M := M_X5_size) rfl rfl rfl (by omega) (ls := [some (.ref 79)]) rfl (fun d' hd' => ?_)
  refine am_run 2 (pc' := 4) (ls' := [some (.ref 79)]) (st' := [.int (σ.1 79 3)]) (σ' := σ) rfl ?_
  refine am_top (v' := nI c) hT.2.2.1 ?_
  refine am_reti rfl rfl ?_
  exact hq

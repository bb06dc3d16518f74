/-! the place of a statement's letter -/
theorem nT_cases {c : Nat} (h : nTb c = true) : c = 48 ∨ c = 46 ∨ c = 120 ∨ c = 33 ∨ c = 38 ∨ c = 63 ∨ c = 42 ∨ c = 94 ∨ c = 64 ∨ c = 126 ∨ c = 36 ∨ c = 59 ∨ c = 124 := by
  unfold nTb isF isB at h
  simp only [Bool.or_eq_true, beq_iff_eq] at h
  omega
theorem nT_no {c : Nat} (h : nTb c = false) : c ≠ 48 ∧ c ≠ 46 ∧ c ≠ 120 ∧ c ≠ 33 ∧ c ≠ 38 ∧ c ≠ 63 ∧ c ≠ 42 ∧ c ≠ 94 ∧ c ≠ 64 ∧ c ≠ 126 ∧ c ≠ 36 ∧ c ≠ 59 ∧ c ≠ 124 := by
  unfold nTb isF isB at h
  simp only [Bool.or_eq_false_iff, beq_eq_false_iff_ne, ne_eq] at h
  omega
theorem stp_n {c k : Nat} (h : c ≠ 32) (hn : nTb c = true) : stp c (0, k) = (if c = 120 then 1 else 0, k + 1) := by
  unfold stp
  rw [if_neg h, if_pos (⟨rfl, hn⟩ : (0, k).1 = 0 ∧ nTb c = true)]
  by_cases hz : c = 120
  · rw [if_pos hz, if_pos ⟨hz, rfl⟩]
  · rw [if_neg hz, if_neg (fun z => hz z.1)]
theorem stp_1 {c k : Nat} (h : c ≠ 32) : stp c (1, k) = (0, k) := by
  unfold stp
  rw [if_neg h, if_neg (fun z => Nat.one_ne_zero z.2), if_neg (fun z => Nat.one_ne_zero z.1)]
theorem stp_o {c k : Nat} (h : c ≠ 32) (hn : nTb c = false) : stp c (0, k) = (0, k) := by
  have := nT_no hn
  unfold stp
  rw [if_neg h, if_neg (fun z => by omega), if_neg (fun z => by have z := z.2; rw [hn] at z; cases z)]
set_option maxRecDepth 10000 in
set_option maxHeartbeats 2000000 in
theorem c_m_isNT0 {d : Nat} (hd : 2 ≤ d) {σ : am_M} {c : Nat} (hc : c < 256) (h : nTb c = false) {Q : am_Q} (hq : Q (some (.int (nI 0))) σ) : am_C d 179 [.int (nI c)] σ Q := by
  have hn := nT_no h
  refine am_enter' (M := M_X10_isNodeToken) rfl rfl rfl (by omega) (ls := [some (.int (nI c))]) rfl (fun d' hd' => ?_)
  refine am_run 1 (pc' := 1) (ls' := [some (.int (nI c))]) (st' := [.int (nI c)]) (σ' := σ) rfl ?_
  refine am_invs (y := 155) (as := [.int (nI c)]) (rest := []) rfl rfl rfl rfl rfl rfl (Nat.le_of_ble_eq_true rfl) ?_
  refine am_enter' rfl rfl rfl (by omega) (ls := [some (.int (nI c))]) rfl (fun d_1 hd_1 => ?_)
  refine am_run 2 (pc' := 3) (ls' := [some (.int (nI c))]) (st' := [.int (nI 48), .int (nI c)]) (σ' := σ) rfl ?_
  refine am_ic (ty := 30) (tn := 6) rfl (by decide) rfl rfl (fun (h_2 : nI c = nI 48) => ?_) (fun (h_2 : ¬ (nI c = nI 48)) => ?_)
  · have h_2 : c = 48 := (nI_eq (by omega) (by omega)).mp h_2
    omega
  have h_2 : ¬ (c = 48) := fun z => h_2 ((nI_eq (by omega) (by omega)).mpr z)
  refine am_run 2 (pc' := 9) (ls' := [some (.int (nI c))]) (st' := [.int (nI 46), .int (nI c)]) (σ' := σ) rfl ?_
  refine am_ic (ty := 30) (tn := 12) rfl (by decide) rfl rfl (fun (h_3 : nI c = nI 46) => ?_) (fun (h_3 : ¬ (nI c = nI 46)) => ?_)
  · have h_3 : c = 46 := (nI_eq (by omega) (by omega)).mp h_3
    omega
  have h_3 : ¬ (c = 46) := fun z => h_3 ((nI_eq (by omega) (by omega)).mpr z)
  refine am_run 2 (pc' := 15) (ls' := [some (.int (nI c))]) (st' := [.int (nI 33), .int (nI c)]) (σ' := σ) rfl ?_
  refine am_ic (ty := 30) (tn := 18) rfl (by decide) rfl rfl (fun (h_4 : nI c = nI 33) => ?_) (fun (h_4 : ¬ (nI c = nI 33)) => ?_)
  · have h_4 : c = 33 := (nI_eq (by omega) (by omega)).mp h_4
    omega
  have h_4 : ¬ (c = 33) := fun z => h_4 ((nI_eq (by omega) (by omega)).mpr z)
  refine am_run 2 (pc' := 21) (ls' := [some (.int (nI c))]) (st' := [.int (nI 38), .int (nI c)]) (σ' := σ) rfl ?_
  refine am_ic (ty := 30) (tn := 24) rfl (by decide) rfl rfl (fun (h_5 : nI c = nI 38) => ?_) (fun (h_5 : ¬ (nI c = nI 38)) => ?_)
  · have h_5 : c = 38 := (nI_eq (by omega) (by omega)).mp h_5
    omega
  have h_5 : ¬ (c = 38) := fun z => h_5 ((nI_eq (by omega) (by omega)).mpr z)
  refine am_run 2 (pc' := 27) (ls' := [some (.int (nI c))]) (st' := [.int (nI 120), .int (nI c)]) (σ' := σ) rfl ?_
  refine am_ic (ty := 30) (tn := 34) rfl (by decide) rfl rfl (fun (h_6 : nI c = nI 120) => ?_) (fun (h_6 : ¬ (nI c = nI 120)) => ?_)
  · have h_6 : c = 120 := (nI_eq (by omega) (by omega)).mp h_6
    omega
  have h_6 : ¬ (c = 120) := fun z => h_6 ((nI_eq (by omega) (by omega)).mpr z)
  refine am_run 1 (pc' := 35) (ls' := [some (.int (nI c))]) (st' := [.int (nI 0)]) (σ' := σ) rfl ?_
  refine am_retz rfl rfl (by decide) ?_
  show am_G _ M_X10_isNodeToken _ 4 [some (.int (nI c))] [.int (nI 0)] σ
  refine am_if (ty := 7) (tn := 26) rfl (by decide) rfl rfl (fun (h_7 : nI 0 = 0) => ?_) (fun (h_7 : ¬ (nI 0 = 0)) => ?_)
  rotate_left
  · exact absurd (by decide) h_7
  refine am_run 1 (pc' := 8) (ls' := [some (.int (nI c))]) (st' := [.int (nI c)]) (σ' := σ) rfl ?_
  refine am_invs (y := 156) (as := [.int (nI c)]) (rest := []) rfl rfl rfl rfl rfl rfl (Nat.le_of_ble_eq_true rfl) ?_
  refine am_enter' rfl rfl rfl (by omega) (ls := [some (.int (nI c))]) rfl (fun d_8 hd_8 => ?_)
  refine am_run 2 (pc' := 3) (ls' := [some (.int (nI c))]) (st' := [.int (nI 63), .int (nI c)]) (σ' := σ) rfl ?_
  refine am_ic (ty := 36) (tn := 6) rfl (by decide) rfl rfl (fun (h_9 : nI c = nI 63) => ?_) (fun (h_9 : ¬ (nI c = nI 63)) => ?_)
  · have h_9 : c = 63 := (nI_eq (by omega) (by omega)).mp h_9
    omega
  have h_9 : ¬ (c = 63) := fun z => h_9 ((nI_eq (by omega) (by omega)).mpr z)
  refine am_run 2 (pc' := 9) (ls' := [some (.int (nI c))]) (st' := [.int (nI 42), .int (nI c)]) (σ' := σ) rfl ?_
  refine am_ic (ty := 36) (tn := 12) rfl (by decide) rfl rfl (fun (h_10 : nI c = nI 42) => ?_) (fun (h_10 : ¬ (nI c = nI 42)) => ?_)
  · have h_10 : c = 42 := (nI_eq (by omega) (by omega)).mp h_10
    omega
  have h_10 : ¬ (c = 42) := fun z => h_10 ((nI_eq (by omega) (by omega)).mpr z)
  refine am_run 2 (pc' := 15) (ls' := [some (.int (nI c))]) (st' := [.int (nI 94), .int (nI c)]) (σ' := σ) rfl ?_
  refine am_ic (ty := 36) (tn := 18) rfl (by decide) rfl rfl (fun (h_11 : nI c = nI 94) => ?_) (fun (h_11 : ¬ (nI c = nI 94)) => ?_)
  · have h_11 : c = 94 := (nI_eq (by omega) (by omega)).mp h_11
    omega
  have h_11 : ¬ (c = 94) := fun z => h_11 ((nI_eq (by omega) (by omega)).mpr z)
  refine am_run 2 (pc' := 21) (ls' := [some (.int (nI c))]) (st' := [.int (nI 64), .int (nI c)]) (σ' := σ) rfl ?_
  refine am_ic (ty := 36) (tn := 24) rfl (by decide) rfl rfl (fun (h_12 : nI c = nI 64) => ?_) (fun (h_12 : ¬ (nI c = nI 64)) => ?_)
  · have h_12 : c = 64 := (nI_eq (by omega) (by omega)).mp h_12
    omega
  have h_12 : ¬ (c = 64) := fun z => h_12 ((nI_eq (by omega) (by omega)).mpr z)
  refine am_run 2 (pc' := 27) (ls' := [some (.int (nI c))]) (st' := [.int (nI 126), .int (nI c)]) (σ' := σ) rfl ?_
  refine am_ic (ty := 36) (tn := 30) rfl (by decide) rfl rfl (fun (h_13 : nI c = nI 126) => ?_) (fun (h_13 : ¬ (nI c = nI 126)) => ?_)
  · have h_13 : c = 126 := (nI_eq (by omega) (by omega)).mp h_13
    omega
  have h_13 : ¬ (c = 126) := fun z => h_13 ((nI_eq (by omega) (by omega)).mpr z)
  refine am_run 2 (pc' := 33) (ls' := [some (.int (nI c))]) (st' := [.int (nI 36), .int (nI c)]) (σ' := σ) rfl ?_
  refine am_ic (ty := 36) (tn := 40) rfl (by decide) rfl rfl (fun (h_14 : nI c = nI 36) => ?_) (fun (h_14 : ¬ (nI c = nI 36)) => ?_)
  · have h_14 : c = 36 := (nI_eq (by omega) (by omega)).mp h_14
    omega
  have h_14 : ¬ (c = 36) := fun z => h_14 ((nI_eq (by omega) (by omega)).mpr z)
  refine am_run 1 (pc' := 41) (ls' := [some (.int (nI c))]) (st' := [.int (nI 0)]) (σ' := σ) rfl ?_
  refine am_retz rfl rfl (by decide) ?_
  show am_G _ M_X10_isNodeToken _ 11 [some (.int (nI c))] [.int (nI 0)] σ
  refine am_if (ty := 14) (tn := 26) rfl (by decide) rfl rfl (fun (h_15 : nI 0 = 0) => ?_) (fun (h_15 : ¬ (nI 0 = 0)) => ?_)
  rotate_left
  · exact absurd (by decide) h_15
  refine am_run 2 (pc' := 17) (ls' := [some (.int (nI c))]) (st' := [.int (nI 59), .int (nI c)]) (σ' := σ) rfl ?_
  refine am_ic (ty := 26) (tn := 20) rfl (by decide) rfl rfl (fun (h_16 : nI c = nI 59) => ?_) (fun (h_16 : ¬ (nI c = nI 59)) => ?_)
  · have h_16 : c = 59 := (nI_eq (by omega) (by omega)).mp h_16
    omega
  have h_16 : ¬ (c = 59) := fun z => h_16 ((nI_eq (by omega) (by omega)).mpr z)
  refine am_run 2 (pc' := 23) (ls' := [some (.int (nI c))]) (st' := [.int (nI 124), .int (nI c)]) (σ' := σ) rfl ?_
  refine am_ic (ty := 26) (tn := 30) rfl (by decide) rfl rfl (fun (h_17 : nI c = nI 124) => ?_) (fun (h_17 : ¬ (nI c = nI 124)) => ?_)
  · have h_17 : c = 124 := (nI_eq (by omega) (by omega)).mp h_17
    omega
  have h_17 : ¬ (c = 124) := fun z => h_17 ((nI_eq (by omega) (by omega)).mpr z)
  refine am_run 1 (pc' := 31) (ls' := [some (.int (nI c))]) (st' := [.int (nI 0)]) (σ' := σ) rfl ?_
  refine am_retz rfl rfl (by decide) ?_
  exact hq
set_option maxRecDepth 10000 in
set_option maxHeartbeats 2000000 in
theorem c_m_isNT1 {d : Nat} (hd : 2 ≤ d) {σ : am_M} {c : Nat} (h : nTb c = true) {Q : am_Q} (hq : Q (some (.int (nI 1))) σ) : am_C d 179 [.int (nI c)] σ Q := by
  rcases nT_cases h with rfl | rfl | rfl | rfl | rfl | rfl | rfl | rfl | rfl | rfl | rfl | rfl | rfl
  · refine am_enter' (M := M_X10_isNodeToken) rfl rfl rfl (by omega) (ls := [some (.int (nI 48))]) rfl (fun d' hd' => ?_)
    refine am_run 1 (pc' := 1) (ls' := [some (.int (nI 48))]) (st' := [.int (nI 48)]) (σ' := σ) rfl ?_
    refine am_invs (y := 155) (as := [.int (nI 48)]) (rest := []) rfl rfl rfl rfl rfl rfl (Nat.le_of_ble_eq_true rfl) ?_
    refine am_enter' rfl rfl rfl (by omega) (ls := [some (.int (nI 48))]) rfl (fun d_1 hd_1 => ?_)
    refine am_run 2 (pc' := 3) (ls' := [some (.int (nI 48))]) (st' := [.int (nI 48), .int (nI 48)]) (σ' := σ) rfl ?_
    refine am_ic (ty := 30) (tn := 6) rfl (by decide) rfl rfl (fun (h_2 : nI 48 = nI 48) => ?_) (fun (h_2 : ¬ (nI 48 = nI 48)) => ?_)
    rotate_left
    · exact absurd (by decide) h_2
    refine am_run 2 (pc' := 35) (ls' := [some (.int (nI 48))]) (st' := [.int (nI 1)]) (σ' := σ) rfl ?_
    refine am_retz rfl rfl (by decide) ?_
    show am_G _ M_X10_isNodeToken _ 4 [some (.int (nI 48))] [.int (nI 1)] σ
    refine am_if (ty := 7) (tn := 26) rfl (by decide) rfl rfl (fun (h_3 : nI 1 = 0) => ?_) (fun (h_3 : ¬ (nI 1 = 0)) => ?_)
    · exact absurd h_3 (by decide)
    refine am_run 2 (pc' := 31) (ls' := [some (.int (nI 48))]) (st' := [.int (nI 1)]) (σ' := σ) rfl ?_
    refine am_retz rfl rfl (by decide) ?_
    exact hq
  · refine am_enter' (M := M_X10_isNodeToken) rfl rfl rfl (by omega) (ls := [some (.int (nI 46))]) rfl (fun d' hd' => ?_)
    refine am_run 1 (pc' := 1) (ls' := [some (.int (nI 46))]) (st' := [.int (nI 46)]) (σ' := σ) rfl ?_
    refine am_invs (y := 155) (as := [.int (nI 46)]) (rest := []) rfl rfl rfl rfl rfl rfl (Nat.le_of_ble_eq_true rfl) ?_
    refine am_enter' rfl rfl rfl (by omega) (ls := [some (.int (nI 46))]) rfl (fun d_1 hd_1 => ?_)
    refine am_run 2 (pc' := 3) (ls' := [some (.int (nI 46))]) (st' := [.int (nI 48), .int (nI 46)]) (σ' := σ) rfl ?_
    refine am_ic (ty := 30) (tn := 6) rfl (by decide) rfl rfl (fun (h_2 : nI 46 = nI 48) => ?_) (fun (h_2 : ¬ (nI 46 = nI 48)) => ?_)
    · exact absurd h_2 (by decide)
    refine am_run 2 (pc' := 9) (ls' := [some (.int (nI 46))]) (st' := [.int (nI 46), .int (nI 46)]) (σ' := σ) rfl ?_
    refine am_ic (ty := 30) (tn := 12) rfl (by decide) rfl rfl (fun (h_3 : nI 46 = nI 46) => ?_) (fun (h_3 : ¬ (nI 46 = nI 46)) => ?_)
    rotate_left
    · exact absurd (by decide) h_3
    refine am_run 2 (pc' := 35) (ls' := [some (.int (nI 46))]) (st' := [.int (nI 1)]) (σ' := σ) rfl ?_
    refine am_retz rfl rfl (by decide) ?_
    show am_G _ M_X10_isNodeToken _ 4 [some (.int (nI 46))] [.int (nI 1)] σ
    refine am_if (ty := 7) (tn := 26) rfl (by decide) rfl rfl (fun (h_4 : nI 1 = 0) => ?_) (fun (h_4 : ¬ (nI 1 = 0)) => ?_)
    · exact absurd h_4 (by decide)
    refine am_run 2 (pc' := 31) (ls' := [some (.int (nI 46))]) (st' := [.int (nI 1)]) (σ' := σ) rfl ?_
    refine am_retz rfl rfl (by decide) ?_
    exact hq
  · refine am_enter' (M := M_X10_isNodeToken) rfl rfl rfl (by omega) (ls := [some (.int (nI 120))]) rfl (fun d' hd' => ?_)
    refine am_run 1 (pc' := 1) (ls' := [some (.int (nI 120))]) (st' := [.int (nI 120)]) (σ' := σ) rfl ?_
    refine am_invs (y := 155) (as := [.int (nI 120)]) (rest := []) rfl rfl rfl rfl rfl rfl (Nat.le_of_ble_eq_true rfl) ?_
    refine am_enter' rfl rfl rfl (by omega) (ls := [some (.int (nI 120))]) rfl (fun d_1 hd_1 => ?_)
    refine am_run 2 (pc' := 3) (ls' := [some (.int (nI 120))]) (st' := [.int (nI 48), .int (nI 120)]) (σ' := σ) rfl ?_
    refine am_ic (ty := 30) (tn := 6) rfl (by decide) rfl rfl (fun (h_2 : nI 120 = nI 48) => ?_) (fun (h_2 : ¬ (nI 120 = nI 48)) => ?_)
    · exact absurd h_2 (by decide)
    refine am_run 2 (pc' := 9) (ls' := [some (.int (nI 120))]) (st' := [.int (nI 46), .int (nI 120)]) (σ' := σ) rfl ?_
    refine am_ic (ty := 30) (tn := 12) rfl (by decide) rfl rfl (fun (h_3 : nI 120 = nI 46) => ?_) (fun (h_3 : ¬ (nI 120 = nI 46)) => ?_)
    · exact absurd h_3 (by decide)
    refine am_run 2 (pc' := 15) (ls' := [some (.int (nI 120))]) (st' := [.int (nI 33), .int (nI 120)]) (σ' := σ) rfl ?_
    refine am_ic (ty := 30) (tn := 18) rfl (by decide) rfl rfl (fun (h_4 : nI 120 = nI 33) => ?_) (fun (h_4 : ¬ (nI 120 = nI 33)) => ?_)
    · exact absurd h_4 (by decide)
    refine am_run 2 (pc' := 21) (ls' := [some (.int (nI 120))]) (st' := [.int (nI 38), .int (nI 120)]) (σ' := σ) rfl ?_
    refine am_ic (ty := 30) (tn := 24) rfl (by decide) rfl rfl (fun (h_5 : nI 120 = nI 38) => ?_) (fun (h_5 : ¬ (nI 120 = nI 38)) => ?_)
    · exact absurd h_5 (by decide)
    refine am_run 2 (pc' := 27) (ls' := [some (.int (nI 120))]) (st' := [.int (nI 120), .int (nI 120)]) (σ' := σ) rfl ?_
    refine am_ic (ty := 30) (tn := 34) rfl (by decide) rfl rfl (fun (h_6 : nI 120 = nI 120) => ?_) (fun (h_6 : ¬ (nI 120 = nI 120)) => ?_)
    rotate_left
    · exact absurd (by decide) h_6
    refine am_run 2 (pc' := 35) (ls' := [some (.int (nI 120))]) (st' := [.int (nI 1)]) (σ' := σ) rfl ?_
    refine am_retz rfl rfl (by decide) ?_
    show am_G _ M_X10_isNodeToken _ 4 [some (.int (nI 120))] [.int (nI 1)] σ
    refine am_if (ty := 7) (tn := 26) rfl (by decide) rfl rfl (fun (h_7 : nI 1 = 0) => ?_) (fun (h_7 : ¬ (nI 1 = 0)) => ?_)
    · exact absurd h_7 (by decide)
    refine am_run 2 (pc' := 31) (ls' := [some (.int (nI 120))]) (st' := [.int (nI 1)]) (σ' := σ) rfl ?_
    refine am_retz rfl rfl (by decide) ?_
    exact hq
  · refine am_enter' (M := M_X10_isNodeToken) rfl rfl rfl (by omega) (ls := [some (.int (nI 33))]) rfl (fun d' hd' => ?_)
    refine am_run 1 (pc' := 1) (ls' := [some (.int (nI 33))]) (st' := [.int (nI 33)]) (σ' := σ) rfl ?_
    refine am_invs (y := 155) (as := [.int (nI 33)]) (rest := []) rfl rfl rfl rfl rfl rfl (Nat.le_of_ble_eq_true rfl) ?_
    refine am_enter' rfl rfl rfl (by omega) (ls := [some (.int (nI 33))]) rfl (fun d_1 hd_1 => ?_)
    refine am_run 2 (pc' := 3) (ls' := [some (.int (nI 33))]) (st' := [.int (nI 48), .int (nI 33)]) (σ' := σ) rfl ?_
    refine am_ic (ty := 30) (tn := 6) rfl (by decide) rfl rfl (fun (h_2 : nI 33 = nI 48) => ?_) (fun (h_2 : ¬ (nI 33 = nI 48)) => ?_)
    · exact absurd h_2 (by decide)
    refine am_run 2 (pc' := 9) (ls' := [some (.int (nI 33))]) (st' := [.int (nI 46), .int (nI 33)]) (σ' := σ) rfl ?_
    refine am_ic (ty := 30) (tn := 12) rfl (by decide) rfl rfl (fun (h_3 : nI 33 = nI 46) => ?_) (fun (h_3 : ¬ (nI 33 = nI 46)) => ?_)
    · exact absurd h_3 (by decide)
    refine am_run 2 (pc' := 15) (ls' := [some (.int (nI 33))]) (st' := [.int (nI 33), .int (nI 33)]) (σ' := σ) rfl ?_
    refine am_ic (ty := 30) (tn := 18) rfl (by decide) rfl rfl (fun (h_4 : nI 33 = nI 33) => ?_) (fun (h_4 : ¬ (nI 33 = nI 33)) => ?_)
    rotate_left
    · exact absurd (by decide) h_4
    refine am_run 2 (pc' := 35) (ls' := [some (.int (nI 33))]) (st' := [.int (nI 1)]) (σ' := σ) rfl ?_
    refine am_retz rfl rfl (by decide) ?_
    show am_G _ M_X10_isNodeToken _ 4 [some (.int (nI 33))] [.int (nI 1)] σ
    refine am_if (ty := 7) (tn := 26) rfl (by decide) rfl rfl (fun (h_5 : nI 1 = 0) => ?_) (fun (h_5 : ¬ (nI 1 = 0)) => ?_)
    · exact absurd h_5 (by decide)
    refine am_run 2 (pc' := 31) (ls' := [some (.int (nI 33))]) (st' := [.int (nI 1)]) (σ' := σ) rfl ?_
    refine am_retz rfl rfl (by decide) ?_
    exact hq
  · refine am_enter' (M := M_X10_isNodeToken) rfl rfl rfl (by omega) (ls := [some (.int (nI 38))]) rfl (fun d' hd' => ?_)
    refine am_run 1 (pc' := 1) (ls' := [some (.int (nI 38))]) (st' := [.int (nI 38)]) (σ' := σ) rfl ?_
    refine am_invs (y := 155) (as := [.int (nI 38)]) (rest := []) rfl rfl rfl rfl rfl rfl (Nat.le_of_ble_eq_true rfl) ?_
    refine am_enter' rfl rfl rfl (by omega) (ls := [some (.int (nI 38))]) rfl (fun d_1 hd_1 => ?_)
    refine am_run 2 (pc' := 3) (ls' := [some (.int (nI 38))]) (st' := [.int (nI 48), .int (nI 38)]) (σ' := σ) rfl ?_
    refine am_ic (ty := 30) (tn := 6) rfl (by decide) rfl rfl (fun (h_2 : nI 38 = nI 48) => ?_) (fun (h_2 : ¬ (nI 38 = nI 48)) => ?_)
    · exact absurd h_2 (by decide)
    refine am_run 2 (pc' := 9) (ls' := [some (.int (nI 38))]) (st' := [.int (nI 46), .int (nI 38)]) (σ' := σ) rfl ?_
    refine am_ic (ty := 30) (tn := 12) rfl (by decide) rfl rfl (fun (h_3 : nI 38 = nI 46) => ?_) (fun (h_3 : ¬ (nI 38 = nI 46)) => ?_)
    · exact absurd h_3 (by decide)
    refine am_run 2 (pc' := 15) (ls' := [some (.int (nI 38))]) (st' := [.int (nI 33), .int (nI 38)]) (σ' := σ) rfl ?_
    refine am_ic (ty := 30) (tn := 18) rfl (by decide) rfl rfl (fun (h_4 : nI 38 = nI 33) => ?_) (fun (h_4 : ¬ (nI 38 = nI 33)) => ?_)
    · exact absurd h_4 (by decide)
    refine am_run 2 (pc' := 21) (ls' := [some (.int (nI 38))]) (st' := [.int (nI 38), .int (nI 38)]) (σ' := σ) rfl ?_
    refine am_ic (ty := 30) (tn := 24) rfl (by decide) rfl rfl (fun (h_5 : nI 38 = nI 38) => ?_) (fun (h_5 : ¬ (nI 38 = nI 38)) => ?_)
    rotate_left
    · exact absurd (by decide) h_5
    refine am_run 2 (pc' := 35) (ls' := [some (.int (nI 38))]) (st' := [.int (nI 1)]) (σ' := σ) rfl ?_
    refine am_retz rfl rfl (by decide) ?_
    show am_G _ M_X10_isNodeToken _ 4 [some (.int (nI 38))] [.int (nI 1)] σ
    refine am_if (ty := 7) (tn := 26) rfl (by decide) rfl rfl (fun (h_6 : nI 1 = 0) => ?_) (fun (h_6 : ¬ (nI 1 = 0)) => ?_)
    · exact absurd h_6 (by decide)
    refine am_run 2 (pc' := 31) (ls' := [some (.int (nI 38))]) (st' := [.int (nI 1)]) (σ' := σ) rfl ?_
    refine am_retz rfl rfl (by decide) ?_
    exact hq
  · refine am_enter' (M := M_X10_isNodeToken) rfl rfl rfl (by omega) (ls := [some (.int (nI 63))]) rfl (fun d' hd' => ?_)
    refine am_run 1 (pc' := 1) (ls' := [some (.int (nI 63))]) (st' := [.int (nI 63)]) (σ' := σ) rfl ?_
    refine am_invs (y := 155) (as := [.int (nI 63)]) (rest := []) rfl rfl rfl rfl rfl rfl (Nat.le_of_ble_eq_true rfl) ?_
    refine am_enter' rfl rfl rfl (by omega) (ls := [some (.int (nI 63))]) rfl (fun d_1 hd_1 => ?_)
    refine am_run 2 (pc' := 3) (ls' := [some (.int (nI 63))]) (st' := [.int (nI 48), .int (nI 63)]) (σ' := σ) rfl ?_
    refine am_ic (ty := 30) (tn := 6) rfl (by decide) rfl rfl (fun (h_2 : nI 63 = nI 48) => ?_) (fun (h_2 : ¬ (nI 63 = nI 48)) => ?_)
    · exact absurd h_2 (by decide)
    refine am_run 2 (pc' := 9) (ls' := [some (.int (nI 63))]) (st' := [.int (nI 46), .int (nI 63)]) (σ' := σ) rfl ?_
    refine am_ic (ty := 30) (tn := 12) rfl (by decide) rfl rfl (fun (h_3 : nI 63 = nI 46) => ?_) (fun (h_3 : ¬ (nI 63 = nI 46)) => ?_)
    · exact absurd h_3 (by decide)
    refine am_run 2 (pc' := 15) (ls' := [some (.int (nI 63))]) (st' := [.int (nI 33), .int (nI 63)]) (σ' := σ) rfl ?_
    refine am_ic (ty := 30) (tn := 18) rfl (by decide) rfl rfl (fun (h_4 : nI 63 = nI 33) => ?_) (fun (h_4 : ¬ (nI 63 = nI 33)) => ?_)
    · exact absurd h_4 (by decide)
    refine am_run 2 (pc' := 21) (ls' := [some (.int (nI 63))]) (st' := [.int (nI 38), .int (nI 63)]) (σ' := σ) rfl ?_
    refine am_ic (ty := 30) (tn := 24) rfl (by decide) rfl rfl (fun (h_5 : nI 63 = nI 38) => ?_) (fun (h_5 : ¬ (nI 63 = nI 38)) => ?_)
    · exact absurd h_5 (by decide)
    refine am_run 2 (pc' := 27) (ls' := [some (.int (nI 63))]) (st' := [.int (nI 120), .int (nI 63)]) (σ' := σ) rfl ?_
    refine am_ic (ty := 30) (tn := 34) rfl (by decide) rfl rfl (fun (h_6 : nI 63 = nI 120) => ?_) (fun (h_6 : ¬ (nI 63 = nI 120)) => ?_)
    · exact absurd h_6 (by decide)
    refine am_run 1 (pc' := 35) (ls' := [some (.int (nI 63))]) (st' := [.int (nI 0)]) (σ' := σ) rfl ?_
    refine am_retz rfl rfl (by decide) ?_
    show am_G _ M_X10_isNodeToken _ 4 [some (.int (nI 63))] [.int (nI 0)] σ
    refine am_if (ty := 7) (tn := 26) rfl (by decide) rfl rfl (fun (h_7 : nI 0 = 0) => ?_) (fun (h_7 : ¬ (nI 0 = 0)) => ?_)
    rotate_left
    · exact absurd (by decide) h_7
    refine am_run 1 (pc' := 8) (ls' := [some (.int (nI 63))]) (st' := [.int (nI 63)]) (σ' := σ) rfl ?_
    refine am_invs (y := 156) (as := [.int (nI 63)]) (rest := []) rfl rfl rfl rfl rfl rfl (Nat.le_of_ble_eq_true rfl) ?_
    refine am_enter' rfl rfl rfl (by omega) (ls := [some (.int (nI 63))]) rfl (fun d_8 hd_8 => ?_)
    refine am_run 2 (pc' := 3) (ls' := [some (.int (nI 63))]) (st' := [.int (nI 63), .int (nI 63)]) (σ' := σ) rfl ?_
    refine am_ic (ty := 36) (tn := 6) rfl (by decide) rfl rfl (fun (h_9 : nI 63 = nI 63) => ?_) (fun (h_9 : ¬ (nI 63 = nI 63)) => ?_)
    rotate_left
    · exact absurd (by decide) h_9
    refine am_run 2 (pc' := 41) (ls' := [some (.int (nI 63))]) (st' := [.int (nI 1)]) (σ' := σ) rfl ?_
    refine am_retz rfl rfl (by decide) ?_
    show am_G _ M_X10_isNodeToken _ 11 [some (.int (nI 63))] [.int (nI 1)] σ
    refine am_if (ty := 14) (tn := 26) rfl (by decide) rfl rfl (fun (h_10 : nI 1 = 0) => ?_) (fun (h_10 : ¬ (nI 1 = 0)) => ?_)
    · exact absurd h_10 (by decide)
    refine am_run 2 (pc' := 31) (ls' := [some (.int (nI 63))]) (st' := [.int (nI 1)]) (σ' := σ) rfl ?_
    refine am_retz rfl rfl (by decide) ?_
    exact hq
  · refine am_enter' (M := M_X10_isNodeToken) rfl rfl rfl (by omega) (ls := [some (.int (nI 42))]) rfl (fun d' hd' => ?_)
    refine am_run 1 (pc' := 1) (ls' := [some (.int (nI 42))]) (st' := [.int (nI 42)]) (σ' := σ) rfl ?_
    refine am_invs (y := 155) (as := [.int (nI 42)]) (rest := []) rfl rfl rfl rfl rfl rfl (Nat.le_of_ble_eq_true rfl) ?_
    refine am_enter' rfl rfl rfl (by omega) (ls := [some (.int (nI 42))]) rfl (fun d_1 hd_1 => ?_)
    refine am_run 2 (pc' := 3) (ls' := [some (.int (nI 42))]) (st' := [.int (nI 48), .int (nI 42)]) (σ' := σ) rfl ?_
    refine am_ic (ty := 30) (tn := 6) rfl (by decide) rfl rfl (fun (h_2 : nI 42 = nI 48) => ?_) (fun (h_2 : ¬ (nI 42 = nI 48)) => ?_)
    · exact absurd h_2 (by decide)
    refine am_run 2 (pc' := 9) (ls' := [some (.int (nI 42))]) (st' := [.int (nI 46), .int (nI 42)]) (σ' := σ) rfl ?_
    refine am_ic (ty := 30) (tn := 12) rfl (by decide) rfl rfl (fun (h_3 : nI 42 = nI 46) => ?_) (fun (h_3 : ¬ (nI 42 = nI 46)) => ?_)
    · exact absurd h_3 (by decide)
    refine am_run 2 (pc' := 15) (ls' := [some (.int (nI 42))]) (st' := [.int (nI 33), .int (nI 42)]) (σ' := σ) rfl ?_
    refine am_ic (ty := 30) (tn := 18) rfl (by decide) rfl rfl (fun (h_4 : nI 42 = nI 33) => ?_) (fun (h_4 : ¬ (nI 42 = nI 33)) => ?_)
    · exact absurd h_4 (by decide)
    refine am_run 2 (pc' := 21) (ls' := [some (.int (nI 42))]) (st' := [.int (nI 38), .int (nI 42)]) (σ' := σ) rfl ?_
    refine am_ic (ty := 30) (tn := 24) rfl (by decide) rfl rfl (fun (h_5 : nI 42 = nI 38) => ?_) (fun (h_5 : ¬ (nI 42 = nI 38)) => ?_)
    · exact absurd h_5 (by decide)
    refine am_run 2 (pc' := 27) (ls' := [some (.int (nI 42))]) (st' := [.int (nI 120), .int (nI 42)]) (σ' := σ) rfl ?_
    refine am_ic (ty := 30) (tn := 34) rfl (by decide) rfl rfl (fun (h_6 : nI 42 = nI 120) => ?_) (fun (h_6 : ¬ (nI 42 = nI 120)) => ?_)
    · exact absurd h_6 (by decide)
    refine am_run 1 (pc' := 35) (ls' := [some (.int (nI 42))]) (st' := [.int (nI 0)]) (σ' := σ) rfl ?_
    refine am_retz rfl rfl (by decide) ?_
    show am_G _ M_X10_isNodeToken _ 4 [some (.int (nI 42))] [.int (nI 0)] σ
    refine am_if (ty := 7) (tn := 26) rfl (by decide) rfl rfl (fun (h_7 : nI 0 = 0) => ?_) (fun (h_7 : ¬ (nI 0 = 0)) => ?_)
    rotate_left
    · exact absurd (by decide) h_7
    refine am_run 1 (pc' := 8) (ls' := [some (.int (nI 42))]) (st' := [.int (nI 42)]) (σ' := σ) rfl ?_
    refine am_invs (y := 156) (as := [.int (nI 42)]) (rest := []) rfl rfl rfl rfl rfl rfl (Nat.le_of_ble_eq_true rfl) ?_
    refine am_enter' rfl rfl rfl (by omega) (ls := [some (.int (nI 42))]) rfl (fun d_8 hd_8 => ?_)
    refine am_run 2 (pc' := 3) (ls' := [some (.int (nI 42))]) (st' := [.int (nI 63), .int (nI 42)]) (σ' := σ) rfl ?_
    refine am_ic (ty := 36) (tn := 6) rfl (by decide) rfl rfl (fun (h_9 : nI 42 = nI 63) => ?_) (fun (h_9 : ¬ (nI 42 = nI 63)) => ?_)
    · exact absurd h_9 (by decide)
    refine am_run 2 (pc' := 9) (ls' := [some (.int (nI 42))]) (st' := [.int (nI 42), .int (nI 42)]) (σ' := σ) rfl ?_
    refine am_ic (ty := 36) (tn := 12) rfl (by decide) rfl rfl (fun (h_10 : nI 42 = nI 42) => ?_) (fun (h_10 : ¬ (nI 42 = nI 42)) => ?_)
    rotate_left
    · exact absurd (by decide) h_10
    refine am_run 2 (pc' := 41) (ls' := [some (.int (nI 42))]) (st' := [.int (nI 1)]) (σ' := σ) rfl ?_
    refine am_retz rfl rfl (by decide) ?_
    show am_G _ M_X10_isNodeToken _ 11 [some (.int (nI 42))] [.int (nI 1)] σ
    refine am_if (ty := 14) (tn := 26) rfl (by decide) rfl rfl (fun (h_11 : nI 1 = 0) => ?_) (fun (h_11 : ¬ (nI 1 = 0)) => ?_)
    · exact absurd h_11 (by decide)
    refine am_run 2 (pc' := 31) (ls' := [some (.int (nI 42))]) (st' := [.int (nI 1)]) (σ' := σ) rfl ?_
    refine am_retz rfl rfl (by decide) ?_
    exact hq
  · refine am_enter' (M := M_X10_isNodeToken) rfl rfl rfl (by omega) (ls := [some (.int (nI 94))]) rfl (fun d' hd' => ?_)
    refine am_run 1 (pc' := 1) (ls' := [some (.int (nI 94))]) (st' := [.int (nI 94)]) (σ' := σ) rfl ?_
    refine am_invs (y := 155) (as := [.int (nI 94)]) (rest := []) rfl rfl rfl rfl rfl rfl (Nat.le_of_ble_eq_true rfl) ?_
    refine am_enter' rfl rfl rfl (by omega) (ls := [some (.int (nI 94))]) rfl (fun d_1 hd_1 => ?_)
    refine am_run 2 (pc' := 3) (ls' := [some (.int (nI 94))]) (st' := [.int (nI 48), .int (nI 94)]) (σ' := σ) rfl ?_
    refine am_ic (ty := 30) (tn := 6) rfl (by decide) rfl rfl (fun (h_2 : nI 94 = nI 48) => ?_) (fun (h_2 : ¬ (nI 94 = nI 48)) => ?_)
    · exact absurd h_2 (by decide)
    refine am_run 2 (pc' := 9) (ls' := [some (.int (nI 94))]) (st' := [.int (nI 46), .int (nI 94)]) (σ' := σ) rfl ?_
    refine am_ic (ty := 30) (tn := 12) rfl (by decide) rfl rfl (fun (h_3 : nI 94 = nI 46) => ?_) (fun (h_3 : ¬ (nI 94 = nI 46)) => ?_)
    · exact absurd h_3 (by decide)
    refine am_run 2 (pc' := 15) (ls' := [some (.int (nI 94))]) (st' := [.int (nI 33), .int (nI 94)]) (σ' := σ) rfl ?_
    refine am_ic (ty := 30) (tn := 18) rfl (by decide) rfl rfl (fun (h_4 : nI 94 = nI 33) => ?_) (fun (h_4 : ¬ (nI 94 = nI 33)) => ?_)
    · exact absurd h_4 (by decide)
    refine am_run 2 (pc' := 21) (ls' := [some (.int (nI 94))]) (st' := [.int (nI 38), .int (nI 94)]) (σ' := σ) rfl ?_
    refine am_ic (ty := 30) (tn := 24) rfl (by decide) rfl rfl (fun (h_5 : nI 94 = nI 38) => ?_) (fun (h_5 : ¬ (nI 94 = nI 38)) => ?_)
    · exact absurd h_5 (by decide)
    refine am_run 2 (pc' := 27) (ls' := [some (.int (nI 94))]) (st' := [.int (nI 120), .int (nI 94)]) (σ' := σ) rfl ?_
    refine am_ic (ty := 30) (tn := 34) rfl (by decide) rfl rfl (fun (h_6 : nI 94 = nI 120) => ?_) (fun (h_6 : ¬ (nI 94 = nI 120)) => ?_)
    · exact absurd h_6 (by decide)
    refine am_run 1 (pc' := 35) (ls' := [some (.int (nI 94))]) (st' := [.int (nI 0)]) (σ' := σ) rfl ?_
    refine am_retz rfl rfl (by decide) ?_
    show am_G _ M_X10_isNodeToken _ 4 [some (.int (nI 94))] [.int (nI 0)] σ
    refine am_if (ty := 7) (tn := 26) rfl (by decide) rfl rfl (fun (h_7 : nI 0 = 0) => ?_) (fun (h_7 : ¬ (nI 0 = 0)) => ?_)
    rotate_left
    · exact absurd (by decide) h_7
    refine am_run 1 (pc' := 8) (ls' := [some (.int (nI 94))]) (st' := [.int (nI 94)]) (σ' := σ) rfl ?_
    refine am_invs (y := 156) (as := [.int (nI 94)]) (rest := []) rfl rfl rfl rfl rfl rfl (Nat.le_of_ble_eq_true rfl) ?_
    refine am_enter' rfl rfl rfl (by omega) (ls := [some (.int (nI 94))]) rfl (fun d_8 hd_8 => ?_)
    refine am_run 2 (pc' := 3) (ls' := [some (.int (nI 94))]) (st' := [.int (nI 63), .int (nI 94)]) (σ' := σ) rfl ?_
    refine am_ic (ty := 36) (tn := 6) rfl (by decide) rfl rfl (fun (h_9 : nI 94 = nI 63) => ?_) (fun (h_9 : ¬ (nI 94 = nI 63)) => ?_)
    · exact absurd h_9 (by decide)
    refine am_run 2 (pc' := 9) (ls' := [some (.int (nI 94))]) (st' := [.int (nI 42), .int (nI 94)]) (σ' := σ) rfl ?_
    refine am_ic (ty := 36) (tn := 12) rfl (by decide) rfl rfl (fun (h_10 : nI 94 = nI 42) => ?_) (fun (h_10 : ¬ (nI 94 = nI 42)) => ?_)
    · exact absurd h_10 (by decide)
    refine am_run 2 (pc' := 15) (ls' := [some (.int (nI 94))]) (st' := [.int (nI 94), .int (nI 94)]) (σ' := σ) rfl ?_
    refine am_ic (ty := 36) (tn := 18) rfl (by decide) rfl rfl (fun (h_11 : nI 94 = nI 94) => ?_) (fun (h_11 : ¬ (nI 94 = nI 94)) => ?_)
    rotate_left
    · exact absurd (by decide) h_11
    refine am_run 2 (pc' := 41) (ls' := [some (.int (nI 94))]) (st' := [.int (nI 1)]) (σ' := σ) rfl ?_
    refine am_retz rfl rfl (by decide) ?_
    show am_G _ M_X10_isNodeToken _ 11 [some (.int (nI 94))] [.int (nI 1)] σ
    refine am_if (ty := 14) (tn := 26) rfl (by decide) rfl rfl (fun (h_12 : nI 1 = 0) => ?_) (fun (h_12 : ¬ (nI 1 = 0)) => ?_)
    · exact absurd h_12 (by decide)
    refine am_run 2 (pc' := 31) (ls' := [some (.int (nI 94))]) (st' := [.int (nI 1)]) (σ' := σ) rfl ?_
    refine am_retz rfl rfl (by decide) ?_
    exact hq
  · refine am_enter' (M := M_X10_isNodeToken) rfl rfl rfl (by omega) (ls := [some (.int (nI 64))]) rfl (fun d' hd' => ?_)
    refine am_run 1 (pc' := 1) (ls' := [some (.int (nI 64))]) (st' := [.int (nI 64)]) (σ' := σ) rfl ?_
    refine am_invs (y := 155) (as := [.int (nI 64)]) (rest := []) rfl rfl rfl rfl rfl rfl (Nat.le_of_ble_eq_true rfl) ?_
    refine am_enter' rfl rfl rfl (by omega) (ls := [some (.int (nI 64))]) rfl (fun d_1 hd_1 => ?_)
    refine am_run 2 (pc' := 3) (ls' := [some (.int (nI 64))]) (st' := [.int (nI 48), .int (nI 64)]) (σ' := σ) rfl ?_
    refine am_ic (ty := 30) (tn := 6) rfl (by decide) rfl rfl (fun (h_2 : nI 64 = nI 48) => ?_) (fun (h_2 : ¬ (nI 64 = nI 48)) => ?_)
    · exact absurd h_2 (by decide)
    refine am_run 2 (pc' := 9) (ls' := [some (.int (nI 64))]) (st' := [.int (nI 46), .int (nI 64)]) (σ' := σ) rfl ?_
    refine am_ic (ty := 30) (tn := 12) rfl (by decide) rfl rfl (fun (h_3 : nI 64 = nI 46) => ?_) (fun (h_3 : ¬ (nI 64 = nI 46)) => ?_)
    · exact absurd h_3 (by decide)
    refine am_run 2 (pc' := 15) (ls' := [some (.int (nI 64))]) (st' := [.int (nI 33), .int (nI 64)]) (σ' := σ) rfl ?_
    refine am_ic (ty := 30) (tn := 18) rfl (by decide) rfl rfl (fun (h_4 : nI 64 = nI 33) => ?_) (fun (h_4 : ¬ (nI 64 = nI 33)) => ?_)
    · exact absurd h_4 (by decide)
    refine am_run 2 (pc' := 21) (ls' := [some (.int (nI 64))]) (st' := [.int (nI 38), .int (nI 64)]) (σ' := σ) rfl ?_
    refine am_ic (ty := 30) (tn := 24) rfl (by decide) rfl rfl (fun (h_5 : nI 64 = nI 38) => ?_) (fun (h_5 : ¬ (nI 64 = nI 38)) => ?_)
    · exact absurd h_5 (by decide)
    refine am_run 2 (pc' := 27) (ls' := [some (.int (nI 64))]) (st' := [.int (nI 120), .int (nI 64)]) (σ' := σ) rfl ?_
    refine am_ic (ty := 30) (tn := 34) rfl (by decide) rfl rfl (fun (h_6 : nI 64 = nI 120) => ?_) (fun (h_6 : ¬ (nI 64 = nI 120)) => ?_)
    · exact absurd h_6 (by decide)
    refine am_run 1 (pc' := 35) (ls' := [some (.int (nI 64))]) (st' := [.int (nI 0)]) (σ' := σ) rfl ?_
    refine am_retz rfl rfl (by decide) ?_
    show am_G _ M_X10_isNodeToken _ 4 [some (.int (nI 64))] [.int (nI 0)] σ
    refine am_if (ty := 7) (tn := 26) rfl (by decide) rfl rfl (fun (h_7 : nI 0 = 0) => ?_) (fun (h_7 : ¬ (nI 0 = 0)) => ?_)
    rotate_left
    · exact absurd (by decide) h_7
    refine am_run 1 (pc' := 8) (ls' := [some (.int (nI 64))]) (st' := [.int (nI 64)]) (σ' := σ) rfl ?_
    refine am_invs (y := 156) (as := [.int (nI 64)]) (rest := []) rfl rfl rfl rfl rfl rfl (Nat.le_of_ble_eq_true rfl) ?_
    refine am_enter' rfl rfl rfl (by omega) (ls := [some (.int (nI 64))]) rfl (fun d_8 hd_8 => ?_)
    refine am_run 2 (pc' := 3) (ls' := [some (.int (nI 64))]) (st' := [.int (nI 63), .int (nI 64)]) (σ' := σ) rfl ?_
    refine am_ic (ty := 36) (tn := 6) rfl (by decide) rfl rfl (fun (h_9 : nI 64 = nI 63) => ?_) (fun (h_9 : ¬ (nI 64 = nI 63)) => ?_)
    · exact absurd h_9 (by decide)
    refine am_run 2 (pc' := 9) (ls' := [some (.int (nI 64))]) (st' := [.int (nI 42), .int (nI 64)]) (σ' := σ) rfl ?_
    refine am_ic (ty := 36) (tn := 12) rfl (by decide) rfl rfl (fun (h_10 : nI 64 = nI 42) => ?_) (fun (h_10 : ¬ (nI 64 = nI 42)) => ?_)
    · exact absurd h_10 (by decide)
    refine am_run 2 (pc' := 15) (ls' := [some (.int (nI 64))]) (st' := [.int (nI 94), .int (nI 64)]) (σ' := σ) rfl ?_
    refine am_ic (ty := 36) (tn := 18) rfl (by decide) rfl rfl (fun (h_11 : nI 64 = nI 94) => ?_) (fun (h_11 : ¬ (nI 64 = nI 94)) => ?_)
    · exact absurd h_11 (by decide)
    refine am_run 2 (pc' := 21) (ls' := [some (.int (nI 64))]) (st' := [.int (nI 64), .int (nI 64)]) (σ' := σ) rfl ?_
    refine am_ic (ty := 36) (tn := 24) rfl (by decide) rfl rfl (fun (h_12 : nI 64 = nI 64) => ?_) (fun (h_12 : ¬ (nI 64 = nI 64)) => ?_)
    rotate_left
    · exact absurd (by decide) h_12
    refine am_run 2 (pc' := 41) (ls' := [some (.int (nI 64))]) (st' := [.int (nI 1)]) (σ' := σ) rfl ?_
    refine am_retz rfl rfl (by decide) ?_
    show am_G _ M_X10_isNodeToken _ 11 [some (.int (nI 64))] [.int (nI 1)] σ
    refine am_if (ty := 14) (tn := 26) rfl (by decide) rfl rfl (fun (h_13 : nI 1 = 0) => ?_) (fun (h_13 : ¬ (nI 1 = 0)) => ?_)
    · exact absurd h_13 (by decide)
    refine am_run 2 (pc' := 31) (ls' := [some (.int (nI 64))]) (st' := [.int (nI 1)]) (σ' := σ) rfl ?_
    refine am_retz rfl rfl (by decide) ?_
    exact hq
  · refine am_enter' (M := M_X10_isNodeToken) rfl rfl rfl (by omega) (ls := [some (.int (nI 126))]) rfl (fun d' hd' => ?_)
    refine am_run 1 (pc' := 1) (ls' := [some (.int (nI 126))]) (st' := [.int (nI 126)]) (σ' := σ) rfl ?_
    refine am_invs (y := 155) (as := [.int (nI 126)]) (rest := []) rfl rfl rfl rfl rfl rfl (Nat.le_of_ble_eq_true rfl) ?_
    refine am_enter' rfl rfl rfl (by omega) (ls := [some (.int (nI 126))]) rfl (fun d_1 hd_1 => ?_)
    refine am_run 2 (pc' := 3) (ls' := [some (.int (nI 126))]) (st' := [.int (nI 48), .int (nI 126)]) (σ' := σ) rfl ?_
    refine am_ic (ty := 30) (tn := 6) rfl (by decide) rfl rfl (fun (h_2 : nI 126 = nI 48) => ?_) (fun (h_2 : ¬ (nI 126 = nI 48)) => ?_)
    · exact absurd h_2 (by decide)
    refine am_run 2 (pc' := 9) (ls' := [some (.int (nI 126))]) (st' := [.int (nI 46), .int (nI 126)]) (σ' := σ) rfl ?_
    refine am_ic (ty := 30) (tn := 12) rfl (by decide) rfl rfl (fun (h_3 : nI 126 = nI 46) => ?_) (fun (h_3 : ¬ (nI 126 = nI 46)) => ?_)
    · exact absurd h_3 (by decide)
    refine am_run 2 (pc' := 15) (ls' := [some (.int (nI 126))]) (st' := [.int (nI 33), .int (nI 126)]) (σ' := σ) rfl ?_
    refine am_ic (ty := 30) (tn := 18) rfl (by decide) rfl rfl (fun (h_4 : nI 126 = nI 33) => ?_) (fun (h_4 : ¬ (nI 126 = nI 33)) => ?_)
    · exact absurd h_4 (by decide)
    refine am_run 2 (pc' := 21) (ls' := [some (.int (nI 126))]) (st' := [.int (nI 38), .int (nI 126)]) (σ' := σ) rfl ?_
    refine am_ic (ty := 30) (tn := 24) rfl (by decide) rfl rfl (fun (h_5 : nI 126 = nI 38) => ?_) (fun (h_5 : ¬ (nI 126 = nI 38)) => ?_)
    · exact absurd h_5 (by decide)
    refine am_run 2 (pc' := 27) (ls' := [some (.int (nI 126))]) (st' := [.int (nI 120), .int (nI 126)]) (σ' := σ) rfl ?_
    refine am_ic (ty := 30) (tn := 34) rfl (by decide) rfl rfl (fun (h_6 : nI 126 = nI 120) => ?_) (fun (h_6 : ¬ (nI 126 = nI 120)) => ?_)
    · exact absurd h_6 (by decide)
    refine am_run 1 (pc' := 35) (ls' := [some (.int (nI 126))]) (st' := [.int (nI 0)]) (σ' := σ) rfl ?_
    refine am_retz rfl rfl (by decide) ?_
    show am_G _ M_X10_isNodeToken _ 4 [some (.int (nI 126))] [.int (nI 0)] σ
    refine am_if (ty := 7) (tn := 26) rfl (by decide) rfl rfl (fun (h_7 : nI 0 = 0) => ?_) (fun (h_7 : ¬ (nI 0 = 0)) => ?_)
    rotate_left
    · exact absurd (by decide) h_7
    refine am_run 1 (pc' := 8) (ls' := [some (.int (nI 126))]) (st' := [.int (nI 126)]) (σ' := σ) rfl ?_
    refine am_invs (y := 156) (as := [.int (nI 126)]) (rest := []) rfl rfl rfl rfl rfl rfl (Nat.le_of_ble_eq_true rfl) ?_
    refine am_enter' rfl rfl rfl (by omega) (ls := [some (.int (nI 126))]) rfl (fun d_8 hd_8 => ?_)
    refine am_run 2 (pc' := 3) (ls' := [some (.int (nI 126))]) (st' := [.int (nI 63), .int (nI 126)]) (σ' := σ) rfl ?_
    refine am_ic (ty := 36) (tn := 6) rfl (by decide) rfl rfl (fun (h_9 : nI 126 = nI 63) => ?_) (fun (h_9 : ¬ (nI 126 = nI 63)) => ?_)
    · exact absurd h_9 (by decide)
    refine am_run 2 (pc' := 9) (ls' := [some (.int (nI 126))]) (st' := [.int (nI 42), .int (nI 126)]) (σ' := σ) rfl ?_
    refine am_ic (ty := 36) (tn := 12) rfl (by decide) rfl rfl (fun (h_10 : nI 126 = nI 42) => ?_) (fun (h_10 : ¬ (nI 126 = nI 42)) => ?_)
    · exact absurd h_10 (by decide)
    refine am_run 2 (pc' := 15) (ls' := [some (.int (nI 126))]) (st' := [.int (nI 94), .int (nI 126)]) (σ' := σ) rfl ?_
    refine am_ic (ty := 36) (tn := 18) rfl (by decide) rfl rfl (fun (h_11 : nI 126 = nI 94) => ?_) (fun (h_11 : ¬ (nI 126 = nI 94)) => ?_)
    · exact absurd h_11 (by decide)
    refine am_run 2 (pc' := 21) (ls' := [some (.int (nI 126))]) (st' := [.int (nI 64), .int (nI 126)]) (σ' := σ) rfl ?_
    refine am_ic (ty := 36) (tn := 24) rfl (by decide) rfl rfl (fun (h_12 : nI 126 = nI 64) => ?_) (fun (h_12 : ¬ (nI 126 = nI 64)) => ?_)
    · exact absurd h_12 (by decide)
    refine am_run 2 (pc' := 27) (ls' := [some (.int (nI 126))]) (st' := [.int (nI 126), .int (nI 126)]) (σ' := σ) rfl ?_
    refine am_ic (ty := 36) (tn := 30) rfl (by decide) rfl rfl (fun (h_13 : nI 126 = nI 126) => ?_) (fun (h_13 : ¬ (nI 126 = nI 126)) => ?_)
    rotate_left
    · exact absurd (by decide) h_13
    refine am_run 2 (pc' := 41) (ls' := [some (.int (nI 126))]) (st' := [.int (nI 1)]) (σ' := σ) rfl ?_
    refine am_retz rfl rfl (by decide) ?_
    show am_G _ M_X10_isNodeToken _ 11 [some (.int (nI 126))] [.int (nI 1)] σ
    refine am_if (ty := 14) (tn := 26) rfl (by decide) rfl rfl (fun (h_14 : nI 1 = 0) => ?_) (fun (h_14 : ¬ (nI 1 = 0)) => ?_)
    · exact absurd h_14 (by decide)
    refine am_run 2 (pc' := 31) (ls' := [some (.int (nI 126))]) (st' := [.int (nI 1)]) (σ' := σ) rfl ?_
    refine am_retz rfl rfl (by decide) ?_
    exact hq
  · refine am_enter' (M := M_X10_isNodeToken) rfl rfl rfl (by omega) (ls := [some (.int (nI 36))]) rfl (fun d' hd' => ?_)
    refine am_run 1 (pc' := 1) (ls' := [some (.int (nI 36))]) (st' := [.int (nI 36)]) (σ' := σ) rfl ?_
    refine am_invs (y := 155) (as := [.int (nI 36)]) (rest := []) rfl rfl rfl rfl rfl rfl (Nat.le_of_ble_eq_true rfl) ?_
    refine am_enter' rfl rfl rfl (by omega) (ls := [some (.int (nI 36))]) rfl (fun d_1 hd_1 => ?_)
    refine am_run 2 (pc' := 3) (ls' := [some (.int (nI 36))]) (st' := [.int (nI 48), .int (nI 36)]) (σ' := σ) rfl ?_
    refine am_ic (ty := 30) (tn := 6) rfl (by decide) rfl rfl (fun (h_2 : nI 36 = nI 48) => ?_) (fun (h_2 : ¬ (nI 36 = nI 48)) => ?_)
    · exact absurd h_2 (by decide)
    refine am_run 2 (pc' := 9) (ls' := [some (.int (nI 36))]) (st' := [.int (nI 46), .int (nI 36)]) (σ' := σ) rfl ?_
    refine am_ic (ty := 30) (tn := 12) rfl (by decide) rfl rfl (fun (h_3 : nI 36 = nI 46) => ?_) (fun (h_3 : ¬ (nI 36 = nI 46)) => ?_)
    · exact absurd h_3 (by decide)
    refine am_run 2 (pc' := 15) (ls' := [some (.int (nI 36))]) (st' := [.int (nI 33), .int (nI 36)]) (σ' := σ) rfl ?_
    refine am_ic (ty := 30) (tn := 18) rfl (by decide) rfl rfl (fun (h_4 : nI 36 = nI 33) => ?_) (fun (h_4 : ¬ (nI 36 = nI 33)) => ?_)
    · exact absurd h_4 (by decide)
    refine am_run 2 (pc' := 21) (ls' := [some (.int (nI 36))]) (st' := [.int (nI 38), .int (nI 36)]) (σ' := σ) rfl ?_
    refine am_ic (ty := 30) (tn := 24) rfl (by decide) rfl rfl (fun (h_5 : nI 36 = nI 38) => ?_) (fun (h_5 : ¬ (nI 36 = nI 38)) => ?_)
    · exact absurd h_5 (by decide)
    refine am_run 2 (pc' := 27) (ls' := [some (.int (nI 36))]) (st' := [.int (nI 120), .int (nI 36)]) (σ' := σ) rfl ?_
    refine am_ic (ty := 30) (tn := 34) rfl (by decide) rfl rfl (fun (h_6 : nI 36 = nI 120) => ?_) (fun (h_6 : ¬ (nI 36 = nI 120)) => ?_)
    · exact absurd h_6 (by decide)
    refine am_run 1 (pc' := 35) (ls' := [some (.int (nI 36))]) (st' := [.int (nI 0)]) (σ' := σ) rfl ?_
    refine am_retz rfl rfl (by decide) ?_
    show am_G _ M_X10_isNodeToken _ 4 [some (.int (nI 36))] [.int (nI 0)] σ
    refine am_if (ty := 7) (tn := 26) rfl (by decide) rfl rfl (fun (h_7 : nI 0 = 0) => ?_) (fun (h_7 : ¬ (nI 0 = 0)) => ?_)
    rotate_left
    · exact absurd (by decide) h_7
    refine am_run 1 (pc' := 8) (ls' := [some (.int (nI 36))]) (st' := [.int (nI 36)]) (σ' := σ) rfl ?_
    refine am_invs (y := 156) (as := [.int (nI 36)]) (rest := []) rfl rfl rfl rfl rfl rfl (Nat.le_of_ble_eq_true rfl) ?_
    refine am_enter' rfl rfl rfl (by omega) (ls := [some (.int (nI 36))]) rfl (fun d_8 hd_8 => ?_)
    refine am_run 2 (pc' := 3) (ls' := [some (.int (nI 36))]) (st' := [.int (nI 63), .int (nI 36)]) (σ' := σ) rfl ?_
    refine am_ic (ty := 36) (tn := 6) rfl (by decide) rfl rfl (fun (h_9 : nI 36 = nI 63) => ?_) (fun (h_9 : ¬ (nI 36 = nI 63)) => ?_)
    · exact absurd h_9 (by decide)
    refine am_run 2 (pc' := 9) (ls' := [some (.int (nI 36))]) (st' := [.int (nI 42), .int (nI 36)]) (σ' := σ) rfl ?_
    refine am_ic (ty := 36) (tn := 12) rfl (by decide) rfl rfl (fun (h_10 : nI 36 = nI 42) => ?_) (fun (h_10 : ¬ (nI 36 = nI 42)) => ?_)
    · exact absurd h_10 (by decide)
    refine am_run 2 (pc' := 15) (ls' := [some (.int (nI 36))]) (st' := [.int (nI 94), .int (nI 36)]) (σ' := σ) rfl ?_
    refine am_ic (ty := 36) (tn := 18) rfl (by decide) rfl rfl (fun (h_11 : nI 36 = nI 94) => ?_) (fun (h_11 : ¬ (nI 36 = nI 94)) => ?_)
    · exact absurd h_11 (by decide)
    refine am_run 2 (pc' := 21) (ls' := [some (.int (nI 36))]) (st' := [.int (nI 64), .int (nI 36)]) (σ' := σ) rfl ?_
    refine am_ic (ty := 36) (tn := 24) rfl (by decide) rfl rfl (fun (h_12 : nI 36 = nI 64) => ?_) (fun (h_12 : ¬ (nI 36 = nI 64)) => ?_)
    · exact absurd h_12 (by decide)
    refine am_run 2 (pc' := 27) (ls' := [some (.int (nI 36))]) (st' := [.int (nI 126), .int (nI 36)]) (σ' := σ) rfl ?_
    refine am_ic (ty := 36) (tn := 30) rfl (by decide) rfl rfl (fun (h_13 : nI 36 = nI 126) => ?_) (fun (h_13 : ¬ (nI 36 = nI 126)) => ?_)
    · exact absurd h_13 (by decide)
    refine am_run 2 (pc' := 33) (ls' := [some (.int (nI 36))]) (st' := [.int (nI 36), .int (nI 36)]) (σ' := σ) rfl ?_
    refine am_ic (ty := 36) (tn := 40) rfl (by decide) rfl rfl (fun (h_14 : nI 36 = nI 36) => ?_) (fun (h_14 : ¬ (nI 36 = nI 36)) => ?_)
    rotate_left
    · exact absurd (by decide) h_14
    refine am_run 2 (pc' := 41) (ls' := [some (.int (nI 36))]) (st' := [.int (nI 1)]) (σ' := σ) rfl ?_
    refine am_retz rfl rfl (by decide) ?_
    show am_G _ M_X10_isNodeToken _ 11 [some (.int (nI 36))] [.int (nI 1)] σ
    refine am_if (ty := 14) (tn := 26) rfl (by decide) rfl rfl (fun (h_15 : nI 1 = 0) => ?_) (fun (h_15 : ¬ (nI 1 = 0)) => ?_)
    · exact absurd h_15 (by decide)
    refine am_run 2 (pc' := 31) (ls' := [some (.int (nI 36))]) (st' := [.int (nI 1)]) (σ' := σ) rfl ?_
    refine am_retz rfl rfl (by decide) ?_
    exact hq
  · refine am_enter' (M := M_X10_isNodeToken) rfl rfl rfl (by omega) (ls := [some (.int (nI 59))]) rfl (fun d' hd' => ?_)
    refine am_run 1 (pc' := 1) (ls' := [some (.int (nI 59))]) (st' := [.int (nI 59)]) (σ' := σ) rfl ?_
    refine am_invs (y := 155) (as := [.int (nI 59)]) (rest := []) rfl rfl rfl rfl rfl rfl (Nat.le_of_ble_eq_true rfl) ?_
    refine am_enter' rfl rfl rfl (by omega) (ls := [some (.int (nI 59))]) rfl (fun d_1 hd_1 => ?_)
    refine am_run 2 (pc' := 3) (ls' := [some (.int (nI 59))]) (st' := [.int (nI 48), .int (nI 59)]) (σ' := σ) rfl ?_
    refine am_ic (ty := 30) (tn := 6) rfl (by decide) rfl rfl (fun (h_2 : nI 59 = nI 48) => ?_) (fun (h_2 : ¬ (nI 59 = nI 48)) => ?_)
    · exact absurd h_2 (by decide)
    refine am_run 2 (pc' := 9) (ls' := [some (.int (nI 59))]) (st' := [.int (nI 46), .int (nI 59)]) (σ' := σ) rfl ?_
    refine am_ic (ty := 30) (tn := 12) rfl (by decide) rfl rfl (fun (h_3 : nI 59 = nI 46) => ?_) (fun (h_3 : ¬ (nI 59 = nI 46)) => ?_)
    · exact absurd h_3 (by decide)
    refine am_run 2 (pc' := 15) (ls' := [some (.int (nI 59))]) (st' := [.int (nI 33), .int (nI 59)]) (σ' := σ) rfl ?_
    refine am_ic (ty := 30) (tn := 18) rfl (by decide) rfl rfl (fun (h_4 : nI 59 = nI 33) => ?_) (fun (h_4 : ¬ (nI 59 = nI 33)) => ?_)
    · exact absurd h_4 (by decide)
    refine am_run 2 (pc' := 21) (ls' := [some (.int (nI 59))]) (st' := [.int (nI 38), .int (nI 59)]) (σ' := σ) rfl ?_
    refine am_ic (ty := 30) (tn := 24) rfl (by decide) rfl rfl (fun (h_5 : nI 59 = nI 38) => ?_) (fun (h_5 : ¬ (nI 59 = nI 38)) => ?_)
    · exact absurd h_5 (by decide)
    refine am_run 2 (pc' := 27) (ls' := [some (.int (nI 59))]) (st' := [.int (nI 120), .int (nI 59)]) (σ' := σ) rfl ?_
    refine am_ic (ty := 30) (tn := 34) rfl (by decide) rfl rfl (fun (h_6 : nI 59 = nI 120) => ?_) (fun (h_6 : ¬ (nI 59 = nI 120)) => ?_)
    · exact absurd h_6 (by decide)
    refine am_run 1 (pc' := 35) (ls' := [some (.int (nI 59))]) (st' := [.int (nI 0)]) (σ' := σ) rfl ?_
    refine am_retz rfl rfl (by decide) ?_
    show am_G _ M_X10_isNodeToken _ 4 [some (.int (nI 59))] [.int (nI 0)] σ
    refine am_if (ty := 7) (tn := 26) rfl (by decide) rfl rfl (fun (h_7 : nI 0 = 0) => ?_) (fun (h_7 : ¬ (nI 0 = 0)) => ?_)
    rotate_left
    · exact absurd (by decide) h_7
    refine am_run 1 (pc' := 8) (ls' := [some (.int (nI 59))]) (st' := [.int (nI 59)]) (σ' := σ) rfl ?_
    refine am_invs (y := 156) (as := [.int (nI 59)]) (rest := []) rfl rfl rfl rfl rfl rfl (Nat.le_of_ble_eq_true rfl) ?_
    refine am_enter' rfl rfl rfl (by omega) (ls := [some (.int (nI 59))]) rfl (fun d_8 hd_8 => ?_)
    refine am_run 2 (pc' := 3) (ls' := [some (.int (nI 59))]) (st' := [.int (nI 63), .int (nI 59)]) (σ' := σ) rfl ?_
    refine am_ic (ty := 36) (tn := 6) rfl (by decide) rfl rfl (fun (h_9 : nI 59 = nI 63) => ?_) (fun (h_9 : ¬ (nI 59 = nI 63)) => ?_)
    · exact absurd h_9 (by decide)
    refine am_run 2 (pc' := 9) (ls' := [some (.int (nI 59))]) (st' := [.int (nI 42), .int (nI 59)]) (σ' := σ) rfl ?_
    refine am_ic (ty := 36) (tn := 12) rfl (by decide) rfl rfl (fun (h_10 : nI 59 = nI 42) => ?_) (fun (h_10 : ¬ (nI 59 = nI 42)) => ?_)
    · exact absurd h_10 (by decide)
    refine am_run 2 (pc' := 15) (ls' := [some (.int (nI 59))]) (st' := [.int (nI 94), .int (nI 59)]) (σ' := σ) rfl ?_
    refine am_ic (ty := 36) (tn := 18) rfl (by decide) rfl rfl (fun (h_11 : nI 59 = nI 94) => ?_) (fun (h_11 : ¬ (nI 59 = nI 94)) => ?_)
    · exact absurd h_11 (by decide)
    refine am_run 2 (pc' := 21) (ls' := [some (.int (nI 59))]) (st' := [.int (nI 64), .int (nI 59)]) (σ' := σ) rfl ?_
    refine am_ic (ty := 36) (tn := 24) rfl (by decide) rfl rfl (fun (h_12 : nI 59 = nI 64) => ?_) (fun (h_12 : ¬ (nI 59 = nI 64)) => ?_)
    · exact absurd h_12 (by decide)
    refine am_run 2 (pc' := 27) (ls' := [some (.int (nI 59))]) (st' := [.int (nI 126), .int (nI 59)]) (σ' := σ) rfl ?_
    refine am_ic (ty := 36) (tn := 30) rfl (by decide) rfl rfl (fun (h_13 : nI 59 = nI 126) => ?_) (fun (h_13 : ¬ (nI 59 = nI 126)) => ?_)
    · exact absurd h_13 (by decide)
    refine am_run 2 (pc' := 33) (ls' := [some (.int (nI 59))]) (st' := [.int (nI 36), .int (nI 59)]) (σ' := σ) rfl ?_
    refine am_ic (ty := 36) (tn := 40) rfl (by decide) rfl rfl (fun (h_14 : nI 59 = nI 36) => ?_) (fun (h_14 : ¬ (nI 59 = nI 36)) => ?_)
    · exact absurd h_14 (by decide)
    refine am_run 1 (pc' := 41) (ls' := [some (.int (nI 59))]) (st' := [.int (nI 0)]) (σ' := σ) rfl ?_
    refine am_retz rfl rfl (by decide) ?_
    show am_G _ M_X10_isNodeToken _ 11 [some (.int (nI 59))] [.int (nI 0)] σ
    refine am_if (ty := 14) (tn := 26) rfl (by decide) rfl rfl (fun (h_15 : nI 0 = 0) => ?_) (fun (h_15 : ¬ (nI 0 = 0)) => ?_)
    rotate_left
    · exact absurd (by decide) h_15
    refine am_run 2 (pc' := 17) (ls' := [some (.int (nI 59))]) (st' := [.int (nI 59), .int (nI 59)]) (σ' := σ) rfl ?_
    refine am_ic (ty := 26) (tn := 20) rfl (by decide) rfl rfl (fun (h_16 : nI 59 = nI 59) => ?_) (fun (h_16 : ¬ (nI 59 = nI 59)) => ?_)
    rotate_left
    · exact absurd (by decide) h_16
    refine am_run 2 (pc' := 31) (ls' := [some (.int (nI 59))]) (st' := [.int (nI 1)]) (σ' := σ) rfl ?_
    refine am_retz rfl rfl (by decide) ?_
    exact hq
  · refine am_enter' (M := M_X10_isNodeToken) rfl rfl rfl (by omega) (ls := [some (.int (nI 124))]) rfl (fun d' hd' => ?_)
    refine am_run 1 (pc' := 1) (ls' := [some (.int (nI 124))]) (st' := [.int (nI 124)]) (σ' := σ) rfl ?_
    refine am_invs (y := 155) (as := [.int (nI 124)]) (rest := []) rfl rfl rfl rfl rfl rfl (Nat.le_of_ble_eq_true rfl) ?_
    refine am_enter' rfl rfl rfl (by omega) (ls := [some (.int (nI 124))]) rfl (fun d_1 hd_1 => ?_)
    refine am_run 2 (pc' := 3) (ls' := [some (.int (nI 124))]) (st' := [.int (nI 48), .int (nI 124)]) (σ' := σ) rfl ?_
    refine am_ic (ty := 30) (tn := 6) rfl (by decide) rfl rfl (fun (h_2 : nI 124 = nI 48) => ?_) (fun (h_2 : ¬ (nI 124 = nI 48)) => ?_)
    · exact absurd h_2 (by decide)
    refine am_run 2 (pc' := 9) (ls' := [some (.int (nI 124))]) (st' := [.int (nI 46), .int (nI 124)]) (σ' := σ) rfl ?_
    refine am_ic (ty := 30) (tn := 12) rfl (by decide) rfl rfl (fun (h_3 : nI 124 = nI 46) => ?_) (fun (h_3 : ¬ (nI 124 = nI 46)) => ?_)
    · exact absurd h_3 (by decide)
    refine am_run 2 (pc' := 15) (ls' := [some (.int (nI 124))]) (st' := [.int (nI 33), .int (nI 124)]) (σ' := σ) rfl ?_
    refine am_ic (ty := 30) (tn := 18) rfl (by decide) rfl rfl (fun (h_4 : nI 124 = nI 33) => ?_) (fun (h_4 : ¬ (nI 124 = nI 33)) => ?_)
    · exact absurd h_4 (by decide)
    refine am_run 2 (pc' := 21) (ls' := [some (.int (nI 124))]) (st' := [.int (nI 38), .int (nI 124)]) (σ' := σ) rfl ?_
    refine am_ic (ty := 30) (tn := 24) rfl (by decide) rfl rfl (fun (h_5 : nI 124 = nI 38) => ?_) (fun (h_5 : ¬ (nI 124 = nI 38)) => ?_)
    · exact absurd h_5 (by decide)
    refine am_run 2 (pc' := 27) (ls' := [some (.int (nI 124))]) (st' := [.int (nI 120), .int (nI 124)]) (σ' := σ) rfl ?_
    refine am_ic (ty := 30) (tn := 34) rfl (by decide) rfl rfl (fun (h_6 : nI 124 = nI 120) => ?_) (fun (h_6 : ¬ (nI 124 = nI 120)) => ?_)
    · exact absurd h_6 (by decide)
    refine am_run 1 (pc' := 35) (ls' := [some (.int (nI 124))]) (st' := [.int (nI 0)]) (σ' := σ) rfl ?_
    refine am_retz rfl rfl (by decide) ?_
    show am_G _ M_X10_isNodeToken _ 4 [some (.int (nI 124))] [.int (nI 0)] σ
    refine am_if (ty := 7) (tn := 26) rfl (by decide) rfl rfl (fun (h_7 : nI 0 = 0) => ?_) (fun (h_7 : ¬ (nI 0 = 0)) => ?_)
    rotate_left
    · exact absurd (by decide) h_7
    refine am_run 1 (pc' := 8) (ls' := [some (.int (nI 124))]) (st' := [.int (nI 124)]) (σ' := σ) rfl ?_
    refine am_invs (y := 156) (as := [.int (nI 124)]) (rest := []) rfl rfl rfl rfl rfl rfl (Nat.le_of_ble_eq_true rfl) ?_
    refine am_enter' rfl rfl rfl (by omega) (ls := [some (.int (nI 124))]) rfl (fun d_8 hd_8 => ?_)
    refine am_run 2 (pc' := 3) (ls' := [some (.int (nI 124))]) (st' := [.int (nI 63), .int (nI 124)]) (σ' := σ) rfl ?_
    refine am_ic (ty := 36) (tn := 6) rfl (by decide) rfl rfl (fun (h_9 : nI 124 = nI 63) => ?_) (fun (h_9 : ¬ (nI 124 = nI 63)) => ?_)
    · exact absurd h_9 (by decide)
    refine am_run 2 (pc' := 9) (ls' := [some (.int (nI 124))]) (st' := [.int (nI 42), .int (nI 124)]) (σ' := σ) rfl ?_
    refine am_ic (ty := 36) (tn := 12) rfl (by decide) rfl rfl (fun (h_10 : nI 124 = nI 42) => ?_) (fun (h_10 : ¬ (nI 124 = nI 42)) => ?_)
    · exact absurd h_10 (by decide)
    refine am_run 2 (pc' := 15) (ls' := [some (.int (nI 124))]) (st' := [.int (nI 94), .int (nI 124)]) (σ' := σ) rfl ?_
    refine am_ic (ty := 36) (tn := 18) rfl (by decide) rfl rfl (fun (h_11 : nI 124 = nI 94) => ?_) (fun (h_11 : ¬ (nI 124 = nI 94)) => ?_)
    · exact absurd h_11 (by decide)
    refine am_run 2 (pc' := 21) (ls' := [some (.int (nI 124))]) (st' := [.int (nI 64), .int (nI 124)]) (σ' := σ) rfl ?_
    refine am_ic (ty := 36) (tn := 24) rfl (by decide) rfl rfl (fun (h_12 : nI 124 = nI 64) => ?_) (fun (h_12 : ¬ (nI 124 = nI 64)) => ?_)
    · exact absurd h_12 (by decide)
    refine am_run 2 (pc' := 27) (ls' := [some (.int (nI 124))]) (st' := [.int (nI 126), .int (nI 124)]) (σ' := σ) rfl ?_
    refine am_ic (ty := 36) (tn := 30) rfl (by decide) rfl rfl (fun (h_13 : nI 124 = nI 126) => ?_) (fun (h_13 : ¬ (nI 124 = nI 126)) => ?_)
    · exact absurd h_13 (by decide)
    refine am_run 2 (pc' := 33) (ls' := [some (.int (nI 124))]) (st' := [.int (nI 36), .int (nI 124)]) (σ' := σ) rfl ?_
    refine am_ic (ty := 36) (tn := 40) rfl (by decide) rfl rfl (fun (h_14 : nI 124 = nI 36) => ?_) (fun (h_14 : ¬ (nI 124 = nI 36)) => ?_)
    · exact absurd h_14 (by decide)
    refine am_run 1 (pc' := 41) (ls' := [some (.int (nI 124))]) (st' := [.int (nI 0)]) (σ' := σ) rfl ?_
    refine am_retz rfl rfl (by decide) ?_
    show am_G _ M_X10_isNodeToken _ 11 [some (.int (nI 124))] [.int (nI 0)] σ
    refine am_if (ty := 14) (tn := 26) rfl (by decide) rfl rfl (fun (h_15 : nI 0 = 0) => ?_) (fun (h_15 : ¬ (nI 0 = 0)) => ?_)
    rotate_left
    · exact absurd (by decide) h_15
    refine am_run 2 (pc' := 17) (ls' := [some (.int (nI 124))]) (st' := [.int (nI 59), .int (nI 124)]) (σ' := σ) rfl ?_
    refine am_ic (ty := 26) (tn := 20) rfl (by decide) rfl rfl (fun (h_16 : nI 124 = nI 59) => ?_) (fun (h_16 : ¬ (nI 124 = nI 59)) => ?_)
    · exact absurd h_16 (by decide)
    refine am_run 2 (pc' := 23) (ls' := [some (.int (nI 124))]) (st' := [.int (nI 124), .int (nI 124)]) (σ' := σ) rfl ?_
    refine am_ic (ty := 26) (tn := 30) rfl (by decide) rfl rfl (fun (h_17 : nI 124 = nI 124) => ?_) (fun (h_17 : ¬ (nI 124 = nI 124)) => ?_)
    rotate_left
    · exact absurd (by decide) h_17
    refine am_run 2 (pc' := 31) (ls' := [some (.int (nI 124))]) (st' := [.int (nI 1)]) (σ' := σ) rfl ?_
    refine am_retz rfl rfl (by decide) ?_
    exact hq
set_option maxRecDepth 10000 in
set_option maxHeartbeats 2000000 in
theorem tp_loop {d : Nat} (hd : 3 ≤ d) {σ : am_M} {L : Nat} {tx : Nat → Nat} (hT : TXm σ L tx) {n q : Nat} (hnn : n < 60) (hq : q < L) (hs : stf tx q = (0, n)) (hn : nTb (tx q) = true) {Q : am_Q} (h : Q (some (.int (nI q))) σ) : ∀ (m i u c : Nat) (v5 : Option Value), i + m = q → stf tx i = (u, c) → u ≤ 1 → am_G d M_X10_tokenPlace Q 7 [some (.ref 0), some (.int (nI n)), some (.int (nI (n - c))), some (.int (nI u)), some (.int (nI i)), v5] [] σ
  | 0, i, u, c, v5, hi, hst, hu => by
    obtain ⟨t1, t2, t3⟩ := id hT
    obtain rfl : i = q := by omega
    rw [hs] at hst
    obtain ⟨rfl, rfl⟩ : 0 = u ∧ n = c := ⟨congrArg Prod.fst hst, congrArg Prod.snd hst⟩
    rw [Nat.sub_self]
    have hn' := hn
    have h32 : tx i ≠ 32 := fun z => by rw [z] at hn; cases hn
    have hlt := (t3 i hq).1
    refine am_run 3 (pc' := 13) (ls' := [some (.ref 0), some (.int (nI n)), some (.int (nI 0)), some (.int (nI 0)), some (.int (nI i)), v5]) (st' := [.int (σ.1 0 1), .int (nI i)]) (σ' := σ) rfl ?_
    refine am_top (v' := nI L) t2 ?_
    refine am_ic (ty := 16) (tn := 121) rfl (by decide) rfl rfl (fun (h_301 : nI i < nI L) => ?_) (fun (h_301 : ¬ (nI i < nI L)) => ?_)
    rotate_left
    · have h_301 : ¬ (i < L) := fun z => h_301 ((nI_ltI (by omega) (by omega)).mpr z)
      omega
    have h_301 : i < L := (nI_ltI (by omega) (by omega)).mp h_301
    refine am_run 3 (pc' := 22) (ls' := [some (.ref 0), some (.int (nI n)), some (.int (nI 0)), some (.int (nI 0)), some (.int (nI i)), v5]) (st' := [.int (nI i), .ref 1]) (σ' := σ) rfl ?_
    refine am_ialdN (n := 120) (v := nI (tx i)) rfl rfl rfl (by omega) (t3 i hq).2 (by decide) ?_
    refine am_run 1 (pc' := 25) (ls' := [some (.ref 0), some (.int (nI n)), some (.int (nI 0)), some (.int (nI 0)), some (.int (nI i)), v5]) (st' := [.int (nI 32), .int (nI (tx i))]) (σ' := σ) rfl ?_
    refine am_ic (ty := 49) (tn := 28) rfl (by decide) rfl rfl (fun (h_302 : nI (tx i) = nI 32) => ?_) (fun (h_302 : ¬ (nI (tx i) = nI 32)) => ?_)
    · have h_302 : tx i = 32 := (nI_eq (by omega) (by omega)).mp h_302
      omega
    have h_302 : ¬ (tx i = 32) := fun z => h_302 ((nI_eq (by omega) (by omega)).mpr z)
    refine am_run 1 (pc' := 29) (ls' := [some (.ref 0), some (.int (nI n)), some (.int (nI 0)), some (.int (nI 0)), some (.int (nI i)), v5]) (st' := [.int (nI 0)]) (σ' := σ) rfl ?_
    refine am_if (ty := 32) (tn := 49) rfl (by decide) rfl rfl (fun (h_303 : nI 0 = 0) => ?_) (fun (h_303 : ¬ (nI 0 = 0)) => ?_)
    rotate_left
    · exact absurd (by decide) h_303
    refine am_run 3 (pc' := 38) (ls' := [some (.ref 0), some (.int (nI n)), some (.int (nI 0)), some (.int (nI 0)), some (.int (nI i)), v5]) (st' := [.int (nI i), .ref 1]) (σ' := σ) rfl ?_
    refine am_ialdN (n := 120) (v := nI (tx i)) rfl rfl rfl (by omega) (t3 i hq).2 (by decide) ?_
    refine am_invs (y := 179) (as := [.int (nI (tx i))]) (rest := []) rfl rfl rfl rfl rfl rfl (Nat.le_of_ble_eq_true rfl) ?_
    refine c_m_isNT1 (by omega) hn' ?_
    show am_G _ M_X10_tokenPlace _ 42 [some (.ref 0), some (.int (nI n)), some (.int (nI 0)), some (.int (nI 0)), some (.int (nI i)), v5] [.int (nI 1)] σ
    refine am_if (ty := 49) (tn := 45) rfl (by decide) rfl rfl (fun (h_304 : nI 1 = 0) => ?_) (fun (h_304 : ¬ (nI 1 = 0)) => ?_)
    · exact absurd h_304 (by decide)
    refine am_run 6 (pc' := 58) (ls' := [some (.ref 0), some (.int (nI n)), some (.int (nI 0)), some (.int (nI 0)), some (.int (nI i)), some (.int (nI 1))]) (st' := [.int (nI i), .ref 1]) (σ' := σ) rfl ?_
    refine am_ialdN (n := 120) (v := nI (tx i)) rfl rfl rfl (by omega) (t3 i hq).2 (by decide) ?_
    refine am_run 1 (pc' := 61) (ls' := [some (.ref 0), some (.int (nI n)), some (.int (nI 0)), some (.int (nI 0)), some (.int (nI i)), some (.int (nI 1))]) (st' := [.int (nI 32), .int (nI (tx i))]) (σ' := σ) rfl ?_
    refine am_ic (ty := 64) (tn := 68) rfl (by decide) rfl rfl (fun (h_305 : nI (tx i) = nI 32) => ?_) (fun (h_305 : ¬ (nI (tx i) = nI 32)) => ?_)
    · have h_305 : tx i = 32 := (nI_eq (by omega) (by omega)).mp h_305
      omega
    have h_305 : ¬ (tx i = 32) := fun z => h_305 ((nI_eq (by omega) (by omega)).mpr z)
    refine am_run 3 (pc' := 74) (ls' := [some (.ref 0), some (.int (nI n)), some (.int (nI 0)), some (.int (nI 0)), some (.int (nI i)), some (.int (nI 1))]) (st' := [.int (nI i), .ref 1]) (σ' := σ) rfl ?_
    refine am_ialdN (n := 120) (v := nI (tx i)) rfl rfl rfl (by omega) (t3 i hq).2 (by decide) ?_
    refine am_run 1 (pc' := 77) (ls' := [some (.ref 0), some (.int (nI n)), some (.int (nI 0)), some (.int (nI 0)), some (.int (nI i)), some (.int (nI 1))]) (st' := [.int (nI 120), .int (nI (tx i))]) (σ' := σ) rfl ?_
    refine am_ic (ty := 80) (tn := 88) rfl (by decide) rfl rfl (fun (h_306 : nI (tx i) = nI 120) => ?_) (fun (h_306 : ¬ (nI (tx i) = nI 120)) => ?_)
    · have h_306 : tx i = 120 := (nI_eq (by omega) (by omega)).mp h_306
      refine am_run 1 (pc' := 81) (ls' := [some (.ref 0), some (.int (nI n)), some (.int (nI 0)), some (.int (nI 0)), some (.int (nI i)), some (.int (nI 1))]) (st' := [.int (nI 0)]) (σ' := σ) rfl ?_
      refine am_if (ty := 84) (tn := 88) rfl (by decide) rfl rfl (fun (h_307 : nI 0 = 0) => ?_) (fun (h_307 : ¬ (nI 0 = 0)) => ?_)
      rotate_left
      · exact absurd (by decide) h_307
      refine am_run 4 (pc' := 92) (ls' := [some (.ref 0), some (.int (nI n)), some (.int (nI 0)), some (.int (nI 1)), some (.int (nI i)), some (.int (nI 1))]) (st' := [.int (nI 1)]) (σ' := σ) rfl ?_
      refine am_if (ty := 102) (tn := 95) rfl (by decide) rfl rfl (fun (h_308 : nI 1 = 0) => ?_) (fun (h_308 : ¬ (nI 1 = 0)) => ?_)
      · exact absurd h_308 (by decide)
      refine am_run 1 (pc' := 96) (ls' := [some (.ref 0), some (.int (nI n)), some (.int (nI 0)), some (.int (nI 1)), some (.int (nI i)), some (.int (nI 1))]) (st' := [.int (nI 0)]) (σ' := σ) rfl ?_
      refine am_if (ty := 99) (tn := 102) rfl (by decide) rfl rfl (fun (h_309 : nI 0 = 0) => ?_) (fun (h_309 : ¬ (nI 0 = 0)) => ?_)
      rotate_left
      · exact absurd (by decide) h_309
      refine am_run 1 (pc' := 101) (ls' := [some (.ref 0), some (.int (nI n)), some (.int (nI 0)), some (.int (nI 1)), some (.int (nI i)), some (.int (nI 1))]) (st' := [.int (nI i)]) (σ' := σ) rfl ?_
      refine am_reti rfl rfl ?_
      exact h
    · have h_306 : ¬ (tx i = 120) := fun z => h_306 ((nI_eq (by omega) (by omega)).mpr z)
      refine am_run 3 (pc' := 92) (ls' := [some (.ref 0), some (.int (nI n)), some (.int (nI 0)), some (.int (nI 0)), some (.int (nI i)), some (.int (nI 1))]) (st' := [.int (nI 1)]) (σ' := σ) rfl ?_
      refine am_if (ty := 102) (tn := 95) rfl (by decide) rfl rfl (fun (h_310 : nI 1 = 0) => ?_) (fun (h_310 : ¬ (nI 1 = 0)) => ?_)
      · exact absurd h_310 (by decide)
      refine am_run 1 (pc' := 96) (ls' := [some (.ref 0), some (.int (nI n)), some (.int (nI 0)), some (.int (nI 0)), some (.int (nI i)), some (.int (nI 1))]) (st' := [.int (nI 0)]) (σ' := σ) rfl ?_
      refine am_if (ty := 99) (tn := 102) rfl (by decide) rfl rfl (fun (h_311 : nI 0 = 0) => ?_) (fun (h_311 : ¬ (nI 0 = 0)) => ?_)
      rotate_left
      · exact absurd (by decide) h_311
      refine am_run 1 (pc' := 101) (ls' := [some (.ref 0), some (.int (nI n)), some (.int (nI 0)), some (.int (nI 0)), some (.int (nI i)), some (.int (nI 1))]) (st' := [.int (nI i)]) (σ' := σ) rfl ?_
      refine am_reti rfl rfl ?_
      exact h
  | m + 1, i, u, c, v5, hi, hst, hu => by
    obtain ⟨t1, t2, t3⟩ := id hT
    have hlt := (t3 i (by omega)).1
    have hnx : stf tx (i + 1) = stp (tx i) (u, c) := by rw [← hst]; rfl
    have hcn : (stf tx (i + 1)).2 ≤ n := by
      have z := stf_mono (tx := tx) (a := i + 1) m
      rw [show i + 1 + m = q by omega, hs] at z
      exact z
    by_cases h32 : tx i = 32
    · rw [h32] at hnx
      have e32 : σ.1 1 i = nI 32 := by rw [(t3 i (by omega)).2, h32]
      rcases (show u = 0 ∨ u = 1 by omega) with rfl | rfl
      · refine am_run 0 (pc' := 7) (ls' := [some (.ref 0), some (.int (nI n)), some (.int (nI (n - c))), some (.int (nI 0)), some (.int (nI i)), v5]) (st' := []) (σ' := σ) rfl ?_
        refine am_run 3 (pc' := 13) (ls' := [some (.ref 0), some (.int (nI n)), some (.int (nI (n - c))), some (.int (nI 0)), some (.int (nI i)), v5]) (st' := [.int (σ.1 0 1), .int (nI i)]) (σ' := σ) rfl ?_
        refine am_top (v' := nI L) t2 ?_
        refine am_ic (ty := 16) (tn := 121) rfl (by decide) rfl rfl (fun (h_301 : nI i < nI L) => ?_) (fun (h_301 : ¬ (nI i < nI L)) => ?_)
        rotate_left
        · have h_301 : ¬ (i < L) := fun z => h_301 ((nI_ltI (by omega) (by omega)).mpr z)
          omega
        have h_301 : i < L := (nI_ltI (by omega) (by omega)).mp h_301
        refine am_run 3 (pc' := 22) (ls' := [some (.ref 0), some (.int (nI n)), some (.int (nI (n - c))), some (.int (nI 0)), some (.int (nI i)), v5]) (st' := [.int (nI i), .ref 1]) (σ' := σ) rfl ?_
        refine am_ialdN (n := 120) (v := nI 32) rfl rfl rfl (by omega) e32 (by decide) ?_
        refine am_run 1 (pc' := 25) (ls' := [some (.ref 0), some (.int (nI n)), some (.int (nI (n - c))), some (.int (nI 0)), some (.int (nI i)), v5]) (st' := [.int (nI 32), .int (nI 32)]) (σ' := σ) rfl ?_
        refine am_ic (ty := 49) (tn := 28) rfl (by decide) rfl rfl (fun (h_302 : nI 32 = nI 32) => ?_) (fun (h_302 : ¬ (nI 32 = nI 32)) => ?_)
        rotate_left
        · exact absurd (by decide) h_302
        refine am_run 5 (pc' := 58) (ls' := [some (.ref 0), some (.int (nI n)), some (.int (nI (n - c))), some (.int (nI 0)), some (.int (nI i)), some (.int (nI 0))]) (st' := [.int (nI i), .ref 1]) (σ' := σ) rfl ?_
        refine am_ialdN (n := 120) (v := nI 32) rfl rfl rfl (by omega) e32 (by decide) ?_
        refine am_run 1 (pc' := 61) (ls' := [some (.ref 0), some (.int (nI n)), some (.int (nI (n - c))), some (.int (nI 0)), some (.int (nI i)), some (.int (nI 0))]) (st' := [.int (nI 32), .int (nI 32)]) (σ' := σ) rfl ?_
        refine am_ic (ty := 64) (tn := 68) rfl (by decide) rfl rfl (fun (h_303 : nI 32 = nI 32) => ?_) (fun (h_303 : ¬ (nI 32 = nI 32)) => ?_)
        rotate_left
        · exact absurd (by decide) h_303
        refine am_run 4 (pc' := 92) (ls' := [some (.ref 0), some (.int (nI n)), some (.int (nI (n - c))), some (.int (nI 0)), some (.int (nI i)), some (.int (nI 0))]) (st' := [.int (nI 0)]) (σ' := σ) rfl ?_
        refine am_if (ty := 102) (tn := 95) rfl (by decide) rfl rfl (fun (h_304 : nI 0 = 0) => ?_) (fun (h_304 : ¬ (nI 0 = 0)) => ?_)
        rotate_left
        · exact absurd (by decide) h_304
        refine am_run 2 (pc' := 105) (ls' := [some (.ref 0), some (.int (nI n)), some (.int (nI (n - c))), some (.int (nI 0)), some (.int (nI i)), some (.int (nI 0))]) (st' := [.int (nI 0), .int (nI (n - c))]) (σ' := σ) rfl ?_
        refine am_if (ty := 112) (tn := 108) rfl (by decide) rfl rfl (fun (h_305 : nI 0 = 0) => ?_) (fun (h_305 : ¬ (nI 0 = 0)) => ?_)
        rotate_left
        · exact absurd (by decide) h_305
        refine am_run 2 (pc' := 114) (ls' := [some (.ref 0), some (.int (nI n)), some (.int (nI (n - c))), some (.int (nI 0)), some (.int (nI i)), some (.int (nI 0))]) (st' := [.int (nI (n - c) - nI 0)]) (σ' := σ) rfl ?_
        refine am_top (v' := nI (n - c)) ((nx_sub (Nat.zero_le _)).trans (by rw [Nat.sub_zero])) ?_
        refine am_run 2 (pc' := 118) (ls' := [some (.ref 0), some (.int (nI n)), some (.int (nI (n - c))), some (.int (nI 0)), some (.int (nI i + nI 1)), some (.int (nI 0))]) (st' := []) (σ' := σ) rfl ?_
        refine am_ls (ls' := [some (.ref 0), some (.int (nI n)), some (.int (nI (n - c))), some (.int (nI 0)), some (.int (nI (i + 1))), some (.int (nI 0))]) (by rw [nI_add]) ?_
        refine am_run 1 (pc' := 7) (ls' := [some (.ref 0), some (.int (nI n)), some (.int (nI (n - c))), some (.int (nI 0)), some (.int (nI (i + 1))), some (.int (nI 0))]) (st' := []) (σ' := σ) rfl ?_
        exact tp_loop hd hT hnn hq hs hn h m (i + 1) 0 c _ (by omega) hnx (by omega)
      · refine am_run 0 (pc' := 7) (ls' := [some (.ref 0), some (.int (nI n)), some (.int (nI (n - c))), some (.int (nI 1)), some (.int (nI i)), v5]) (st' := []) (σ' := σ) rfl ?_
        refine am_run 3 (pc' := 13) (ls' := [some (.ref 0), some (.int (nI n)), some (.int (nI (n - c))), some (.int (nI 1)), some (.int (nI i)), v5]) (st' := [.int (σ.1 0 1), .int (nI i)]) (σ' := σ) rfl ?_
        refine am_top (v' := nI L) t2 ?_
        refine am_ic (ty := 16) (tn := 121) rfl (by decide) rfl rfl (fun (h_301 : nI i < nI L) => ?_) (fun (h_301 : ¬ (nI i < nI L)) => ?_)
        rotate_left
        · have h_301 : ¬ (i < L) := fun z => h_301 ((nI_ltI (by omega) (by omega)).mpr z)
          omega
        have h_301 : i < L := (nI_ltI (by omega) (by omega)).mp h_301
        refine am_run 3 (pc' := 22) (ls' := [some (.ref 0), some (.int (nI n)), some (.int (nI (n - c))), some (.int (nI 1)), some (.int (nI i)), v5]) (st' := [.int (nI i), .ref 1]) (σ' := σ) rfl ?_
        refine am_ialdN (n := 120) (v := nI 32) rfl rfl rfl (by omega) e32 (by decide) ?_
        refine am_run 1 (pc' := 25) (ls' := [some (.ref 0), some (.int (nI n)), some (.int (nI (n - c))), some (.int (nI 1)), some (.int (nI i)), v5]) (st' := [.int (nI 32), .int (nI 32)]) (σ' := σ) rfl ?_
        refine am_ic (ty := 49) (tn := 28) rfl (by decide) rfl rfl (fun (h_302 : nI 32 = nI 32) => ?_) (fun (h_302 : ¬ (nI 32 = nI 32)) => ?_)
        rotate_left
        · exact absurd (by decide) h_302
        refine am_run 5 (pc' := 58) (ls' := [some (.ref 0), some (.int (nI n)), some (.int (nI (n - c))), some (.int (nI 1)), some (.int (nI i)), some (.int (nI 0))]) (st' := [.int (nI i), .ref 1]) (σ' := σ) rfl ?_
        refine am_ialdN (n := 120) (v := nI 32) rfl rfl rfl (by omega) e32 (by decide) ?_
        refine am_run 1 (pc' := 61) (ls' := [some (.ref 0), some (.int (nI n)), some (.int (nI (n - c))), some (.int (nI 1)), some (.int (nI i)), some (.int (nI 0))]) (st' := [.int (nI 32), .int (nI 32)]) (σ' := σ) rfl ?_
        refine am_ic (ty := 64) (tn := 68) rfl (by decide) rfl rfl (fun (h_303 : nI 32 = nI 32) => ?_) (fun (h_303 : ¬ (nI 32 = nI 32)) => ?_)
        rotate_left
        · exact absurd (by decide) h_303
        refine am_run 4 (pc' := 92) (ls' := [some (.ref 0), some (.int (nI n)), some (.int (nI (n - c))), some (.int (nI 1)), some (.int (nI i)), some (.int (nI 0))]) (st' := [.int (nI 0)]) (σ' := σ) rfl ?_
        refine am_if (ty := 102) (tn := 95) rfl (by decide) rfl rfl (fun (h_304 : nI 0 = 0) => ?_) (fun (h_304 : ¬ (nI 0 = 0)) => ?_)
        rotate_left
        · exact absurd (by decide) h_304
        refine am_run 2 (pc' := 105) (ls' := [some (.ref 0), some (.int (nI n)), some (.int (nI (n - c))), some (.int (nI 1)), some (.int (nI i)), some (.int (nI 0))]) (st' := [.int (nI 0), .int (nI (n - c))]) (σ' := σ) rfl ?_
        refine am_if (ty := 112) (tn := 108) rfl (by decide) rfl rfl (fun (h_305 : nI 0 = 0) => ?_) (fun (h_305 : ¬ (nI 0 = 0)) => ?_)
        rotate_left
        · exact absurd (by decide) h_305
        refine am_run 2 (pc' := 114) (ls' := [some (.ref 0), some (.int (nI n)), some (.int (nI (n - c))), some (.int (nI 1)), some (.int (nI i)), some (.int (nI 0))]) (st' := [.int (nI (n - c) - nI 0)]) (σ' := σ) rfl ?_
        refine am_top (v' := nI (n - c)) ((nx_sub (Nat.zero_le _)).trans (by rw [Nat.sub_zero])) ?_
        refine am_run 2 (pc' := 118) (ls' := [some (.ref 0), some (.int (nI n)), some (.int (nI (n - c))), some (.int (nI 1)), some (.int (nI i + nI 1)), some (.int (nI 0))]) (st' := []) (σ' := σ) rfl ?_
        refine am_ls (ls' := [some (.ref 0), some (.int (nI n)), some (.int (nI (n - c))), some (.int (nI 1)), some (.int (nI (i + 1))), some (.int (nI 0))]) (by rw [nI_add]) ?_
        refine am_run 1 (pc' := 7) (ls' := [some (.ref 0), some (.int (nI n)), some (.int (nI (n - c))), some (.int (nI 1)), some (.int (nI (i + 1))), some (.int (nI 0))]) (st' := []) (σ' := σ) rfl ?_
        exact tp_loop hd hT hnn hq hs hn h m (i + 1) 1 c _ (by omega) hnx (by omega)
    · rcases (show u = 1 ∨ u = 0 by omega) with rfl | rfl
      · rw [stp_1 h32] at hnx
        refine am_run 3 (pc' := 13) (ls' := [some (.ref 0), some (.int (nI n)), some (.int (nI (n - c))), some (.int (nI 1)), some (.int (nI i)), v5]) (st' := [.int (σ.1 0 1), .int (nI i)]) (σ' := σ) rfl ?_
        refine am_top (v' := nI L) t2 ?_
        refine am_ic (ty := 16) (tn := 121) rfl (by decide) rfl rfl (fun (h_301 : nI i < nI L) => ?_) (fun (h_301 : ¬ (nI i < nI L)) => ?_)
        rotate_left
        · have h_301 : ¬ (i < L) := fun z => h_301 ((nI_ltI (by omega) (by omega)).mpr z)
          omega
        have h_301 : i < L := (nI_ltI (by omega) (by omega)).mp h_301
        refine am_run 3 (pc' := 22) (ls' := [some (.ref 0), some (.int (nI n)), some (.int (nI (n - c))), some (.int (nI 1)), some (.int (nI i)), v5]) (st' := [.int (nI i), .ref 1]) (σ' := σ) rfl ?_
        refine am_ialdN (n := 120) (v := nI (tx i)) rfl rfl rfl (by omega) (t3 i (by omega)).2 (by decide) ?_
        refine am_run 1 (pc' := 25) (ls' := [some (.ref 0), some (.int (nI n)), some (.int (nI (n - c))), some (.int (nI 1)), some (.int (nI i)), v5]) (st' := [.int (nI 32), .int (nI (tx i))]) (σ' := σ) rfl ?_
        refine am_ic (ty := 49) (tn := 28) rfl (by decide) rfl rfl (fun (h_302 : nI (tx i) = nI 32) => ?_) (fun (h_302 : ¬ (nI (tx i) = nI 32)) => ?_)
        · have h_302 : tx i = 32 := (nI_eq (by omega) (by omega)).mp h_302
          omega
        have h_302 : ¬ (tx i = 32) := fun z => h_302 ((nI_eq (by omega) (by omega)).mpr z)
        refine am_run 1 (pc' := 29) (ls' := [some (.ref 0), some (.int (nI n)), some (.int (nI (n - c))), some (.int (nI 1)), some (.int (nI i)), v5]) (st' := [.int (nI 1)]) (σ' := σ) rfl ?_
        refine am_if (ty := 32) (tn := 49) rfl (by decide) rfl rfl (fun (h_303 : nI 1 = 0) => ?_) (fun (h_303 : ¬ (nI 1 = 0)) => ?_)
        · exact absurd h_303 (by decide)
        refine am_run 5 (pc' := 58) (ls' := [some (.ref 0), some (.int (nI n)), some (.int (nI (n - c))), some (.int (nI 1)), some (.int (nI i)), some (.int (nI 0))]) (st' := [.int (nI i), .ref 1]) (σ' := σ) rfl ?_
        refine am_ialdN (n := 120) (v := nI (tx i)) rfl rfl rfl (by omega) (t3 i (by omega)).2 (by decide) ?_
        refine am_run 1 (pc' := 61) (ls' := [some (.ref 0), some (.int (nI n)), some (.int (nI (n - c))), some (.int (nI 1)), some (.int (nI i)), some (.int (nI 0))]) (st' := [.int (nI 32), .int (nI (tx i))]) (σ' := σ) rfl ?_
        refine am_ic (ty := 64) (tn := 68) rfl (by decide) rfl rfl (fun (h_304 : nI (tx i) = nI 32) => ?_) (fun (h_304 : ¬ (nI (tx i) = nI 32)) => ?_)
        · have h_304 : tx i = 32 := (nI_eq (by omega) (by omega)).mp h_304
          omega
        have h_304 : ¬ (tx i = 32) := fun z => h_304 ((nI_eq (by omega) (by omega)).mpr z)
        refine am_run 3 (pc' := 74) (ls' := [some (.ref 0), some (.int (nI n)), some (.int (nI (n - c))), some (.int (nI 1)), some (.int (nI i)), some (.int (nI 0))]) (st' := [.int (nI i), .ref 1]) (σ' := σ) rfl ?_
        refine am_ialdN (n := 120) (v := nI (tx i)) rfl rfl rfl (by omega) (t3 i (by omega)).2 (by decide) ?_
        refine am_run 1 (pc' := 77) (ls' := [some (.ref 0), some (.int (nI n)), some (.int (nI (n - c))), some (.int (nI 1)), some (.int (nI i)), some (.int (nI 0))]) (st' := [.int (nI 120), .int (nI (tx i))]) (σ' := σ) rfl ?_
        refine am_ic (ty := 80) (tn := 88) rfl (by decide) rfl rfl (fun (h_305 : nI (tx i) = nI 120) => ?_) (fun (h_305 : ¬ (nI (tx i) = nI 120)) => ?_)
        · have h_305 : tx i = 120 := (nI_eq (by omega) (by omega)).mp h_305
          refine am_run 1 (pc' := 81) (ls' := [some (.ref 0), some (.int (nI n)), some (.int (nI (n - c))), some (.int (nI 1)), some (.int (nI i)), some (.int (nI 0))]) (st' := [.int (nI 1)]) (σ' := σ) rfl ?_
          refine am_if (ty := 84) (tn := 88) rfl (by decide) rfl rfl (fun (h_306 : nI 1 = 0) => ?_) (fun (h_306 : ¬ (nI 1 = 0)) => ?_)
          · exact absurd h_306 (by decide)
          refine am_run 3 (pc' := 92) (ls' := [some (.ref 0), some (.int (nI n)), some (.int (nI (n - c))), some (.int (nI 0)), some (.int (nI i)), some (.int (nI 0))]) (st' := [.int (nI 0)]) (σ' := σ) rfl ?_
          refine am_if (ty := 102) (tn := 95) rfl (by decide) rfl rfl (fun (h_307 : nI 0 = 0) => ?_) (fun (h_307 : ¬ (nI 0 = 0)) => ?_)
          rotate_left
          · exact absurd (by decide) h_307
          refine am_run 2 (pc' := 105) (ls' := [some (.ref 0), some (.int (nI n)), some (.int (nI (n - c))), some (.int (nI 0)), some (.int (nI i)), some (.int (nI 0))]) (st' := [.int (nI 0), .int (nI (n - c))]) (σ' := σ) rfl ?_
          refine am_if (ty := 112) (tn := 108) rfl (by decide) rfl rfl (fun (h_308 : nI 0 = 0) => ?_) (fun (h_308 : ¬ (nI 0 = 0)) => ?_)
          rotate_left
          · exact absurd (by decide) h_308
          refine am_run 2 (pc' := 114) (ls' := [some (.ref 0), some (.int (nI n)), some (.int (nI (n - c))), some (.int (nI 0)), some (.int (nI i)), some (.int (nI 0))]) (st' := [.int (nI (n - c) - nI 0)]) (σ' := σ) rfl ?_
          refine am_top (v' := nI (n - c)) ((nx_sub (Nat.zero_le _)).trans (by rw [Nat.sub_zero])) ?_
          refine am_run 2 (pc' := 118) (ls' := [some (.ref 0), some (.int (nI n)), some (.int (nI (n - c))), some (.int (nI 0)), some (.int (nI i + nI 1)), some (.int (nI 0))]) (st' := []) (σ' := σ) rfl ?_
          refine am_ls (ls' := [some (.ref 0), some (.int (nI n)), some (.int (nI (n - c))), some (.int (nI 0)), some (.int (nI (i + 1))), some (.int (nI 0))]) (by rw [nI_add]) ?_
          refine am_run 1 (pc' := 7) (ls' := [some (.ref 0), some (.int (nI n)), some (.int (nI (n - c))), some (.int (nI 0)), some (.int (nI (i + 1))), some (.int (nI 0))]) (st' := []) (σ' := σ) rfl ?_
          exact tp_loop hd hT hnn hq hs hn h m (i + 1) 0 c _ (by omega) hnx (by omega)
        · have h_305 : ¬ (tx i = 120) := fun z => h_305 ((nI_eq (by omega) (by omega)).mpr z)
          refine am_run 3 (pc' := 92) (ls' := [some (.ref 0), some (.int (nI n)), some (.int (nI (n - c))), some (.int (nI 0)), some (.int (nI i)), some (.int (nI 0))]) (st' := [.int (nI 0)]) (σ' := σ) rfl ?_
          refine am_if (ty := 102) (tn := 95) rfl (by decide) rfl rfl (fun (h_309 : nI 0 = 0) => ?_) (fun (h_309 : ¬ (nI 0 = 0)) => ?_)
          rotate_left
          · exact absurd (by decide) h_309
          refine am_run 2 (pc' := 105) (ls' := [some (.ref 0), some (.int (nI n)), some (.int (nI (n - c))), some (.int (nI 0)), some (.int (nI i)), some (.int (nI 0))]) (st' := [.int (nI 0), .int (nI (n - c))]) (σ' := σ) rfl ?_
          refine am_if (ty := 112) (tn := 108) rfl (by decide) rfl rfl (fun (h_310 : nI 0 = 0) => ?_) (fun (h_310 : ¬ (nI 0 = 0)) => ?_)
          rotate_left
          · exact absurd (by decide) h_310
          refine am_run 2 (pc' := 114) (ls' := [some (.ref 0), some (.int (nI n)), some (.int (nI (n - c))), some (.int (nI 0)), some (.int (nI i)), some (.int (nI 0))]) (st' := [.int (nI (n - c) - nI 0)]) (σ' := σ) rfl ?_
          refine am_top (v' := nI (n - c)) ((nx_sub (Nat.zero_le _)).trans (by rw [Nat.sub_zero])) ?_
          refine am_run 2 (pc' := 118) (ls' := [some (.ref 0), some (.int (nI n)), some (.int (nI (n - c))), some (.int (nI 0)), some (.int (nI i + nI 1)), some (.int (nI 0))]) (st' := []) (σ' := σ) rfl ?_
          refine am_ls (ls' := [some (.ref 0), some (.int (nI n)), some (.int (nI (n - c))), some (.int (nI 0)), some (.int (nI (i + 1))), some (.int (nI 0))]) (by rw [nI_add]) ?_
          refine am_run 1 (pc' := 7) (ls' := [some (.ref 0), some (.int (nI n)), some (.int (nI (n - c))), some (.int (nI 0)), some (.int (nI (i + 1))), some (.int (nI 0))]) (st' := []) (σ' := σ) rfl ?_
          exact tp_loop hd hT hnn hq hs hn h m (i + 1) 0 c _ (by omega) hnx (by omega)
      · by_cases hn' : nTb (tx i) = true
        · rw [stp_n h32 hn'] at hnx
          have hc1 : c + 1 ≤ n := by rw [hnx] at hcn; exact hcn
          refine am_run 3 (pc' := 13) (ls' := [some (.ref 0), some (.int (nI n)), some (.int (nI (n - c))), some (.int (nI 0)), some (.int (nI i)), v5]) (st' := [.int (σ.1 0 1), .int (nI i)]) (σ' := σ) rfl ?_
          refine am_top (v' := nI L) t2 ?_
          refine am_ic (ty := 16) (tn := 121) rfl (by decide) rfl rfl (fun (h_301 : nI i < nI L) => ?_) (fun (h_301 : ¬ (nI i < nI L)) => ?_)
          rotate_left
          · have h_301 : ¬ (i < L) := fun z => h_301 ((nI_ltI (by omega) (by omega)).mpr z)
            omega
          have h_301 : i < L := (nI_ltI (by omega) (by omega)).mp h_301
          refine am_run 3 (pc' := 22) (ls' := [some (.ref 0), some (.int (nI n)), some (.int (nI (n - c))), some (.int (nI 0)), some (.int (nI i)), v5]) (st' := [.int (nI i), .ref 1]) (σ' := σ) rfl ?_
          refine am_ialdN (n := 120) (v := nI (tx i)) rfl rfl rfl (by omega) (t3 i (by omega)).2 (by decide) ?_
          refine am_run 1 (pc' := 25) (ls' := [some (.ref 0), some (.int (nI n)), some (.int (nI (n - c))), some (.int (nI 0)), some (.int (nI i)), v5]) (st' := [.int (nI 32), .int (nI (tx i))]) (σ' := σ) rfl ?_
          refine am_ic (ty := 49) (tn := 28) rfl (by decide) rfl rfl (fun (h_302 : nI (tx i) = nI 32) => ?_) (fun (h_302 : ¬ (nI (tx i) = nI 32)) => ?_)
          · have h_302 : tx i = 32 := (nI_eq (by omega) (by omega)).mp h_302
            omega
          have h_302 : ¬ (tx i = 32) := fun z => h_302 ((nI_eq (by omega) (by omega)).mpr z)
          refine am_run 1 (pc' := 29) (ls' := [some (.ref 0), some (.int (nI n)), some (.int (nI (n - c))), some (.int (nI 0)), some (.int (nI i)), v5]) (st' := [.int (nI 0)]) (σ' := σ) rfl ?_
          refine am_if (ty := 32) (tn := 49) rfl (by decide) rfl rfl (fun (h_303 : nI 0 = 0) => ?_) (fun (h_303 : ¬ (nI 0 = 0)) => ?_)
          rotate_left
          · exact absurd (by decide) h_303
          refine am_run 3 (pc' := 38) (ls' := [some (.ref 0), some (.int (nI n)), some (.int (nI (n - c))), some (.int (nI 0)), some (.int (nI i)), v5]) (st' := [.int (nI i), .ref 1]) (σ' := σ) rfl ?_
          refine am_ialdN (n := 120) (v := nI (tx i)) rfl rfl rfl (by omega) (t3 i (by omega)).2 (by decide) ?_
          refine am_invs (y := 179) (as := [.int (nI (tx i))]) (rest := []) rfl rfl rfl rfl rfl rfl (Nat.le_of_ble_eq_true rfl) ?_
          refine c_m_isNT1 (by omega) hn' ?_
          show am_G _ M_X10_tokenPlace _ 42 [some (.ref 0), some (.int (nI n)), some (.int (nI (n - c))), some (.int (nI 0)), some (.int (nI i)), v5] [.int (nI 1)] σ
          refine am_if (ty := 49) (tn := 45) rfl (by decide) rfl rfl (fun (h_304 : nI 1 = 0) => ?_) (fun (h_304 : ¬ (nI 1 = 0)) => ?_)
          · exact absurd h_304 (by decide)
          refine am_run 6 (pc' := 58) (ls' := [some (.ref 0), some (.int (nI n)), some (.int (nI (n - c))), some (.int (nI 0)), some (.int (nI i)), some (.int (nI 1))]) (st' := [.int (nI i), .ref 1]) (σ' := σ) rfl ?_
          refine am_ialdN (n := 120) (v := nI (tx i)) rfl rfl rfl (by omega) (t3 i (by omega)).2 (by decide) ?_
          refine am_run 1 (pc' := 61) (ls' := [some (.ref 0), some (.int (nI n)), some (.int (nI (n - c))), some (.int (nI 0)), some (.int (nI i)), some (.int (nI 1))]) (st' := [.int (nI 32), .int (nI (tx i))]) (σ' := σ) rfl ?_
          refine am_ic (ty := 64) (tn := 68) rfl (by decide) rfl rfl (fun (h_305 : nI (tx i) = nI 32) => ?_) (fun (h_305 : ¬ (nI (tx i) = nI 32)) => ?_)
          · have h_305 : tx i = 32 := (nI_eq (by omega) (by omega)).mp h_305
            omega
          have h_305 : ¬ (tx i = 32) := fun z => h_305 ((nI_eq (by omega) (by omega)).mpr z)
          refine am_run 3 (pc' := 74) (ls' := [some (.ref 0), some (.int (nI n)), some (.int (nI (n - c))), some (.int (nI 0)), some (.int (nI i)), some (.int (nI 1))]) (st' := [.int (nI i), .ref 1]) (σ' := σ) rfl ?_
          refine am_ialdN (n := 120) (v := nI (tx i)) rfl rfl rfl (by omega) (t3 i (by omega)).2 (by decide) ?_
          refine am_run 1 (pc' := 77) (ls' := [some (.ref 0), some (.int (nI n)), some (.int (nI (n - c))), some (.int (nI 0)), some (.int (nI i)), some (.int (nI 1))]) (st' := [.int (nI 120), .int (nI (tx i))]) (σ' := σ) rfl ?_
          refine am_ic (ty := 80) (tn := 88) rfl (by decide) rfl rfl (fun (h_306 : nI (tx i) = nI 120) => ?_) (fun (h_306 : ¬ (nI (tx i) = nI 120)) => ?_)
          · have h_306 : tx i = 120 := (nI_eq (by omega) (by omega)).mp h_306
            refine am_run 1 (pc' := 81) (ls' := [some (.ref 0), some (.int (nI n)), some (.int (nI (n - c))), some (.int (nI 0)), some (.int (nI i)), some (.int (nI 1))]) (st' := [.int (nI 0)]) (σ' := σ) rfl ?_
            refine am_if (ty := 84) (tn := 88) rfl (by decide) rfl rfl (fun (h_307 : nI 0 = 0) => ?_) (fun (h_307 : ¬ (nI 0 = 0)) => ?_)
            rotate_left
            · exact absurd (by decide) h_307
            refine am_run 4 (pc' := 92) (ls' := [some (.ref 0), some (.int (nI n)), some (.int (nI (n - c))), some (.int (nI 1)), some (.int (nI i)), some (.int (nI 1))]) (st' := [.int (nI 1)]) (σ' := σ) rfl ?_
            refine am_if (ty := 102) (tn := 95) rfl (by decide) rfl rfl (fun (h_308 : nI 1 = 0) => ?_) (fun (h_308 : ¬ (nI 1 = 0)) => ?_)
            · exact absurd h_308 (by decide)
            refine am_run 1 (pc' := 96) (ls' := [some (.ref 0), some (.int (nI n)), some (.int (nI (n - c))), some (.int (nI 1)), some (.int (nI i)), some (.int (nI 1))]) (st' := [.int (nI (n - c))]) (σ' := σ) rfl ?_
            refine am_if (ty := 99) (tn := 102) rfl (by decide) rfl rfl (fun (h_309 : nI (n - c) = 0) => ?_) (fun (h_309 : ¬ (nI (n - c) = 0)) => ?_)
            · have h_309 : n - c = 0 := (am_n0 (by omega)).mp h_309
              omega
            have h_309 : ¬ (n - c = 0) := fun z => h_309 ((am_n0 (by omega)).mpr z)
            refine am_run 2 (pc' := 105) (ls' := [some (.ref 0), some (.int (nI n)), some (.int (nI (n - c))), some (.int (nI 1)), some (.int (nI i)), some (.int (nI 1))]) (st' := [.int (nI 1), .int (nI (n - c))]) (σ' := σ) rfl ?_
            refine am_if (ty := 112) (tn := 108) rfl (by decide) rfl rfl (fun (h_310 : nI 1 = 0) => ?_) (fun (h_310 : ¬ (nI 1 = 0)) => ?_)
            · exact absurd h_310 (by decide)
            refine am_run 3 (pc' := 114) (ls' := [some (.ref 0), some (.int (nI n)), some (.int (nI (n - c))), some (.int (nI 1)), some (.int (nI i)), some (.int (nI 1))]) (st' := [.int (nI (n - c) - nI 1)]) (σ' := σ) rfl ?_
            refine am_top (v' := nI (n - (c + 1))) ((nx_sub (by omega)).trans (by rw [Nat.sub_sub])) ?_
            refine am_run 2 (pc' := 118) (ls' := [some (.ref 0), some (.int (nI n)), some (.int (nI (n - (c + 1)))), some (.int (nI 1)), some (.int (nI i + nI 1)), some (.int (nI 1))]) (st' := []) (σ' := σ) rfl ?_
            refine am_ls (ls' := [some (.ref 0), some (.int (nI n)), some (.int (nI (n - (c + 1)))), some (.int (nI 1)), some (.int (nI (i + 1))), some (.int (nI 1))]) (by rw [nI_add]) ?_
            refine am_run 1 (pc' := 7) (ls' := [some (.ref 0), some (.int (nI n)), some (.int (nI (n - (c + 1)))), some (.int (nI 1)), some (.int (nI (i + 1))), some (.int (nI 1))]) (st' := []) (σ' := σ) rfl ?_
            exact tp_loop hd hT hnn hq hs hn h m (i + 1) 1 (c + 1) _ (by omega) (hnx.trans (by rw [if_pos (by omega)])) (by omega)
          · have h_306 : ¬ (tx i = 120) := fun z => h_306 ((nI_eq (by omega) (by omega)).mpr z)
            refine am_run 3 (pc' := 92) (ls' := [some (.ref 0), some (.int (nI n)), some (.int (nI (n - c))), some (.int (nI 0)), some (.int (nI i)), some (.int (nI 1))]) (st' := [.int (nI 1)]) (σ' := σ) rfl ?_
            refine am_if (ty := 102) (tn := 95) rfl (by decide) rfl rfl (fun (h_311 : nI 1 = 0) => ?_) (fun (h_311 : ¬ (nI 1 = 0)) => ?_)
            · exact absurd h_311 (by decide)
            refine am_run 1 (pc' := 96) (ls' := [some (.ref 0), some (.int (nI n)), some (.int (nI (n - c))), some (.int (nI 0)), some (.int (nI i)), some (.int (nI 1))]) (st' := [.int (nI (n - c))]) (σ' := σ) rfl ?_
            refine am_if (ty := 99) (tn := 102) rfl (by decide) rfl rfl (fun (h_312 : nI (n - c) = 0) => ?_) (fun (h_312 : ¬ (nI (n - c) = 0)) => ?_)
            · have h_312 : n - c = 0 := (am_n0 (by omega)).mp h_312
              omega
            have h_312 : ¬ (n - c = 0) := fun z => h_312 ((am_n0 (by omega)).mpr z)
            refine am_run 2 (pc' := 105) (ls' := [some (.ref 0), some (.int (nI n)), some (.int (nI (n - c))), some (.int (nI 0)), some (.int (nI i)), some (.int (nI 1))]) (st' := [.int (nI 1), .int (nI (n - c))]) (σ' := σ) rfl ?_
            refine am_if (ty := 112) (tn := 108) rfl (by decide) rfl rfl (fun (h_313 : nI 1 = 0) => ?_) (fun (h_313 : ¬ (nI 1 = 0)) => ?_)
            · exact absurd h_313 (by decide)
            refine am_run 3 (pc' := 114) (ls' := [some (.ref 0), some (.int (nI n)), some (.int (nI (n - c))), some (.int (nI 0)), some (.int (nI i)), some (.int (nI 1))]) (st' := [.int (nI (n - c) - nI 1)]) (σ' := σ) rfl ?_
            refine am_top (v' := nI (n - (c + 1))) ((nx_sub (by omega)).trans (by rw [Nat.sub_sub])) ?_
            refine am_run 2 (pc' := 118) (ls' := [some (.ref 0), some (.int (nI n)), some (.int (nI (n - (c + 1)))), some (.int (nI 0)), some (.int (nI i + nI 1)), some (.int (nI 1))]) (st' := []) (σ' := σ) rfl ?_
            refine am_ls (ls' := [some (.ref 0), some (.int (nI n)), some (.int (nI (n - (c + 1)))), some (.int (nI 0)), some (.int (nI (i + 1))), some (.int (nI 1))]) (by rw [nI_add]) ?_
            refine am_run 1 (pc' := 7) (ls' := [some (.ref 0), some (.int (nI n)), some (.int (nI (n - (c + 1)))), some (.int (nI 0)), some (.int (nI (i + 1))), some (.int (nI 1))]) (st' := []) (σ' := σ) rfl ?_
            exact tp_loop hd hT hnn hq hs hn h m (i + 1) 0 (c + 1) _ (by omega) (hnx.trans (by rw [if_neg (by omega)])) (by omega)
        · have hn' : nTb (tx i) = false := Bool.eq_false_iff.mpr hn'
          have hno := nT_no hn'
          rw [stp_o h32 hn'] at hnx
          refine am_run 3 (pc' := 13) (ls' := [some (.ref 0), some (.int (nI n)), some (.int (nI (n - c))), some (.int (nI 0)), some (.int (nI i)), v5]) (st' := [.int (σ.1 0 1), .int (nI i)]) (σ' := σ) rfl ?_
          refine am_top (v' := nI L) t2 ?_
          refine am_ic (ty := 16) (tn := 121) rfl (by decide) rfl rfl (fun (h_301 : nI i < nI L) => ?_) (fun (h_301 : ¬ (nI i < nI L)) => ?_)
          rotate_left
          · have h_301 : ¬ (i < L) := fun z => h_301 ((nI_ltI (by omega) (by omega)).mpr z)
            omega
          have h_301 : i < L := (nI_ltI (by omega) (by omega)).mp h_301
          refine am_run 3 (pc' := 22) (ls' := [some (.ref 0), some (.int (nI n)), some (.int (nI (n - c))), some (.int (nI 0)), some (.int (nI i)), v5]) (st' := [.int (nI i), .ref 1]) (σ' := σ) rfl ?_
          refine am_ialdN (n := 120) (v := nI (tx i)) rfl rfl rfl (by omega) (t3 i (by omega)).2 (by decide) ?_
          refine am_run 1 (pc' := 25) (ls' := [some (.ref 0), some (.int (nI n)), some (.int (nI (n - c))), some (.int (nI 0)), some (.int (nI i)), v5]) (st' := [.int (nI 32), .int (nI (tx i))]) (σ' := σ) rfl ?_
          refine am_ic (ty := 49) (tn := 28) rfl (by decide) rfl rfl (fun (h_302 : nI (tx i) = nI 32) => ?_) (fun (h_302 : ¬ (nI (tx i) = nI 32)) => ?_)
          · have h_302 : tx i = 32 := (nI_eq (by omega) (by omega)).mp h_302
            omega
          have h_302 : ¬ (tx i = 32) := fun z => h_302 ((nI_eq (by omega) (by omega)).mpr z)
          refine am_run 1 (pc' := 29) (ls' := [some (.ref 0), some (.int (nI n)), some (.int (nI (n - c))), some (.int (nI 0)), some (.int (nI i)), v5]) (st' := [.int (nI 0)]) (σ' := σ) rfl ?_
          refine am_if (ty := 32) (tn := 49) rfl (by decide) rfl rfl (fun (h_303 : nI 0 = 0) => ?_) (fun (h_303 : ¬ (nI 0 = 0)) => ?_)
          rotate_left
          · exact absurd (by decide) h_303
          refine am_run 3 (pc' := 38) (ls' := [some (.ref 0), some (.int (nI n)), some (.int (nI (n - c))), some (.int (nI 0)), some (.int (nI i)), v5]) (st' := [.int (nI i), .ref 1]) (σ' := σ) rfl ?_
          refine am_ialdN (n := 120) (v := nI (tx i)) rfl rfl rfl (by omega) (t3 i (by omega)).2 (by decide) ?_
          refine am_invs (y := 179) (as := [.int (nI (tx i))]) (rest := []) rfl rfl rfl rfl rfl rfl (Nat.le_of_ble_eq_true rfl) ?_
          refine c_m_isNT0 (by omega) (t3 i (by omega)).1 hn' ?_
          show am_G _ M_X10_tokenPlace _ 42 [some (.ref 0), some (.int (nI n)), some (.int (nI (n - c))), some (.int (nI 0)), some (.int (nI i)), v5] [.int (nI 0)] σ
          refine am_if (ty := 49) (tn := 45) rfl (by decide) rfl rfl (fun (h_304 : nI 0 = 0) => ?_) (fun (h_304 : ¬ (nI 0 = 0)) => ?_)
          rotate_left
          · exact absurd (by decide) h_304
          refine am_run 5 (pc' := 58) (ls' := [some (.ref 0), some (.int (nI n)), some (.int (nI (n - c))), some (.int (nI 0)), some (.int (nI i)), some (.int (nI 0))]) (st' := [.int (nI i), .ref 1]) (σ' := σ) rfl ?_
          refine am_ialdN (n := 120) (v := nI (tx i)) rfl rfl rfl (by omega) (t3 i (by omega)).2 (by decide) ?_
          refine am_run 1 (pc' := 61) (ls' := [some (.ref 0), some (.int (nI n)), some (.int (nI (n - c))), some (.int (nI 0)), some (.int (nI i)), some (.int (nI 0))]) (st' := [.int (nI 32), .int (nI (tx i))]) (σ' := σ) rfl ?_
          refine am_ic (ty := 64) (tn := 68) rfl (by decide) rfl rfl (fun (h_305 : nI (tx i) = nI 32) => ?_) (fun (h_305 : ¬ (nI (tx i) = nI 32)) => ?_)
          · have h_305 : tx i = 32 := (nI_eq (by omega) (by omega)).mp h_305
            omega
          have h_305 : ¬ (tx i = 32) := fun z => h_305 ((nI_eq (by omega) (by omega)).mpr z)
          refine am_run 3 (pc' := 74) (ls' := [some (.ref 0), some (.int (nI n)), some (.int (nI (n - c))), some (.int (nI 0)), some (.int (nI i)), some (.int (nI 0))]) (st' := [.int (nI i), .ref 1]) (σ' := σ) rfl ?_
          refine am_ialdN (n := 120) (v := nI (tx i)) rfl rfl rfl (by omega) (t3 i (by omega)).2 (by decide) ?_
          refine am_run 1 (pc' := 77) (ls' := [some (.ref 0), some (.int (nI n)), some (.int (nI (n - c))), some (.int (nI 0)), some (.int (nI i)), some (.int (nI 0))]) (st' := [.int (nI 120), .int (nI (tx i))]) (σ' := σ) rfl ?_
          refine am_ic (ty := 80) (tn := 88) rfl (by decide) rfl rfl (fun (h_306 : nI (tx i) = nI 120) => ?_) (fun (h_306 : ¬ (nI (tx i) = nI 120)) => ?_)
          · have h_306 : tx i = 120 := (nI_eq (by omega) (by omega)).mp h_306
            omega
          have h_306 : ¬ (tx i = 120) := fun z => h_306 ((nI_eq (by omega) (by omega)).mpr z)
          refine am_run 3 (pc' := 92) (ls' := [some (.ref 0), some (.int (nI n)), some (.int (nI (n - c))), some (.int (nI 0)), some (.int (nI i)), some (.int (nI 0))]) (st' := [.int (nI 0)]) (σ' := σ) rfl ?_
          refine am_if (ty := 102) (tn := 95) rfl (by decide) rfl rfl (fun (h_307 : nI 0 = 0) => ?_) (fun (h_307 : ¬ (nI 0 = 0)) => ?_)
          rotate_left
          · exact absurd (by decide) h_307
          refine am_run 2 (pc' := 105) (ls' := [some (.ref 0), some (.int (nI n)), some (.int (nI (n - c))), some (.int (nI 0)), some (.int (nI i)), some (.int (nI 0))]) (st' := [.int (nI 0), .int (nI (n - c))]) (σ' := σ) rfl ?_
          refine am_if (ty := 112) (tn := 108) rfl (by decide) rfl rfl (fun (h_308 : nI 0 = 0) => ?_) (fun (h_308 : ¬ (nI 0 = 0)) => ?_)
          rotate_left
          · exact absurd (by decide) h_308
          refine am_run 2 (pc' := 114) (ls' := [some (.ref 0), some (.int (nI n)), some (.int (nI (n - c))), some (.int (nI 0)), some (.int (nI i)), some (.int (nI 0))]) (st' := [.int (nI (n - c) - nI 0)]) (σ' := σ) rfl ?_
          refine am_top (v' := nI (n - c)) ((nx_sub (Nat.zero_le _)).trans (by rw [Nat.sub_zero])) ?_
          refine am_run 2 (pc' := 118) (ls' := [some (.ref 0), some (.int (nI n)), some (.int (nI (n - c))), some (.int (nI 0)), some (.int (nI i + nI 1)), some (.int (nI 0))]) (st' := []) (σ' := σ) rfl ?_
          refine am_ls (ls' := [some (.ref 0), some (.int (nI n)), some (.int (nI (n - c))), some (.int (nI 0)), some (.int (nI (i + 1))), some (.int (nI 0))]) (by rw [nI_add]) ?_
          refine am_run 1 (pc' := 7) (ls' := [some (.ref 0), some (.int (nI n)), some (.int (nI (n - c))), some (.int (nI 0)), some (.int (nI (i + 1))), some (.int (nI 0))]) (st' := []) (σ' := σ) rfl ?_
          exact tp_loop hd hT hnn hq hs hn h m (i + 1) 0 c _ (by omega) hnx (by omega)
set_option maxRecDepth 10000 in
set_option maxHeartbeats 2000000 in
theorem c_m_tokenPlace {d : Nat} (hd : 4 ≤ d) {σ : am_M} {L : Nat} {tx : Nat → Nat} (hT : TXm σ L tx) {n q : Nat} (hnn : n < 60) (hq : q < L) (hs : stf tx q = (0, n)) (hn : nTb (tx q) = true) {Q : am_Q} (h : Q (some (.int (nI q))) σ) : am_C d 178 [.ref 0, .int (nI n)] σ Q := by
  refine am_enter' (M := M_X10_tokenPlace) rfl rfl rfl (by omega) (ls := [some (.ref 0), some (.int (nI n)), none, none, none, none]) rfl (fun d' hd' => ?_)
  refine am_run 6 (pc' := 7) (ls' := [some (.ref 0), some (.int (nI n)), some (.int (nI n)), some (.int (nI 0)), some (.int (nI 0)), none]) (st' := []) (σ' := σ) rfl ?_
  exact tp_loop (by omega) hT hnn hq hs hn h q 0 0 0 _ (by omega) rfl (by omega)

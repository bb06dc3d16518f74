theorem big2 {x : Int32} (h : nI 1 < x) : ¬ x < nI 2 := by
  intro z
  rw [Int32.lt_iff_toInt_lt] at h z
  have e1 : (nI 1).toInt = 1 := by decide
  have e2 : (nI 2).toInt = 2 := by decide
  omega
set_option maxRecDepth 10000 in
set_option maxHeartbeats 2000000 in
theorem c_filled_out {d : Nat} (hd : 3 ≤ d) {σ : am_M} {x : Int32} (h : x < 0 ∨ (¬ x < 0 ∧ nI 1 < x)) {Q : am_Q} (hq : Q (some .null) σ) : am_C d 140 [.ref 41, .int x] σ Q := by
  rcases h with hx | ⟨hx0, hx⟩
  · skip
    refine am_enter' (M := M_X9_filledPlace) rfl rfl rfl (by omega) (ls := [some (.ref 41), some (.int x), none]) rfl (fun d' hd' => ?_)
    refine am_run 2 (pc' := 2) (ls' := [some (.ref 41), some (.int x), none]) (st' := [.int x, .ref 41]) (σ' := σ) rfl ?_
    refine am_invv (y := 139) (b := 41) (as := [.int x]) (rest := []) rfl rfl rfl rfl rfl rfl rfl (Nat.le_of_ble_eq_true rfl) ?_
    refine am_enter' rfl rfl rfl (by omega) (ls := [some (.ref 41), some (.int x)]) rfl (fun d_1 hd_1 => ?_)
    refine am_run 1 (pc' := 1) (ls' := [some (.ref 41), some (.int x)]) (st' := [.int x]) (σ' := σ) rfl ?_
    refine am_if (ty := 22) (tn := 4) rfl (by decide) rfl rfl (fun (h_2 : x < 0) => ?_) (fun (h_2 : ¬ (x < 0)) => ?_)
    rotate_left
    · exact absurd hx h_2
    refine am_run 1 (pc' := 23) (ls' := [some (.ref 41), some (.int x)]) (st' := [.null]) (σ' := σ) rfl ?_
    refine am_reta rfl rfl (Or.inl rfl) ?_
    show am_G _ M_X9_filledPlace _ 5 [some (.ref 41), some (.int x), none] [.null] σ
    refine am_run 4 (pc' := 22) (ls' := [some (.ref 41), some (.int x), some (.null)]) (st' := [.null]) (σ' := σ) rfl ?_
    refine am_reta rfl rfl (Or.inl rfl) ?_
    exact hq
  · skip
    refine am_enter' (M := M_X9_filledPlace) rfl rfl rfl (by omega) (ls := [some (.ref 41), some (.int x), none]) rfl (fun d' hd' => ?_)
    refine am_run 2 (pc' := 2) (ls' := [some (.ref 41), some (.int x), none]) (st' := [.int x, .ref 41]) (σ' := σ) rfl ?_
    refine am_invv (y := 139) (b := 41) (as := [.int x]) (rest := []) rfl rfl rfl rfl rfl rfl rfl (Nat.le_of_ble_eq_true rfl) ?_
    refine am_enter' rfl rfl rfl (by omega) (ls := [some (.ref 41), some (.int x)]) rfl (fun d_1 hd_1 => ?_)
    refine am_run 1 (pc' := 1) (ls' := [some (.ref 41), some (.int x)]) (st' := [.int x]) (σ' := σ) rfl ?_
    refine am_if (ty := 22) (tn := 4) rfl (by decide) rfl rfl (fun (h_2 : x < 0) => ?_) (fun (h_2 : ¬ (x < 0)) => ?_)
    · exact absurd h_2 hx0
    refine am_run 4 (pc' := 10) (ls' := [some (.ref 41), some (.int x)]) (st' := [.int (nI 2), .int x]) (σ' := σ) rfl ?_
    refine am_ic (ty := 13) (tn := 22) rfl (by decide) rfl rfl (fun (h_3 : x < nI 2) => ?_) (fun (h_3 : ¬ (x < nI 2)) => ?_)
    · exact absurd h_3 (big2 hx)
    refine am_run 1 (pc' := 23) (ls' := [some (.ref 41), some (.int x)]) (st' := [.null]) (σ' := σ) rfl ?_
    refine am_reta rfl rfl (Or.inl rfl) ?_
    show am_G _ M_X9_filledPlace _ 5 [some (.ref 41), some (.int x), none] [.null] σ
    refine am_run 4 (pc' := 22) (ls' := [some (.ref 41), some (.int x), some (.null)]) (st' := [.null]) (σ' := σ) rfl ?_
    refine am_reta rfl rfl (Or.inl rfl) ?_
    exact hq
set_option maxRecDepth 10000 in
set_option maxHeartbeats 2000000 in
theorem c_filled0_0 {d : Nat} (hd : 3 ≤ d) {σ : am_M} (h : σ.1 73 2 = nI 0) {Q : am_Q} (hq : Q (some .null) σ) : am_C d 140 [.ref 41, .int (nI 0)] σ Q := by
  refine am_enter' (M := M_X9_filledPlace) rfl rfl rfl (by omega) (ls := [some (.ref 41), some (.int (nI 0)), none]) rfl (fun d' hd' => ?_)
  refine am_run 2 (pc' := 2) (ls' := [some (.ref 41), some (.int (nI 0)), none]) (st' := [.int (nI 0), .ref 41]) (σ' := σ) rfl ?_
  refine am_invv (y := 139) (b := 41) (as := [.int (nI 0)]) (rest := []) rfl rfl rfl rfl rfl rfl rfl (Nat.le_of_ble_eq_true rfl) ?_
  refine am_enter' rfl rfl rfl (by omega) (ls := [some (.ref 41), some (.int (nI 0))]) rfl (fun d_1 hd_1 => ?_)
  refine am_run 1 (pc' := 1) (ls' := [some (.ref 41), some (.int (nI 0))]) (st' := [.int (nI 0)]) (σ' := σ) rfl ?_
  refine am_if (ty := 22) (tn := 4) rfl (by decide) rfl rfl (fun (h_2 : nI 0 < 0) => ?_) (fun (h_2 : ¬ (nI 0 < 0)) => ?_)
  · exact absurd h_2 (by decide)
  refine am_run 4 (pc' := 10) (ls' := [some (.ref 41), some (.int (nI 0))]) (st' := [.int (nI 2), .int (nI 0)]) (σ' := σ) rfl ?_
  refine am_ic (ty := 13) (tn := 22) rfl (by decide) rfl rfl (fun (h_3 : nI 0 < nI 2) => ?_) (fun (h_3 : ¬ (nI 0 < nI 2)) => ?_)
  rotate_left
  · exact absurd (by decide) h_3
  refine am_run 3 (pc' := 18) (ls' := [some (.ref 41), some (.int (nI 0))]) (st' := [.int (nI 0), .ref 72]) (σ' := σ) rfl ?_
  refine am_aald (n := 2) rfl rfl rfl (vp_in_nI (by decide) (by decide)) ?_
  refine am_run 0 (pc' := 19) (ls' := [some (.ref 41), some (.int (nI 0))]) (st' := [.ref 73]) (σ' := σ) rfl ?_
  refine am_run 1 (pc' := 23) (ls' := [some (.ref 41), some (.int (nI 0))]) (st' := [.ref 73]) (σ' := σ) rfl ?_
  refine am_reta rfl rfl (Or.inr ⟨_, rfl⟩) ?_
  show am_G _ M_X9_filledPlace _ 5 [some (.ref 41), some (.int (nI 0)), none] [.ref 73] σ
  refine am_run 4 (pc' := 11) (ls' := [some (.ref 41), some (.int (nI 0)), some (.ref 73)]) (st' := [.ref 73]) (σ' := σ) rfl ?_
  refine am_invv (y := 65) (b := 73) (as := []) (rest := []) rfl rfl rfl rfl rfl rfl rfl (Nat.le_of_ble_eq_true rfl) ?_
  refine am_enter' rfl rfl rfl (by omega) (ls := [some (.ref 73)]) rfl (fun d_4 hd_4 => ?_)
  refine am_run 2 (pc' := 4) (ls' := [some (.ref 73)]) (st' := [.int (σ.1 73 2)]) (σ' := σ) rfl ?_
  refine am_top (v' := nI 0) h ?_
  refine am_retz rfl rfl (by decide) ?_
  show am_G _ M_X9_filledPlace _ 14 [some (.ref 41), some (.int (nI 0)), some (.ref 73)] [.int (nI 0)] σ
  refine am_if (ty := 21) (tn := 17) rfl (by decide) rfl rfl (fun (h_5 : nI 0 = 0) => ?_) (fun (h_5 : ¬ (nI 0 = 0)) => ?_)
  rotate_left
  · exact absurd (by decide) h_5
  refine am_run 1 (pc' := 22) (ls' := [some (.ref 41), some (.int (nI 0)), some (.ref 73)]) (st' := [.null]) (σ' := σ) rfl ?_
  refine am_reta rfl rfl (Or.inl rfl) ?_
  exact hq
set_option maxRecDepth 10000 in
set_option maxHeartbeats 2000000 in
theorem c_filled0_1 {d : Nat} (hd : 3 ≤ d) {σ : am_M} (h : σ.1 73 2 = nI 1) {Q : am_Q} (hq : Q (some (.ref 73)) σ) : am_C d 140 [.ref 41, .int (nI 0)] σ Q := by
  refine am_enter' (M := M_X9_filledPlace) rfl rfl rfl (by omega) (ls := [some (.ref 41), some (.int (nI 0)), none]) rfl (fun d' hd' => ?_)
  refine am_run 2 (pc' := 2) (ls' := [some (.ref 41), some (.int (nI 0)), none]) (st' := [.int (nI 0), .ref 41]) (σ' := σ) rfl ?_
  refine am_invv (y := 139) (b := 41) (as := [.int (nI 0)]) (rest := []) rfl rfl rfl rfl rfl rfl rfl (Nat.le_of_ble_eq_true rfl) ?_
  refine am_enter' rfl rfl rfl (by omega) (ls := [some (.ref 41), some (.int (nI 0))]) rfl (fun d_1 hd_1 => ?_)
  refine am_run 1 (pc' := 1) (ls' := [some (.ref 41), some (.int (nI 0))]) (st' := [.int (nI 0)]) (σ' := σ) rfl ?_
  refine am_if (ty := 22) (tn := 4) rfl (by decide) rfl rfl (fun (h_2 : nI 0 < 0) => ?_) (fun (h_2 : ¬ (nI 0 < 0)) => ?_)
  · exact absurd h_2 (by decide)
  refine am_run 4 (pc' := 10) (ls' := [some (.ref 41), some (.int (nI 0))]) (st' := [.int (nI 2), .int (nI 0)]) (σ' := σ) rfl ?_
  refine am_ic (ty := 13) (tn := 22) rfl (by decide) rfl rfl (fun (h_3 : nI 0 < nI 2) => ?_) (fun (h_3 : ¬ (nI 0 < nI 2)) => ?_)
  rotate_left
  · exact absurd (by decide) h_3
  refine am_run 3 (pc' := 18) (ls' := [some (.ref 41), some (.int (nI 0))]) (st' := [.int (nI 0), .ref 72]) (σ' := σ) rfl ?_
  refine am_aald (n := 2) rfl rfl rfl (vp_in_nI (by decide) (by decide)) ?_
  refine am_run 0 (pc' := 19) (ls' := [some (.ref 41), some (.int (nI 0))]) (st' := [.ref 73]) (σ' := σ) rfl ?_
  refine am_run 1 (pc' := 23) (ls' := [some (.ref 41), some (.int (nI 0))]) (st' := [.ref 73]) (σ' := σ) rfl ?_
  refine am_reta rfl rfl (Or.inr ⟨_, rfl⟩) ?_
  show am_G _ M_X9_filledPlace _ 5 [some (.ref 41), some (.int (nI 0)), none] [.ref 73] σ
  refine am_run 4 (pc' := 11) (ls' := [some (.ref 41), some (.int (nI 0)), some (.ref 73)]) (st' := [.ref 73]) (σ' := σ) rfl ?_
  refine am_invv (y := 65) (b := 73) (as := []) (rest := []) rfl rfl rfl rfl rfl rfl rfl (Nat.le_of_ble_eq_true rfl) ?_
  refine am_enter' rfl rfl rfl (by omega) (ls := [some (.ref 73)]) rfl (fun d_4 hd_4 => ?_)
  refine am_run 2 (pc' := 4) (ls' := [some (.ref 73)]) (st' := [.int (σ.1 73 2)]) (σ' := σ) rfl ?_
  refine am_top (v' := nI 1) h ?_
  refine am_retz rfl rfl (by decide) ?_
  show am_G _ M_X9_filledPlace _ 14 [some (.ref 41), some (.int (nI 0)), some (.ref 73)] [.int (nI 1)] σ
  refine am_if (ty := 21) (tn := 17) rfl (by decide) rfl rfl (fun (h_5 : nI 1 = 0) => ?_) (fun (h_5 : ¬ (nI 1 = 0)) => ?_)
  · exact absurd h_5 (by decide)
  refine am_run 2 (pc' := 22) (ls' := [some (.ref 41), some (.int (nI 0)), some (.ref 73)]) (st' := [.ref 73]) (σ' := σ) rfl ?_
  refine am_reta rfl rfl (Or.inr ⟨_, rfl⟩) ?_
  exact hq
set_option maxRecDepth 10000 in
set_option maxHeartbeats 2000000 in
theorem c_filled1_0 {d : Nat} (hd : 3 ≤ d) {σ : am_M} (h : σ.1 75 2 = nI 0) {Q : am_Q} (hq : Q (some .null) σ) : am_C d 140 [.ref 41, .int (nI 1)] σ Q := by
  refine am_enter' (M := M_X9_filledPlace) rfl rfl rfl (by omega) (ls := [some (.ref 41), some (.int (nI 1)), none]) rfl (fun d' hd' => ?_)
  refine am_run 2 (pc' := 2) (ls' := [some (.ref 41), some (.int (nI 1)), none]) (st' := [.int (nI 1), .ref 41]) (σ' := σ) rfl ?_
  refine am_invv (y := 139) (b := 41) (as := [.int (nI 1)]) (rest := []) rfl rfl rfl rfl rfl rfl rfl (Nat.le_of_ble_eq_true rfl) ?_
  refine am_enter' rfl rfl rfl (by omega) (ls := [some (.ref 41), some (.int (nI 1))]) rfl (fun d_1 hd_1 => ?_)
  refine am_run 1 (pc' := 1) (ls' := [some (.ref 41), some (.int (nI 1))]) (st' := [.int (nI 1)]) (σ' := σ) rfl ?_
  refine am_if (ty := 22) (tn := 4) rfl (by decide) rfl rfl (fun (h_2 : nI 1 < 0) => ?_) (fun (h_2 : ¬ (nI 1 < 0)) => ?_)
  · exact absurd h_2 (by decide)
  refine am_run 4 (pc' := 10) (ls' := [some (.ref 41), some (.int (nI 1))]) (st' := [.int (nI 2), .int (nI 1)]) (σ' := σ) rfl ?_
  refine am_ic (ty := 13) (tn := 22) rfl (by decide) rfl rfl (fun (h_3 : nI 1 < nI 2) => ?_) (fun (h_3 : ¬ (nI 1 < nI 2)) => ?_)
  rotate_left
  · exact absurd (by decide) h_3
  refine am_run 3 (pc' := 18) (ls' := [some (.ref 41), some (.int (nI 1))]) (st' := [.int (nI 1), .ref 72]) (σ' := σ) rfl ?_
  refine am_aald (n := 2) rfl rfl rfl (vp_in_nI (by decide) (by decide)) ?_
  refine am_run 0 (pc' := 19) (ls' := [some (.ref 41), some (.int (nI 1))]) (st' := [.ref 75]) (σ' := σ) rfl ?_
  refine am_run 1 (pc' := 23) (ls' := [some (.ref 41), some (.int (nI 1))]) (st' := [.ref 75]) (σ' := σ) rfl ?_
  refine am_reta rfl rfl (Or.inr ⟨_, rfl⟩) ?_
  show am_G _ M_X9_filledPlace _ 5 [some (.ref 41), some (.int (nI 1)), none] [.ref 75] σ
  refine am_run 4 (pc' := 11) (ls' := [some (.ref 41), some (.int (nI 1)), some (.ref 75)]) (st' := [.ref 75]) (σ' := σ) rfl ?_
  refine am_invv (y := 65) (b := 75) (as := []) (rest := []) rfl rfl rfl rfl rfl rfl rfl (Nat.le_of_ble_eq_true rfl) ?_
  refine am_enter' rfl rfl rfl (by omega) (ls := [some (.ref 75)]) rfl (fun d_4 hd_4 => ?_)
  refine am_run 2 (pc' := 4) (ls' := [some (.ref 75)]) (st' := [.int (σ.1 75 2)]) (σ' := σ) rfl ?_
  refine am_top (v' := nI 0) h ?_
  refine am_retz rfl rfl (by decide) ?_
  show am_G _ M_X9_filledPlace _ 14 [some (.ref 41), some (.int (nI 1)), some (.ref 75)] [.int (nI 0)] σ
  refine am_if (ty := 21) (tn := 17) rfl (by decide) rfl rfl (fun (h_5 : nI 0 = 0) => ?_) (fun (h_5 : ¬ (nI 0 = 0)) => ?_)
  rotate_left
  · exact absurd (by decide) h_5
  refine am_run 1 (pc' := 22) (ls' := [some (.ref 41), some (.int (nI 1)), some (.ref 75)]) (st' := [.null]) (σ' := σ) rfl ?_
  refine am_reta rfl rfl (Or.inl rfl) ?_
  exact hq
set_option maxRecDepth 10000 in
set_option maxHeartbeats 2000000 in
theorem c_filled1_1 {d : Nat} (hd : 3 ≤ d) {σ : am_M} (h : σ.1 75 2 = nI 1) {Q : am_Q} (hq : Q (some (.ref 75)) σ) : am_C d 140 [.ref 41, .int (nI 1)] σ Q := by
  refine am_enter' (M := M_X9_filledPlace) rfl rfl rfl (by omega) (ls := [some (.ref 41), some (.int (nI 1)), none]) rfl (fun d' hd' => ?_)
  refine am_run 2 (pc' := 2) (ls' := [some (.ref 41), some (.int (nI 1)), none]) (st' := [.int (nI 1), .ref 41]) (σ' := σ) rfl ?_
  refine am_invv (y := 139) (b := 41) (as := [.int (nI 1)]) (rest := []) rfl rfl rfl rfl rfl rfl rfl (Nat.le_of_ble_eq_true rfl) ?_
  refine am_enter' rfl rfl rfl (by omega) (ls := [some (.ref 41), some (.int (nI 1))]) rfl (fun d_1 hd_1 => ?_)
  refine am_run 1 (pc' := 1) (ls' := [some (.ref 41), some (.int (nI 1))]) (st' := [.int (nI 1)]) (σ' := σ) rfl ?_
  refine am_if (ty := 22) (tn := 4) rfl (by decide) rfl rfl (fun (h_2 : nI 1 < 0) => ?_) (fun (h_2 : ¬ (nI 1 < 0)) => ?_)
  · exact absurd h_2 (by decide)
  refine am_run 4 (pc' := 10) (ls' := [some (.ref 41), some (.int (nI 1))]) (st' := [.int (nI 2), .int (nI 1)]) (σ' := σ) rfl ?_
  refine am_ic (ty := 13) (tn := 22) rfl (by decide) rfl rfl (fun (h_3 : nI 1 < nI 2) => ?_) (fun (h_3 : ¬ (nI 1 < nI 2)) => ?_)
  rotate_left
  · exact absurd (by decide) h_3
  refine am_run 3 (pc' := 18) (ls' := [some (.ref 41), some (.int (nI 1))]) (st' := [.int (nI 1), .ref 72]) (σ' := σ) rfl ?_
  refine am_aald (n := 2) rfl rfl rfl (vp_in_nI (by decide) (by decide)) ?_
  refine am_run 0 (pc' := 19) (ls' := [some (.ref 41), some (.int (nI 1))]) (st' := [.ref 75]) (σ' := σ) rfl ?_
  refine am_run 1 (pc' := 23) (ls' := [some (.ref 41), some (.int (nI 1))]) (st' := [.ref 75]) (σ' := σ) rfl ?_
  refine am_reta rfl rfl (Or.inr ⟨_, rfl⟩) ?_
  show am_G _ M_X9_filledPlace _ 5 [some (.ref 41), some (.int (nI 1)), none] [.ref 75] σ
  refine am_run 4 (pc' := 11) (ls' := [some (.ref 41), some (.int (nI 1)), some (.ref 75)]) (st' := [.ref 75]) (σ' := σ) rfl ?_
  refine am_invv (y := 65) (b := 75) (as := []) (rest := []) rfl rfl rfl rfl rfl rfl rfl (Nat.le_of_ble_eq_true rfl) ?_
  refine am_enter' rfl rfl rfl (by omega) (ls := [some (.ref 75)]) rfl (fun d_4 hd_4 => ?_)
  refine am_run 2 (pc' := 4) (ls' := [some (.ref 75)]) (st' := [.int (σ.1 75 2)]) (σ' := σ) rfl ?_
  refine am_top (v' := nI 1) h ?_
  refine am_retz rfl rfl (by decide) ?_
  show am_G _ M_X9_filledPlace _ 14 [some (.ref 41), some (.int (nI 1)), some (.ref 75)] [.int (nI 1)] σ
  refine am_if (ty := 21) (tn := 17) rfl (by decide) rfl rfl (fun (h_5 : nI 1 = 0) => ?_) (fun (h_5 : ¬ (nI 1 = 0)) => ?_)
  · exact absurd h_5 (by decide)
  refine am_run 2 (pc' := 22) (ls' := [some (.ref 41), some (.int (nI 1)), some (.ref 75)]) (st' := [.ref 75]) (σ' := σ) rfl ?_
  refine am_reta rfl rfl (Or.inr ⟨_, rfl⟩) ?_
  exact hq
set_option maxRecDepth 10000 in
set_option maxHeartbeats 2000000 in
theorem c_prog_out {d : Nat} (hd : 3 ≤ d) {σ : am_M} {x : Int32} (h : x < 0 ∨ (¬ x < 0 ∧ nI 1 < x)) {Q : am_Q} (hq : Q (some (.int (nI 0))) σ) : am_C d 151 [.ref 0, .int x] σ Q := by
  rcases h with hx | ⟨hx0, hx⟩
  · skip
    refine am_enter' (M := M_X10_isProgram) rfl rfl rfl (by omega) (ls := [some (.ref 0), some (.int x)]) rfl (fun d' hd' => ?_)
    refine am_run 3 (pc' := 3) (ls' := [some (.ref 0), some (.int x)]) (st' := [.int (nI 1), .int (nI 0), .int x]) (σ' := σ) rfl ?_
    refine am_invs (y := 148) (as := [.int x, .int (nI 0), .int (nI 1)]) (rest := []) rfl rfl rfl rfl rfl rfl (Nat.le_of_ble_eq_true rfl) ?_
    refine am_enter' rfl rfl rfl (by omega) (ls := [some (.int x), some (.int (nI 0)), some (.int (nI 1))]) rfl (fun d_1 hd_1 => ?_)
    refine am_run 2 (pc' := 2) (ls' := [some (.int x), some (.int (nI 0)), some (.int (nI 1))]) (st' := [.int (nI 0), .int x]) (σ' := σ) rfl ?_
    refine am_ic (ty := 14) (tn := 5) rfl (by decide) rfl rfl (fun (h_2 : x < nI 0) => ?_) (fun (h_2 : ¬ (x < nI 0)) => ?_)
    rotate_left
    · exact absurd hx h_2
    refine am_run 1 (pc' := 15) (ls' := [some (.int x), some (.int (nI 0)), some (.int (nI 1))]) (st' := [.int (nI 0)]) (σ' := σ) rfl ?_
    refine am_retz rfl rfl (by decide) ?_
    show am_G _ M_X10_isProgram _ 6 [some (.ref 0), some (.int x)] [.int (nI 0)] σ
    refine am_if (ty := 22) (tn := 9) rfl (by decide) rfl rfl (fun (h_3 : nI 0 = 0) => ?_) (fun (h_3 : ¬ (nI 0 = 0)) => ?_)
    rotate_left
    · exact absurd (by decide) h_3
    refine am_run 1 (pc' := 23) (ls' := [some (.ref 0), some (.int x)]) (st' := [.int (nI 0)]) (σ' := σ) rfl ?_
    refine am_retz rfl rfl (by decide) ?_
    exact hq
  · skip
    refine am_enter' (M := M_X10_isProgram) rfl rfl rfl (by omega) (ls := [some (.ref 0), some (.int x)]) rfl (fun d' hd' => ?_)
    refine am_run 3 (pc' := 3) (ls' := [some (.ref 0), some (.int x)]) (st' := [.int (nI 1), .int (nI 0), .int x]) (σ' := σ) rfl ?_
    refine am_invs (y := 148) (as := [.int x, .int (nI 0), .int (nI 1)]) (rest := []) rfl rfl rfl rfl rfl rfl (Nat.le_of_ble_eq_true rfl) ?_
    refine am_enter' rfl rfl rfl (by omega) (ls := [some (.int x), some (.int (nI 0)), some (.int (nI 1))]) rfl (fun d_1 hd_1 => ?_)
    refine am_run 2 (pc' := 2) (ls' := [some (.int x), some (.int (nI 0)), some (.int (nI 1))]) (st' := [.int (nI 0), .int x]) (σ' := σ) rfl ?_
    refine am_ic (ty := 14) (tn := 5) rfl (by decide) rfl rfl (fun (h_2 : x < nI 0) => ?_) (fun (h_2 : ¬ (x < nI 0)) => ?_)
    · exact absurd h_2 hx0
    refine am_run 2 (pc' := 7) (ls' := [some (.int x), some (.int (nI 0)), some (.int (nI 1))]) (st' := [.int (nI 1), .int x]) (σ' := σ) rfl ?_
    refine am_ic (ty := 14) (tn := 10) rfl (by decide) rfl rfl (fun (h_3 : nI 1 < x) => ?_) (fun (h_3 : ¬ (nI 1 < x)) => ?_)
    rotate_left
    · exact absurd hx h_3
    refine am_run 1 (pc' := 15) (ls' := [some (.int x), some (.int (nI 0)), some (.int (nI 1))]) (st' := [.int (nI 0)]) (σ' := σ) rfl ?_
    refine am_retz rfl rfl (by decide) ?_
    show am_G _ M_X10_isProgram _ 6 [some (.ref 0), some (.int x)] [.int (nI 0)] σ
    refine am_if (ty := 22) (tn := 9) rfl (by decide) rfl rfl (fun (h_4 : nI 0 = 0) => ?_) (fun (h_4 : ¬ (nI 0 = 0)) => ?_)
    rotate_left
    · exact absurd (by decide) h_4
    refine am_run 1 (pc' := 23) (ls' := [some (.ref 0), some (.int x)]) (st' := [.int (nI 0)]) (σ' := σ) rfl ?_
    refine am_retz rfl rfl (by decide) ?_
    exact hq
set_option maxRecDepth 10000 in
set_option maxHeartbeats 2000000 in
theorem c_prog0_0 {d : Nat} (hd : 3 ≤ d) {σ : am_M} (h : σ.1 2 0 = nI 0) {Q : am_Q} (hq : Q (some (.int (nI 0))) σ) : am_C d 151 [.ref 0, .int (nI 0)] σ Q := by
  refine am_enter' (M := M_X10_isProgram) rfl rfl rfl (by omega) (ls := [some (.ref 0), some (.int (nI 0))]) rfl (fun d' hd' => ?_)
  refine am_run 3 (pc' := 3) (ls' := [some (.ref 0), some (.int (nI 0))]) (st' := [.int (nI 1), .int (nI 0), .int (nI 0)]) (σ' := σ) rfl ?_
  refine am_invs (y := 148) (as := [.int (nI 0), .int (nI 0), .int (nI 1)]) (rest := []) rfl rfl rfl rfl rfl rfl (Nat.le_of_ble_eq_true rfl) ?_
  refine am_enter' rfl rfl rfl (by omega) (ls := [some (.int (nI 0)), some (.int (nI 0)), some (.int (nI 1))]) rfl (fun d_1 hd_1 => ?_)
  refine am_run 2 (pc' := 2) (ls' := [some (.int (nI 0)), some (.int (nI 0)), some (.int (nI 1))]) (st' := [.int (nI 0), .int (nI 0)]) (σ' := σ) rfl ?_
  refine am_ic (ty := 14) (tn := 5) rfl (by decide) rfl rfl (fun (h_2 : nI 0 < nI 0) => ?_) (fun (h_2 : ¬ (nI 0 < nI 0)) => ?_)
  · exact absurd h_2 (by decide)
  refine am_run 2 (pc' := 7) (ls' := [some (.int (nI 0)), some (.int (nI 0)), some (.int (nI 1))]) (st' := [.int (nI 1), .int (nI 0)]) (σ' := σ) rfl ?_
  refine am_ic (ty := 14) (tn := 10) rfl (by decide) rfl rfl (fun (h_3 : nI 1 < nI 0) => ?_) (fun (h_3 : ¬ (nI 1 < nI 0)) => ?_)
  · exact absurd h_3 (by decide)
  refine am_run 2 (pc' := 15) (ls' := [some (.int (nI 0)), some (.int (nI 0)), some (.int (nI 1))]) (st' := [.int (nI 1)]) (σ' := σ) rfl ?_
  refine am_retz rfl rfl (by decide) ?_
  show am_G _ M_X10_isProgram _ 6 [some (.ref 0), some (.int (nI 0))] [.int (nI 1)] σ
  refine am_if (ty := 22) (tn := 9) rfl (by decide) rfl rfl (fun (h_4 : nI 1 = 0) => ?_) (fun (h_4 : ¬ (nI 1 = 0)) => ?_)
  · exact absurd h_4 (by decide)
  refine am_run 3 (pc' := 14) (ls' := [some (.ref 0), some (.int (nI 0))]) (st' := [.int (nI 0), .ref 2]) (σ' := σ) rfl ?_
  refine am_ialdN (n := 3) (v := nI 0) rfl rfl rfl (by decide) h (by decide) ?_
  refine am_if (ty := 18) (tn := 22) rfl (by decide) rfl rfl (fun (h_5 : 0 < nI 0) => ?_) (fun (h_5 : ¬ (0 < nI 0)) => ?_)
  · exact absurd h_5 (by decide)
  refine am_run 1 (pc' := 23) (ls' := [some (.ref 0), some (.int (nI 0))]) (st' := [.int (nI 0)]) (σ' := σ) rfl ?_
  refine am_retz rfl rfl (by decide) ?_
  exact hq
set_option maxRecDepth 10000 in
set_option maxHeartbeats 2000000 in
theorem c_prog0_1 {d : Nat} (hd : 3 ≤ d) {σ : am_M} {n : Nat} (h : σ.1 2 0 = nI n) (hn : 1 ≤ n) (hn60 : n ≤ 60) {Q : am_Q} (hq : Q (some (.int (nI 1))) σ) : am_C d 151 [.ref 0, .int (nI 0)] σ Q := by
  refine am_enter' (M := M_X10_isProgram) rfl rfl rfl (by omega) (ls := [some (.ref 0), some (.int (nI 0))]) rfl (fun d' hd' => ?_)
  refine am_run 3 (pc' := 3) (ls' := [some (.ref 0), some (.int (nI 0))]) (st' := [.int (nI 1), .int (nI 0), .int (nI 0)]) (σ' := σ) rfl ?_
  refine am_invs (y := 148) (as := [.int (nI 0), .int (nI 0), .int (nI 1)]) (rest := []) rfl rfl rfl rfl rfl rfl (Nat.le_of_ble_eq_true rfl) ?_
  refine am_enter' rfl rfl rfl (by omega) (ls := [some (.int (nI 0)), some (.int (nI 0)), some (.int (nI 1))]) rfl (fun d_1 hd_1 => ?_)
  refine am_run 2 (pc' := 2) (ls' := [some (.int (nI 0)), some (.int (nI 0)), some (.int (nI 1))]) (st' := [.int (nI 0), .int (nI 0)]) (σ' := σ) rfl ?_
  refine am_ic (ty := 14) (tn := 5) rfl (by decide) rfl rfl (fun (h_2 : nI 0 < nI 0) => ?_) (fun (h_2 : ¬ (nI 0 < nI 0)) => ?_)
  · exact absurd h_2 (by decide)
  refine am_run 2 (pc' := 7) (ls' := [some (.int (nI 0)), some (.int (nI 0)), some (.int (nI 1))]) (st' := [.int (nI 1), .int (nI 0)]) (σ' := σ) rfl ?_
  refine am_ic (ty := 14) (tn := 10) rfl (by decide) rfl rfl (fun (h_3 : nI 1 < nI 0) => ?_) (fun (h_3 : ¬ (nI 1 < nI 0)) => ?_)
  · exact absurd h_3 (by decide)
  refine am_run 2 (pc' := 15) (ls' := [some (.int (nI 0)), some (.int (nI 0)), some (.int (nI 1))]) (st' := [.int (nI 1)]) (σ' := σ) rfl ?_
  refine am_retz rfl rfl (by decide) ?_
  show am_G _ M_X10_isProgram _ 6 [some (.ref 0), some (.int (nI 0))] [.int (nI 1)] σ
  refine am_if (ty := 22) (tn := 9) rfl (by decide) rfl rfl (fun (h_4 : nI 1 = 0) => ?_) (fun (h_4 : ¬ (nI 1 = 0)) => ?_)
  · exact absurd h_4 (by decide)
  refine am_run 3 (pc' := 14) (ls' := [some (.ref 0), some (.int (nI 0))]) (st' := [.int (nI 0), .ref 2]) (σ' := σ) rfl ?_
  refine am_ialdN (n := 3) (v := nI n) rfl rfl rfl (by decide) h (by decide) ?_
  refine am_if (ty := 18) (tn := 22) rfl (by decide) rfl rfl (fun (h_5 : 0 < nI n) => ?_) (fun (h_5 : ¬ (0 < nI n)) => ?_)
  rotate_left
  · have h_5 : ¬ (0 < n) := fun z => h_5 ((am_0ltn (by omega)).mpr z)
    omega
  have h_5 : 0 < n := (am_0ltn (by omega)).mp h_5
  refine am_run 2 (pc' := 23) (ls' := [some (.ref 0), some (.int (nI 0))]) (st' := [.int (nI 1)]) (σ' := σ) rfl ?_
  refine am_retz rfl rfl (by decide) ?_
  exact hq
set_option maxRecDepth 10000 in
set_option maxHeartbeats 2000000 in
theorem c_prog1_0 {d : Nat} (hd : 3 ≤ d) {σ : am_M} (h : σ.1 2 1 = nI 0) {Q : am_Q} (hq : Q (some (.int (nI 0))) σ) : am_C d 151 [.ref 0, .int (nI 1)] σ Q := by
  refine am_enter' (M := M_X10_isProgram) rfl rfl rfl (by omega) (ls := [some (.ref 0), some (.int (nI 1))]) rfl (fun d' hd' => ?_)
  refine am_run 3 (pc' := 3) (ls' := [some (.ref 0), some (.int (nI 1))]) (st' := [.int (nI 1), .int (nI 0), .int (nI 1)]) (σ' := σ) rfl ?_
  refine am_invs (y := 148) (as := [.int (nI 1), .int (nI 0), .int (nI 1)]) (rest := []) rfl rfl rfl rfl rfl rfl (Nat.le_of_ble_eq_true rfl) ?_
  refine am_enter' rfl rfl rfl (by omega) (ls := [some (.int (nI 1)), some (.int (nI 0)), some (.int (nI 1))]) rfl (fun d_1 hd_1 => ?_)
  refine am_run 2 (pc' := 2) (ls' := [some (.int (nI 1)), some (.int (nI 0)), some (.int (nI 1))]) (st' := [.int (nI 0), .int (nI 1)]) (σ' := σ) rfl ?_
  refine am_ic (ty := 14) (tn := 5) rfl (by decide) rfl rfl (fun (h_2 : nI 1 < nI 0) => ?_) (fun (h_2 : ¬ (nI 1 < nI 0)) => ?_)
  · exact absurd h_2 (by decide)
  refine am_run 2 (pc' := 7) (ls' := [some (.int (nI 1)), some (.int (nI 0)), some (.int (nI 1))]) (st' := [.int (nI 1), .int (nI 1)]) (σ' := σ) rfl ?_
  refine am_ic (ty := 14) (tn := 10) rfl (by decide) rfl rfl (fun (h_3 : nI 1 < nI 1) => ?_) (fun (h_3 : ¬ (nI 1 < nI 1)) => ?_)
  · exact absurd h_3 (by decide)
  refine am_run 2 (pc' := 15) (ls' := [some (.int (nI 1)), some (.int (nI 0)), some (.int (nI 1))]) (st' := [.int (nI 1)]) (σ' := σ) rfl ?_
  refine am_retz rfl rfl (by decide) ?_
  show am_G _ M_X10_isProgram _ 6 [some (.ref 0), some (.int (nI 1))] [.int (nI 1)] σ
  refine am_if (ty := 22) (tn := 9) rfl (by decide) rfl rfl (fun (h_4 : nI 1 = 0) => ?_) (fun (h_4 : ¬ (nI 1 = 0)) => ?_)
  · exact absurd h_4 (by decide)
  refine am_run 3 (pc' := 14) (ls' := [some (.ref 0), some (.int (nI 1))]) (st' := [.int (nI 1), .ref 2]) (σ' := σ) rfl ?_
  refine am_ialdN (n := 3) (v := nI 0) rfl rfl rfl (by decide) h (by decide) ?_
  refine am_if (ty := 18) (tn := 22) rfl (by decide) rfl rfl (fun (h_5 : 0 < nI 0) => ?_) (fun (h_5 : ¬ (0 < nI 0)) => ?_)
  · exact absurd h_5 (by decide)
  refine am_run 1 (pc' := 23) (ls' := [some (.ref 0), some (.int (nI 1))]) (st' := [.int (nI 0)]) (σ' := σ) rfl ?_
  refine am_retz rfl rfl (by decide) ?_
  exact hq
set_option maxRecDepth 10000 in
set_option maxHeartbeats 2000000 in
theorem c_prog1_1 {d : Nat} (hd : 3 ≤ d) {σ : am_M} {n : Nat} (h : σ.1 2 1 = nI n) (hn : 1 ≤ n) (hn60 : n ≤ 60) {Q : am_Q} (hq : Q (some (.int (nI 1))) σ) : am_C d 151 [.ref 0, .int (nI 1)] σ Q := by
  refine am_enter' (M := M_X10_isProgram) rfl rfl rfl (by omega) (ls := [some (.ref 0), some (.int (nI 1))]) rfl (fun d' hd' => ?_)
  refine am_run 3 (pc' := 3) (ls' := [some (.ref 0), some (.int (nI 1))]) (st' := [.int (nI 1), .int (nI 0), .int (nI 1)]) (σ' := σ) rfl ?_
  refine am_invs (y := 148) (as := [.int (nI 1), .int (nI 0), .int (nI 1)]) (rest := []) rfl rfl rfl rfl rfl rfl (Nat.le_of_ble_eq_true rfl) ?_
  refine am_enter' rfl rfl rfl (by omega) (ls := [some (.int (nI 1)), some (.int (nI 0)), some (.int (nI 1))]) rfl (fun d_1 hd_1 => ?_)
  refine am_run 2 (pc' := 2) (ls' := [some (.int (nI 1)), some (.int (nI 0)), some (.int (nI 1))]) (st' := [.int (nI 0), .int (nI 1)]) (σ' := σ) rfl ?_
  refine am_ic (ty := 14) (tn := 5) rfl (by decide) rfl rfl (fun (h_2 : nI 1 < nI 0) => ?_) (fun (h_2 : ¬ (nI 1 < nI 0)) => ?_)
  · exact absurd h_2 (by decide)
  refine am_run 2 (pc' := 7) (ls' := [some (.int (nI 1)), some (.int (nI 0)), some (.int (nI 1))]) (st' := [.int (nI 1), .int (nI 1)]) (σ' := σ) rfl ?_
  refine am_ic (ty := 14) (tn := 10) rfl (by decide) rfl rfl (fun (h_3 : nI 1 < nI 1) => ?_) (fun (h_3 : ¬ (nI 1 < nI 1)) => ?_)
  · exact absurd h_3 (by decide)
  refine am_run 2 (pc' := 15) (ls' := [some (.int (nI 1)), some (.int (nI 0)), some (.int (nI 1))]) (st' := [.int (nI 1)]) (σ' := σ) rfl ?_
  refine am_retz rfl rfl (by decide) ?_
  show am_G _ M_X10_isProgram _ 6 [some (.ref 0), some (.int (nI 1))] [.int (nI 1)] σ
  refine am_if (ty := 22) (tn := 9) rfl (by decide) rfl rfl (fun (h_4 : nI 1 = 0) => ?_) (fun (h_4 : ¬ (nI 1 = 0)) => ?_)
  · exact absurd h_4 (by decide)
  refine am_run 3 (pc' := 14) (ls' := [some (.ref 0), some (.int (nI 1))]) (st' := [.int (nI 1), .ref 2]) (σ' := σ) rfl ?_
  refine am_ialdN (n := 3) (v := nI n) rfl rfl rfl (by decide) h (by decide) ?_
  refine am_if (ty := 18) (tn := 22) rfl (by decide) rfl rfl (fun (h_5 : 0 < nI n) => ?_) (fun (h_5 : ¬ (0 < nI n)) => ?_)
  rotate_left
  · have h_5 : ¬ (0 < n) := fun z => h_5 ((am_0ltn (by omega)).mpr z)
    omega
  have h_5 : 0 < n := (am_0ltn (by omega)).mp h_5
  refine am_run 2 (pc' := 23) (ls' := [some (.ref 0), some (.int (nI 1))]) (st' := [.int (nI 1)]) (σ' := σ) rfl ?_
  refine am_retz rfl rfl (by decide) ?_
  exact hq

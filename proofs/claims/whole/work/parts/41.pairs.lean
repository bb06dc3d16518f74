set_option maxRecDepth 10000 in
set_option maxHeartbeats 2000000 in
theorem pr_fault {d : Nat} (hd : 20 ≤ d) {σ : am_M} (hI : Inv σ) : PR d 125 183 [] σ := by
  refine ⟨σ.1 41 7, ?_⟩
  refine am_enter' (M := M_X9_fault) rfl rfl rfl (by omega) (ls := [some (.ref 41)]) rfl (fun d' hd' => ?_)
  refine am_run 2 (pc' := 4) (ls' := [some (.ref 41)]) (st' := [.int (σ.1 41 7)]) (σ' := σ) rfl ?_
  refine am_reti rfl rfl ?_
  refine ⟨rfl, ?_⟩
  refine am_enter' (M := M_X10_fault) rfl rfl rfl (by omega) (ls := [some (.ref 0)]) rfl (fun d2 hd2 => ?_)
  refine am_run 2 (pc' := 4) (ls' := [some (.ref 0)]) (st' := [.int (σ.1 0 2)]) (σ' := σ) rfl ?_
  refine am_reti rfl rfl ?_
  exact ⟨by rw [hI.2.1], hI⟩
set_option maxRecDepth 10000 in
set_option maxHeartbeats 2000000 in
theorem pr_erase {d : Nat} (hd : 20 ≤ d) {σ : am_M} (hI : Inv σ) : PR d 123 153 [] σ := by
  obtain ⟨L, hL, t1, t2, t3⟩ := hI.1
  refine ⟨nI L, ?_⟩
  refine am_enter' (M := M_X9_erase) rfl rfl rfl (by omega) (ls := [some (.ref 41), none]) rfl (fun d' hd' => ?_)
  refine am_run 2 (pc' := 4) (ls' := [some (.ref 41), none]) (st' := [.ref 42]) (σ' := σ) rfl ?_
  refine am_invv (y := 97) (b := 42) (as := []) (rest := []) rfl rfl rfl rfl rfl rfl rfl (Nat.le_of_ble_eq_true rfl) ?_
  refine am_enter' rfl rfl rfl (by omega) (ls := [some (.ref 42)]) rfl (fun d_1 hd_1 => ?_)
  refine am_run 2 (pc' := 4) (ls' := [some (.ref 42)]) (st' := [.int (σ.1 42 1)]) (σ' := σ) rfl ?_
  refine am_reti rfl rfl ?_
  show am_G _ M_X9_erase _ 7 [some (.ref 41), none] [.int (σ.1 42 1)] σ
  refine am_run 3 (pc' := 12) (ls' := [some (.ref 41), some (.int (σ.1 42 1))]) (st' := [.ref 42]) (σ' := σ) rfl ?_
  refine am_invv (y := 100) (b := 42) (as := []) (rest := []) rfl rfl rfl rfl rfl rfl rfl (Nat.le_of_ble_eq_true rfl) ?_
  refine am_enter' rfl rfl rfl (by omega) (ls := [some (.ref 42)]) rfl (fun d_2 hd_2 => ?_)
  refine am_run 3 (pc' := 5) (ls' := [some (.ref 42)]) (st' := []) (σ' := (am_wr σ 42 1 (nI 0))) rfl ?_
  refine am_retv rfl rfl ?_
  show am_G _ M_X9_erase _ 15 [some (.ref 41), some (.int (σ.1 42 1))] [] (am_wr σ 42 1 (nI 0))
  refine am_run 1 (pc' := 16) (ls' := [some (.ref 41), some (.int (σ.1 42 1))]) (st' := [.int (σ.1 42 1)]) (σ' := (am_wr σ 42 1 (nI 0))) rfl ?_
  refine am_reti rfl rfl ?_
  refine ⟨by rw [t1], ?_⟩
  refine am_enter' (M := M_X10_erase) rfl rfl rfl (by omega) (ls := [some (.ref 0), none]) rfl (fun d2 hd2 => ?_)
  refine am_run 7 (pc' := 11) (ls' := [some (.ref 0), some (.int (σ.1 0 1))]) (st' := [.int (σ.1 0 1)]) (σ' := (am_wr (am_wr σ 42 1 (nI 0)) 0 1 (nI 0))) rfl ?_
  refine am_reti rfl rfl ?_
  refine ⟨by rw [t2], hI.tx (L := 0) (fun c a b e f => by rw [am_wr_ne _ a, am_wr_ne _ e]) (fun k a => by rw [am_diff _ _ _ _ _ a, am_wr_ne _ (by decide)]) rfl ⟨by decide, by rw [am_wr_ne _ (by decide), am_same], am_same _ _ _ _, fun i z => absurd z (Nat.not_lt_zero _)⟩⟩
set_option maxRecDepth 10000 in
set_option maxHeartbeats 2000000 in
theorem pr_write {d : Nat} (hd : 20 ≤ d) {σ : am_M} (hI : Inv σ) (x : Int32) : PR d 122 152 [.int x] σ := by
  obtain ⟨L, hL, t1, t2, t3⟩ := hI.1
  rcases i32_in x (k := 255) (by decide) with ⟨u, hu, rfl⟩ | hx | ⟨hx0, hx⟩
  · by_cases h120 : L = 120
    · refine ⟨-1000004, ?_⟩
      refine am_enter' (M := M_X9_write) rfl rfl rfl (by omega) (ls := [some (.ref 41), some (.int (nI u))]) rfl (fun d' hd' => ?_)
      refine am_run 1 (pc' := 1) (ls' := [some (.ref 41), some (.int (nI u))]) (st' := [.int (nI u)]) (σ' := σ) rfl ?_
      refine am_if (ty := 11) (tn := 4) rfl (by decide) rfl rfl (fun (h_1 : nI u < 0) => ?_) (fun (h_1 : ¬ (nI u < 0)) => ?_)
      · have h_1 : u < 0 := (am_nlt0 (by omega)).mp h_1
        omega
      have h_1 : ¬ (u < 0) := fun z => h_1 ((am_nlt0 (by omega)).mpr z)
      refine am_run 2 (pc' := 8) (ls' := [some (.ref 41), some (.int (nI u))]) (st' := [.int (nI 255), .int (nI u)]) (σ' := σ) rfl ?_
      refine am_ic (ty := 11) (tn := 14) rfl (by decide) rfl rfl (fun (h_2 : nI 255 < nI u) => ?_) (fun (h_2 : ¬ (nI 255 < nI u)) => ?_)
      · have h_2 : 255 < u := (nI_ltI (by omega) (by omega)).mp h_2
        omega
      have h_2 : ¬ (255 < u) := fun z => h_2 ((nI_ltI (by omega) (by omega)).mpr z)
      refine am_run 2 (pc' := 18) (ls' := [some (.ref 41), some (.int (nI u))]) (st' := [.ref 42]) (σ' := σ) rfl ?_
      refine am_invv (y := 97) (b := 42) (as := []) (rest := []) rfl rfl rfl rfl rfl rfl rfl (Nat.le_of_ble_eq_true rfl) ?_
      refine am_enter' rfl rfl rfl (by omega) (ls := [some (.ref 42)]) rfl (fun d_3 hd_3 => ?_)
      refine am_run 2 (pc' := 4) (ls' := [some (.ref 42)]) (st' := [.int (σ.1 42 1)]) (σ' := σ) rfl ?_
      refine am_top (v' := nI L) t1 ?_
      refine am_reti rfl rfl ?_
      show am_G _ M_X9_write _ 21 [some (.ref 41), some (.int (nI u))] [.int (nI L)] σ
      refine am_run 1 (pc' := 23) (ls' := [some (.ref 41), some (.int (nI u))]) (st' := [.int (nI 120), .int (nI L)]) (σ' := σ) rfl ?_
      refine am_ic (ty := 29) (tn := 26) rfl (by decide) rfl rfl (fun (h_4 : nI L < nI 120) => ?_) (fun (h_4 : ¬ (nI L < nI 120)) => ?_)
      · have h_4 : L < 120 := (nI_ltI (by omega) (by omega)).mp h_4
        omega
      have h_4 : ¬ (L < 120) := fun z => h_4 ((nI_ltI (by omega) (by omega)).mpr z)
      refine am_run 1 (pc' := 28) (ls' := [some (.ref 41), some (.int (nI u))]) (st' := [.int (-1000004)]) (σ' := σ) rfl ?_
      refine am_reti rfl rfl ?_
      refine ⟨rfl, ?_⟩
      refine am_enter' (M := M_X10_write) rfl rfl rfl (by omega) (ls := [some (.ref 0), some (.int (nI u))]) rfl (fun d2 hd2 => ?_)
      refine am_run 3 (pc' := 5) (ls' := [some (.ref 0), some (.int (nI u))]) (st' := [.int (nI 255), .int (nI 0), .int (nI u)]) (σ' := σ) rfl ?_
      refine am_invs (y := 148) (as := [.int (nI u), .int (nI 0), .int (nI 255)]) (rest := []) rfl rfl rfl rfl rfl rfl (Nat.le_of_ble_eq_true rfl) ?_
      refine am_enter' rfl rfl rfl (by omega) (ls := [some (.int (nI u)), some (.int (nI 0)), some (.int (nI 255))]) rfl (fun d_101 hd_101 => ?_)
      refine am_run 2 (pc' := 2) (ls' := [some (.int (nI u)), some (.int (nI 0)), some (.int (nI 255))]) (st' := [.int (nI 0), .int (nI u)]) (σ' := σ) rfl ?_
      refine am_ic (ty := 14) (tn := 5) rfl (by decide) rfl rfl (fun (h_102 : nI u < nI 0) => ?_) (fun (h_102 : ¬ (nI u < nI 0)) => ?_)
      · have h_102 : u < 0 := (nI_ltI (by omega) (by omega)).mp h_102
        omega
      have h_102 : ¬ (u < 0) := fun z => h_102 ((nI_ltI (by omega) (by omega)).mpr z)
      refine am_run 2 (pc' := 7) (ls' := [some (.int (nI u)), some (.int (nI 0)), some (.int (nI 255))]) (st' := [.int (nI 255), .int (nI u)]) (σ' := σ) rfl ?_
      refine am_ic (ty := 14) (tn := 10) rfl (by decide) rfl rfl (fun (h_103 : nI 255 < nI u) => ?_) (fun (h_103 : ¬ (nI 255 < nI u)) => ?_)
      · have h_103 : 255 < u := (nI_ltI (by omega) (by omega)).mp h_103
        omega
      have h_103 : ¬ (255 < u) := fun z => h_103 ((nI_ltI (by omega) (by omega)).mpr z)
      refine am_run 2 (pc' := 15) (ls' := [some (.int (nI u)), some (.int (nI 0)), some (.int (nI 255))]) (st' := [.int (nI 1)]) (σ' := σ) rfl ?_
      refine am_retz rfl rfl (by decide) ?_
      show am_G _ M_X10_write _ 8 [some (.ref 0), some (.int (nI u))] [.int (nI 1)] σ
      refine am_if (ty := 11) (tn := 14) rfl (by decide) rfl rfl (fun (h_104 : nI 1 = 0) => ?_) (fun (h_104 : ¬ (nI 1 = 0)) => ?_)
      · exact absurd h_104 (by decide)
      refine am_run 2 (pc' := 18) (ls' := [some (.ref 0), some (.int (nI u))]) (st' := [.int (σ.1 0 1)]) (σ' := σ) rfl ?_
      refine am_top (v' := nI L) t2 ?_
      refine am_run 1 (pc' := 20) (ls' := [some (.ref 0), some (.int (nI u))]) (st' := [.int (nI 120), .int (nI L)]) (σ' := σ) rfl ?_
      refine am_ic (ty := 23) (tn := 26) rfl (by decide) rfl rfl (fun (h_105 : nI L = nI 120) => ?_) (fun (h_105 : ¬ (nI L = nI 120)) => ?_)
      rotate_left
      · have h_105 : ¬ (L = 120) := fun z => h_105 ((nI_eq (by omega) (by omega)).mpr z)
        omega
      have h_105 : L = 120 := (nI_eq (by omega) (by omega)).mp h_105
      refine am_run 1 (pc' := 25) (ls' := [some (.ref 0), some (.int (nI u))]) (st' := [.int (-1000004)]) (σ' := σ) rfl ?_
      refine am_reti rfl rfl ?_
      exact ⟨rfl, hI⟩
    · refine ⟨nI (L + 1), ?_⟩
      refine am_enter' (M := M_X9_write) rfl rfl rfl (by omega) (ls := [some (.ref 41), some (.int (nI u))]) rfl (fun d' hd' => ?_)
      refine am_run 1 (pc' := 1) (ls' := [some (.ref 41), some (.int (nI u))]) (st' := [.int (nI u)]) (σ' := σ) rfl ?_
      refine am_if (ty := 11) (tn := 4) rfl (by decide) rfl rfl (fun (h_1 : nI u < 0) => ?_) (fun (h_1 : ¬ (nI u < 0)) => ?_)
      · have h_1 : u < 0 := (am_nlt0 (by omega)).mp h_1
        omega
      have h_1 : ¬ (u < 0) := fun z => h_1 ((am_nlt0 (by omega)).mpr z)
      refine am_run 2 (pc' := 8) (ls' := [some (.ref 41), some (.int (nI u))]) (st' := [.int (nI 255), .int (nI u)]) (σ' := σ) rfl ?_
      refine am_ic (ty := 11) (tn := 14) rfl (by decide) rfl rfl (fun (h_2 : nI 255 < nI u) => ?_) (fun (h_2 : ¬ (nI 255 < nI u)) => ?_)
      · have h_2 : 255 < u := (nI_ltI (by omega) (by omega)).mp h_2
        omega
      have h_2 : ¬ (255 < u) := fun z => h_2 ((nI_ltI (by omega) (by omega)).mpr z)
      refine am_run 2 (pc' := 18) (ls' := [some (.ref 41), some (.int (nI u))]) (st' := [.ref 42]) (σ' := σ) rfl ?_
      refine am_invv (y := 97) (b := 42) (as := []) (rest := []) rfl rfl rfl rfl rfl rfl rfl (Nat.le_of_ble_eq_true rfl) ?_
      refine am_enter' rfl rfl rfl (by omega) (ls := [some (.ref 42)]) rfl (fun d_3 hd_3 => ?_)
      refine am_run 2 (pc' := 4) (ls' := [some (.ref 42)]) (st' := [.int (σ.1 42 1)]) (σ' := σ) rfl ?_
      refine am_top (v' := nI L) t1 ?_
      refine am_reti rfl rfl ?_
      show am_G _ M_X9_write _ 21 [some (.ref 41), some (.int (nI u))] [.int (nI L)] σ
      refine am_run 1 (pc' := 23) (ls' := [some (.ref 41), some (.int (nI u))]) (st' := [.int (nI 120), .int (nI L)]) (σ' := σ) rfl ?_
      refine am_ic (ty := 29) (tn := 26) rfl (by decide) rfl rfl (fun (h_4 : nI L < nI 120) => ?_) (fun (h_4 : ¬ (nI L < nI 120)) => ?_)
      rotate_left
      · have h_4 : ¬ (L < 120) := fun z => h_4 ((nI_ltI (by omega) (by omega)).mpr z)
        omega
      have h_4 : L < 120 := (nI_ltI (by omega) (by omega)).mp h_4
      refine am_run 3 (pc' := 34) (ls' := [some (.ref 41), some (.int (nI u))]) (st' := [.int (nI u), .ref 42]) (σ' := σ) rfl ?_
      refine am_invv (y := 99) (b := 42) (as := [.int (nI u)]) (rest := []) rfl rfl rfl rfl rfl rfl rfl (Nat.le_of_ble_eq_true rfl) ?_
      refine am_enter' rfl rfl rfl (by omega) (ls := [some (.ref 42), some (.int (nI u))]) rfl (fun d_5 hd_5 => ?_)
      refine am_run 2 (pc' := 4) (ls' := [some (.ref 42), some (.int (nI u))]) (st' := [.int (σ.1 42 1)]) (σ' := σ) rfl ?_
      refine am_top (v' := nI L) t1 ?_
      refine am_if (ty := 39) (tn := 7) rfl (by decide) rfl rfl (fun (h_6 : nI L < 0) => ?_) (fun (h_6 : ¬ (nI L < 0)) => ?_)
      · have h_6 : L < 0 := (am_nlt0 (by omega)).mp h_6
        exact absurd h_6 (Nat.not_lt_zero _)
      have h_6 : ¬ (L < 0) := fun z => h_6 ((am_nlt0 (by omega)).mpr z)
      refine am_run 2 (pc' := 11) (ls' := [some (.ref 42), some (.int (nI u))]) (st' := [.int (σ.1 42 1)]) (σ' := σ) rfl ?_
      refine am_top (v' := nI L) t1 ?_
      refine am_run 3 (pc' := 16) (ls' := [some (.ref 42), some (.int (nI u))]) (st' := [.int (nI 120), .int (nI L)]) (σ' := σ) rfl ?_
      refine am_ic (ty := 19) (tn := 39) rfl (by decide) rfl rfl (fun (h_7 : nI L < nI 120) => ?_) (fun (h_7 : ¬ (nI L < nI 120)) => ?_)
      rotate_left
      · have h_7 : ¬ (L < 120) := fun z => h_7 ((nI_ltI (by omega) (by omega)).mpr z)
        omega
      have h_7 : L < 120 := (nI_ltI (by omega) (by omega)).mp h_7
      refine am_run 4 (pc' := 27) (ls' := [some (.ref 42), some (.int (nI u))]) (st' := [.int (σ.1 42 1), .ref 43]) (σ' := σ) rfl ?_
      refine am_top (v' := nI L) t1 ?_
      refine am_run 1 (pc' := 28) (ls' := [some (.ref 42), some (.int (nI u))]) (st' := [.int (nI u), .int (nI L), .ref 43]) (σ' := σ) rfl ?_
      refine am_iastN (n := 120) rfl rfl rfl (by omega) (by decide) ?_
      refine am_run 3 (pc' := 34) (ls' := [some (.ref 42), some (.int (nI u))]) (st' := [.int (σ.1 42 1), .ref 42]) (σ' := (am_wr σ 43 L (nI u))) rfl ?_
      refine am_top (v' := nI L) t1 ?_
      refine am_run 2 (pc' := 36) (ls' := [some (.ref 42), some (.int (nI u))]) (st' := [.int (nI L + nI 1), .ref 42]) (σ' := (am_wr σ 43 L (nI u))) rfl ?_
      refine am_top (v' := nI (L + 1)) (nI_add _ _) ?_
      refine am_run 1 (pc' := 39) (ls' := [some (.ref 42), some (.int (nI u))]) (st' := []) (σ' := (am_wr (am_wr σ 43 L (nI u)) 42 1 (nI (L + 1)))) rfl ?_
      refine am_retv rfl rfl ?_
      show am_G _ M_X9_write _ 37 [some (.ref 41), some (.int (nI u))] [] (am_wr (am_wr σ 43 L (nI u)) 42 1 (nI (L + 1)))
      refine am_run 2 (pc' := 41) (ls' := [some (.ref 41), some (.int (nI u))]) (st' := [.ref 42]) (σ' := (am_wr (am_wr σ 43 L (nI u)) 42 1 (nI (L + 1)))) rfl ?_
      refine am_invv (y := 97) (b := 42) (as := []) (rest := []) rfl rfl rfl rfl rfl rfl rfl (Nat.le_of_ble_eq_true rfl) ?_
      refine am_enter' rfl rfl rfl (by omega) (ls := [some (.ref 42)]) rfl (fun d_8 hd_8 => ?_)
      refine am_run 2 (pc' := 4) (ls' := [some (.ref 42)]) (st' := [.int (nI (L + 1))]) (σ' := (am_wr (am_wr σ 43 L (nI u)) 42 1 (nI (L + 1)))) rfl ?_
      refine am_reti rfl rfl ?_
      show am_G _ M_X9_write _ 44 [some (.ref 41), some (.int (nI u))] [.int (nI (L + 1))] (am_wr (am_wr σ 43 L (nI u)) 42 1 (nI (L + 1)))
      refine am_reti rfl rfl ?_
      refine ⟨rfl, ?_⟩
      refine am_enter' (M := M_X10_write) rfl rfl rfl (by omega) (ls := [some (.ref 0), some (.int (nI u))]) rfl (fun d2 hd2 => ?_)
      refine am_run 3 (pc' := 5) (ls' := [some (.ref 0), some (.int (nI u))]) (st' := [.int (nI 255), .int (nI 0), .int (nI u)]) (σ' := (am_wr (am_wr σ 43 L (nI u)) 42 1 (nI (L + 1)))) rfl ?_
      refine am_invs (y := 148) (as := [.int (nI u), .int (nI 0), .int (nI 255)]) (rest := []) rfl rfl rfl rfl rfl rfl (Nat.le_of_ble_eq_true rfl) ?_
      refine am_enter' rfl rfl rfl (by omega) (ls := [some (.int (nI u)), some (.int (nI 0)), some (.int (nI 255))]) rfl (fun d_101 hd_101 => ?_)
      refine am_run 2 (pc' := 2) (ls' := [some (.int (nI u)), some (.int (nI 0)), some (.int (nI 255))]) (st' := [.int (nI 0), .int (nI u)]) (σ' := (am_wr (am_wr σ 43 L (nI u)) 42 1 (nI (L + 1)))) rfl ?_
      refine am_ic (ty := 14) (tn := 5) rfl (by decide) rfl rfl (fun (h_102 : nI u < nI 0) => ?_) (fun (h_102 : ¬ (nI u < nI 0)) => ?_)
      · have h_102 : u < 0 := (nI_ltI (by omega) (by omega)).mp h_102
        omega
      have h_102 : ¬ (u < 0) := fun z => h_102 ((nI_ltI (by omega) (by omega)).mpr z)
      refine am_run 2 (pc' := 7) (ls' := [some (.int (nI u)), some (.int (nI 0)), some (.int (nI 255))]) (st' := [.int (nI 255), .int (nI u)]) (σ' := (am_wr (am_wr σ 43 L (nI u)) 42 1 (nI (L + 1)))) rfl ?_
      refine am_ic (ty := 14) (tn := 10) rfl (by decide) rfl rfl (fun (h_103 : nI 255 < nI u) => ?_) (fun (h_103 : ¬ (nI 255 < nI u)) => ?_)
      · have h_103 : 255 < u := (nI_ltI (by omega) (by omega)).mp h_103
        omega
      have h_103 : ¬ (255 < u) := fun z => h_103 ((nI_ltI (by omega) (by omega)).mpr z)
      refine am_run 2 (pc' := 15) (ls' := [some (.int (nI u)), some (.int (nI 0)), some (.int (nI 255))]) (st' := [.int (nI 1)]) (σ' := (am_wr (am_wr σ 43 L (nI u)) 42 1 (nI (L + 1)))) rfl ?_
      refine am_retz rfl rfl (by decide) ?_
      show am_G _ M_X10_write _ 8 [some (.ref 0), some (.int (nI u))] [.int (nI 1)] (am_wr (am_wr σ 43 L (nI u)) 42 1 (nI (L + 1)))
      refine am_if (ty := 11) (tn := 14) rfl (by decide) rfl rfl (fun (h_104 : nI 1 = 0) => ?_) (fun (h_104 : ¬ (nI 1 = 0)) => ?_)
      · exact absurd h_104 (by decide)
      refine am_run 2 (pc' := 18) (ls' := [some (.ref 0), some (.int (nI u))]) (st' := [.int (σ.1 0 1)]) (σ' := (am_wr (am_wr σ 43 L (nI u)) 42 1 (nI (L + 1)))) rfl ?_
      refine am_top (v' := nI L) t2 ?_
      refine am_run 1 (pc' := 20) (ls' := [some (.ref 0), some (.int (nI u))]) (st' := [.int (nI 120), .int (nI L)]) (σ' := (am_wr (am_wr σ 43 L (nI u)) 42 1 (nI (L + 1)))) rfl ?_
      refine am_ic (ty := 23) (tn := 26) rfl (by decide) rfl rfl (fun (h_105 : nI L = nI 120) => ?_) (fun (h_105 : ¬ (nI L = nI 120)) => ?_)
      · have h_105 : L = 120 := (nI_eq (by omega) (by omega)).mp h_105
        omega
      have h_105 : ¬ (L = 120) := fun z => h_105 ((nI_eq (by omega) (by omega)).mpr z)
      refine am_run 4 (pc' := 34) (ls' := [some (.ref 0), some (.int (nI u))]) (st' := [.int (σ.1 0 1), .ref 1]) (σ' := (am_wr (am_wr σ 43 L (nI u)) 42 1 (nI (L + 1)))) rfl ?_
      refine am_top (v' := nI L) t2 ?_
      refine am_run 1 (pc' := 35) (ls' := [some (.ref 0), some (.int (nI u))]) (st' := [.int (nI u), .int (nI L), .ref 1]) (σ' := (am_wr (am_wr σ 43 L (nI u)) 42 1 (nI (L + 1)))) rfl ?_
      refine am_iastN (n := 120) rfl rfl rfl (by omega) (by decide) ?_
      refine am_run 3 (pc' := 41) (ls' := [some (.ref 0), some (.int (nI u))]) (st' := [.int (σ.1 0 1), .ref 0]) (σ' := (am_wr (am_wr (am_wr σ 43 L (nI u)) 42 1 (nI (L + 1))) 1 L (nI u))) rfl ?_
      refine am_top (v' := nI L) t2 ?_
      refine am_run 2 (pc' := 43) (ls' := [some (.ref 0), some (.int (nI u))]) (st' := [.int (nI L + nI 1), .ref 0]) (σ' := (am_wr (am_wr (am_wr σ 43 L (nI u)) 42 1 (nI (L + 1))) 1 L (nI u))) rfl ?_
      refine am_top (v' := nI (L + 1)) (nI_add _ _) ?_
      refine am_run 3 (pc' := 50) (ls' := [some (.ref 0), some (.int (nI u))]) (st' := [.int (nI (L + 1))]) (σ' := (am_wr (am_wr (am_wr (am_wr σ 43 L (nI u)) 42 1 (nI (L + 1))) 1 L (nI u)) 0 1 (nI (L + 1)))) rfl ?_
      refine am_reti rfl rfl ?_
      refine ⟨rfl, hI.tx (L := L + 1) (fun c a b e f => by rw [am_wr_ne _ a, am_wr_ne _ b, am_wr_ne _ e, am_wr_ne _ f]) (fun k a => by rw [am_diff _ _ _ _ _ a, am_wr_ne _ (by decide), am_wr_ne _ (by decide), am_wr_ne _ (by decide)]) rfl ⟨by omega, by rw [am_wr_ne _ (by decide), am_wr_ne _ (by decide), am_same], am_same _ _ _ _, fun i hi => ?_⟩⟩
      rw [am_wr_ne _ (show 43 ≠ 0 by decide), am_wr_ne _ (show 43 ≠ 1 by decide), am_wr_ne _ (show 43 ≠ 42 by decide), am_wr_ne _ (show 1 ≠ 0 by decide)]
      by_cases e : i = L
      · subst e; exact ⟨u, by omega, am_same _ _ _ _, am_same _ _ _ _⟩
      · rw [am_diff _ _ _ _ _ e, am_diff _ _ _ _ _ e, am_wr_ne _ (by decide), am_wr_ne _ (by decide)]
        exact t3 i (by omega)
  · refine ⟨-1000002, ?_⟩
    refine am_enter' (M := M_X9_write) rfl rfl rfl (by omega) (ls := [some (.ref 41), some (.int x)]) rfl (fun d' hd' => ?_)
    refine am_run 1 (pc' := 1) (ls' := [some (.ref 41), some (.int x)]) (st' := [.int x]) (σ' := σ) rfl ?_
    refine am_if (ty := 11) (tn := 4) rfl (by decide) rfl rfl (fun (h_1 : x < 0) => ?_) (fun (h_1 : ¬ (x < 0)) => ?_)
    rotate_left
    · exact absurd hx h_1
    refine am_run 1 (pc' := 13) (ls' := [some (.ref 41), some (.int x)]) (st' := [.int (-1000002)]) (σ' := σ) rfl ?_
    refine am_reti rfl rfl ?_
    refine ⟨rfl, ?_⟩
    refine am_enter' (M := M_X10_write) rfl rfl rfl (by omega) (ls := [some (.ref 0), some (.int x)]) rfl (fun d2 hd2 => ?_)
    refine am_run 3 (pc' := 5) (ls' := [some (.ref 0), some (.int x)]) (st' := [.int (nI 255), .int (nI 0), .int x]) (σ' := σ) rfl ?_
    refine am_invs (y := 148) (as := [.int x, .int (nI 0), .int (nI 255)]) (rest := []) rfl rfl rfl rfl rfl rfl (Nat.le_of_ble_eq_true rfl) ?_
    refine am_enter' rfl rfl rfl (by omega) (ls := [some (.int x), some (.int (nI 0)), some (.int (nI 255))]) rfl (fun d_101 hd_101 => ?_)
    refine am_run 2 (pc' := 2) (ls' := [some (.int x), some (.int (nI 0)), some (.int (nI 255))]) (st' := [.int (nI 0), .int x]) (σ' := σ) rfl ?_
    refine am_ic (ty := 14) (tn := 5) rfl (by decide) rfl rfl (fun (h_102 : x < nI 0) => ?_) (fun (h_102 : ¬ (x < nI 0)) => ?_)
    rotate_left
    · exact absurd hx h_102
    refine am_run 1 (pc' := 15) (ls' := [some (.int x), some (.int (nI 0)), some (.int (nI 255))]) (st' := [.int (nI 0)]) (σ' := σ) rfl ?_
    refine am_retz rfl rfl (by decide) ?_
    show am_G _ M_X10_write _ 8 [some (.ref 0), some (.int x)] [.int (nI 0)] σ
    refine am_if (ty := 11) (tn := 14) rfl (by decide) rfl rfl (fun (h_103 : nI 0 = 0) => ?_) (fun (h_103 : ¬ (nI 0 = 0)) => ?_)
    rotate_left
    · exact absurd (by decide) h_103
    refine am_run 1 (pc' := 13) (ls' := [some (.ref 0), some (.int x)]) (st' := [.int (-1000002)]) (σ' := σ) rfl ?_
    refine am_reti rfl rfl ?_
    exact ⟨rfl, hI⟩
  · refine ⟨-1000002, ?_⟩
    refine am_enter' (M := M_X9_write) rfl rfl rfl (by omega) (ls := [some (.ref 41), some (.int x)]) rfl (fun d' hd' => ?_)
    refine am_run 1 (pc' := 1) (ls' := [some (.ref 41), some (.int x)]) (st' := [.int x]) (σ' := σ) rfl ?_
    refine am_if (ty := 11) (tn := 4) rfl (by decide) rfl rfl (fun (h_1 : x < 0) => ?_) (fun (h_1 : ¬ (x < 0)) => ?_)
    · exact absurd h_1 hx0
    refine am_run 2 (pc' := 8) (ls' := [some (.ref 41), some (.int x)]) (st' := [.int (nI 255), .int x]) (σ' := σ) rfl ?_
    refine am_ic (ty := 11) (tn := 14) rfl (by decide) rfl rfl (fun (h_2 : nI 255 < x) => ?_) (fun (h_2 : ¬ (nI 255 < x)) => ?_)
    rotate_left
    · exact absurd hx h_2
    refine am_run 1 (pc' := 13) (ls' := [some (.ref 41), some (.int x)]) (st' := [.int (-1000002)]) (σ' := σ) rfl ?_
    refine am_reti rfl rfl ?_
    refine ⟨rfl, ?_⟩
    refine am_enter' (M := M_X10_write) rfl rfl rfl (by omega) (ls := [some (.ref 0), some (.int x)]) rfl (fun d2 hd2 => ?_)
    refine am_run 3 (pc' := 5) (ls' := [some (.ref 0), some (.int x)]) (st' := [.int (nI 255), .int (nI 0), .int x]) (σ' := σ) rfl ?_
    refine am_invs (y := 148) (as := [.int x, .int (nI 0), .int (nI 255)]) (rest := []) rfl rfl rfl rfl rfl rfl (Nat.le_of_ble_eq_true rfl) ?_
    refine am_enter' rfl rfl rfl (by omega) (ls := [some (.int x), some (.int (nI 0)), some (.int (nI 255))]) rfl (fun d_101 hd_101 => ?_)
    refine am_run 2 (pc' := 2) (ls' := [some (.int x), some (.int (nI 0)), some (.int (nI 255))]) (st' := [.int (nI 0), .int x]) (σ' := σ) rfl ?_
    refine am_ic (ty := 14) (tn := 5) rfl (by decide) rfl rfl (fun (h_102 : x < nI 0) => ?_) (fun (h_102 : ¬ (x < nI 0)) => ?_)
    · exact absurd h_102 hx0
    refine am_run 2 (pc' := 7) (ls' := [some (.int x), some (.int (nI 0)), some (.int (nI 255))]) (st' := [.int (nI 255), .int x]) (σ' := σ) rfl ?_
    refine am_ic (ty := 14) (tn := 10) rfl (by decide) rfl rfl (fun (h_103 : nI 255 < x) => ?_) (fun (h_103 : ¬ (nI 255 < x)) => ?_)
    rotate_left
    · exact absurd hx h_103
    refine am_run 1 (pc' := 15) (ls' := [some (.int x), some (.int (nI 0)), some (.int (nI 255))]) (st' := [.int (nI 0)]) (σ' := σ) rfl ?_
    refine am_retz rfl rfl (by decide) ?_
    show am_G _ M_X10_write _ 8 [some (.ref 0), some (.int x)] [.int (nI 0)] σ
    refine am_if (ty := 11) (tn := 14) rfl (by decide) rfl rfl (fun (h_104 : nI 0 = 0) => ?_) (fun (h_104 : ¬ (nI 0 = 0)) => ?_)
    rotate_left
    · exact absurd (by decide) h_104
    refine am_run 1 (pc' := 13) (ls' := [some (.ref 0), some (.int x)]) (st' := [.int (-1000002)]) (σ' := σ) rfl ?_
    refine am_reti rfl rfl ?_
    exact ⟨rfl, hI⟩

set_option maxRecDepth 10000 in
set_option maxHeartbeats 2000000 in
theorem pr_fault {d : Nat} (hd : 20 ≤ d) {σ : am_M} (hI : Inv σ) : PR d 125 183 [] σ := by
  refine ⟨σ.1 41 7, ?_⟩
  refine am_enter' (M := M_X9_fault) rfl rfl rfl (by omega) (ls := [some (.ref 41)]) rfl (fun d' hd' => ?_)
  refine am_run 2 (pc' := 4) (ls' := [some (.ref 41)]) (st' := [.int (σ.1 41 7)]) (σ' := σ) rfl ?_
  refine am_reti rfl rfl ?_
  refine ⟨rfl, ?_⟩
  refine am_enter' (M := M_X10_fault) rfl rfl rfl (by omega) (ls := [some (.ref 0)]) rfl (fun d2 hd2 => ?_)
  refine am_run 2 (pc' := 4) (ls' := [some (.ref 0)]) (st' := [.int (σ.1 0 2)]) (σ' := σ) rfl ?_
  refine am_reti rfl rfl ?_
  exact ⟨by rw [hI.2.1], hI⟩
set_option maxRecDepth 10000 in
set_option maxHeartbeats 2000000 in
theorem pr_erase {d : Nat} (hd : 20 ≤ d) {σ : am_M} (hI : Inv σ) : PR d 123 153 [] σ := by
  obtain ⟨L, hL, t1, t2, t3⟩ := hI.1
  refine ⟨nI L, ?_⟩
  refine am_enter' (M := M_X9_erase) rfl rfl rfl (by omega) (ls := [some (.ref 41), none]) rfl (fun d' hd' => ?_)
  refine am_run 2 (pc' := 4) (ls' := [some (.ref 41), none]) (st' := [.ref 42]) (σ' := σ) rfl ?_
  refine am_invv (y := 97) (b := 42) (as := []) (rest := []) rfl rfl rfl rfl rfl rfl rfl (Nat.le_of_ble_eq_true rfl) ?_
  refine am_enter' rfl rfl rfl (by omega) (ls := [some (.ref 42)]) rfl (fun d_1 hd_1 => ?_)
  refine am_run 2 (pc' := 4) (ls' := [some (.ref 42)]) (st' := [.int (σ.1 42 1)]) (σ' := σ) rfl ?_
  refine am_reti rfl rfl ?_
  show am_G _ M_X9_erase _ 7 [some (.ref 41), none] [.int (σ.1 42 1)] σ
  refine am_run 3 (pc' := 12) (ls' := [some (.ref 41), some (.int (σ.1 42 1))]) (st' := [.ref 42]) (σ' := σ) rfl ?_
  refine am_invv (y := 100) (b := 42) (as := []) (rest := []) rfl rfl rfl rfl rfl rfl rfl (Nat.le_of_ble_eq_true rfl) ?_
  refine am_enter' rfl rfl rfl (by omega) (ls := [some (.ref 42)]) rfl (fun d_2 hd_2 => ?_)
  refine am_run 3 (pc' := 5) (ls' := [some (.ref 42)]) (st' := []) (σ' := (am_wr σ 42 1 (nI 0))) rfl ?_
  refine am_retv rfl rfl ?_
  show am_G _ M_X9_erase _ 15 [some (.ref 41), some (.int (σ.1 42 1))] [] (am_wr σ 42 1 (nI 0))
  refine am_run 1 (pc' := 16) (ls' := [some (.ref 41), some (.int (σ.1 42 1))]) (st' := [.int (σ.1 42 1)]) (σ' := (am_wr σ 42 1 (nI 0))) rfl ?_
  refine am_reti rfl rfl ?_
  refine ⟨by rw [t1], ?_⟩
  refine am_enter' (M := M_X10_erase) rfl rfl rfl (by omega) (ls := [some (.ref 0), none]) rfl (fun d2 hd2 => ?_)
  refine am_run 7 (pc' := 11) (ls' := [some (.ref 0), some (.int (σ.1 0 1))]) (st' := [.int (σ.1 0 1)]) (σ' := (am_wr (am_wr σ 42 1 (nI 0)) 0 1 (nI 0))) rfl ?_
  refine am_reti rfl rfl ?_
  refine ⟨by rw [t2], hI.tx (L := 0) (fun c a b e f => by rw [am_wr_ne _ a, am_wr_ne _ e]) (fun k a => by rw [am_diff _ _ _ _ _ a, am_wr_ne _ (by decide)]) rfl ⟨by decide, by rw [am_wr_ne _ (by decide), am_same], am_same _ _ _ _, fun i z => absurd z (Nat.not_lt_zero _)⟩⟩

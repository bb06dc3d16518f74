theorem t3_kind {t : Nat} (h : T3 t) : am_kind t = 6 := by rcases h with rfl | rfl | rfl <;> rfl
theorem out_ne {z : Int32} {b k : Nat} (h : z < 0 ∨ (¬ z < 0 ∧ nI b < z)) (hk : k ≤ b) (hb : b < 2 ^ 31) : ¬ z = nI k := by
  rintro rfl
  rcases h with h | ⟨-, h⟩
  · exact absurd ((am_nlt0 (by omega)).mp h) (Nat.not_lt_zero _)
  · have := (nI_ltI hb (by omega)).mp h
    omega
set_option maxRecDepth 10000 in
set_option maxHeartbeats 2000000 in
theorem pr_state {d : Nat} (hd : 600 ≤ d) {σ : am_M} (hI : Inv σ) (x : Int32) : PR d 129 233 [.int x] σ := by
  rcases pl_cases hI x with hN | ⟨rfl, hF⟩ | ⟨rfl, hF⟩
  · refine ⟨-1000001, ?_⟩
    refine am_enter' (M := M_X9_state) rfl rfl rfl (by omega) (ls := [some (.ref 41), some (.int x), none]) rfl (fun d' hd' => ?_)
    refine am_run 2 (pc' := 2) (ls' := [some (.ref 41), some (.int x), none]) (st' := [.int x, .ref 41]) (σ' := σ) rfl ?_
    refine am_invv (y := 140) (b := 41) (as := [.int x]) (rest := []) rfl rfl rfl rfl rfl rfl rfl (Nat.le_of_ble_eq_true rfl) ?_
    refine c_nf (by omega) hN ?_
    show am_G _ M_X9_state _ 5 [some (.ref 41), some (.int x), none] [.null] σ
    refine am_run 5 (pc' := 19) (ls' := [some (.ref 41), some (.int x), some (.null)]) (st' := [.int (-1000001)]) (σ' := σ) rfl ?_
    refine am_reti rfl rfl ?_
    refine ⟨rfl, ?_⟩
    refine am_enter' (M := M_X10_state) rfl rfl rfl (by omega) (ls := [some (.ref 0), some (.int x)]) rfl (fun d2 hd2 => ?_)
    refine am_run 2 (pc' := 2) (ls' := [some (.ref 0), some (.int x)]) (st' := [.int x, .ref 0]) (σ' := σ) rfl ?_
    refine am_invv (y := 151) (b := 0) (as := [.int x]) (rest := []) rfl rfl rfl rfl rfl rfl rfl (Nat.le_of_ble_eq_true rfl) ?_
    refine c_np (by omega) hN ?_
    show am_G _ M_X10_state _ 5 [some (.ref 0), some (.int x)] [.int (nI 0)] σ
    refine am_if (ty := 17) (tn := 8) rfl (by decide) rfl rfl (fun (h_101 : nI 0 = 0) => ?_) (fun (h_101 : ¬ (nI 0 = 0)) => ?_)
    rotate_left
    · exact absurd (by decide) h_101
    refine am_run 1 (pc' := 19) (ls' := [some (.ref 0), some (.int x)]) (st' := [.int (-1000001)]) (σ' := σ) rfl ?_
    refine am_reti rfl rfl ?_
    exact ⟨rfl, hI⟩
  · obtain ⟨hf, p, n, r, kk, rk, od, dp, ow, s, m, hP, hH⟩ := hF
    obtain ⟨hn1, hR, hro, hM, hk1, hk2, hkk, hND⟩ := id hP
    obtain ⟨a3, b3, hv, a4, b4, hm, hh⟩ := id hH
    have hW := hM.1.2.1
    have hn60 := hW.1
    have hs := hv.1
    have hrn : r < n := hM.2.1.2.1
    have hn2 := hM.1.2.2.2.1
    refine ⟨nI s, ?_⟩
    refine am_enter' (M := M_X9_state) rfl rfl rfl (by omega) (ls := [some (.ref 41), some (.int (nI 0)), none]) rfl (fun d' hd' => ?_)
    refine am_run 2 (pc' := 2) (ls' := [some (.ref 41), some (.int (nI 0)), none]) (st' := [.int (nI 0), .ref 41]) (σ' := σ) rfl ?_
    refine am_invv (y := 140) (b := 41) (as := [.int (nI 0)]) (rest := []) rfl rfl rfl rfl rfl rfl rfl (Nat.le_of_ble_eq_true rfl) ?_
    refine c_filled0_1 (by omega) hf ?_
    show am_G _ M_X9_state _ 5 [some (.ref 41), some (.int (nI 0)), none] [.ref 73] σ
    refine am_run 4 (pc' := 16) (ls' := [some (.ref 41), some (.int (nI 0)), some (.ref 73)]) (st' := [.ref 73]) (σ' := σ) rfl ?_
    refine am_invv (y := 67) (b := 73) (as := []) (rest := []) rfl rfl rfl rfl rfl rfl rfl (Nat.le_of_ble_eq_true rfl) ?_
    refine am_enter' rfl rfl rfl (by omega) (ls := [some (.ref 73)]) rfl (fun d_1 hd_1 => ?_)
    refine am_run 2 (pc' := 4) (ls' := [some (.ref 73)]) (st' := [.int (σ.1 73 3)]) (σ' := σ) rfl ?_
    refine am_top (v' := nI s) a3 ?_
    refine am_reti rfl rfl ?_
    show am_G _ M_X9_state _ 19 [some (.ref 41), some (.int (nI 0)), some (.ref 73)] [.int (nI s)] σ
    refine am_reti rfl rfl ?_
    refine ⟨rfl, ?_⟩
    refine am_enter' (M := M_X10_state) rfl rfl rfl (by omega) (ls := [some (.ref 0), some (.int (nI 0))]) rfl (fun d2 hd2 => ?_)
    refine am_run 2 (pc' := 2) (ls' := [some (.ref 0), some (.int (nI 0))]) (st' := [.int (nI 0), .ref 0]) (σ' := σ) rfl ?_
    refine am_invv (y := 151) (b := 0) (as := [.int (nI 0)]) (rest := []) rfl rfl rfl rfl rfl rfl rfl (Nat.le_of_ble_eq_true rfl) ?_
    refine c_prog0_1 (by omega) (n := n) (by exact hn2) hn1 hn60 ?_
    show am_G _ M_X10_state _ 5 [some (.ref 0), some (.int (nI 0))] [.int (nI 1)] σ
    refine am_if (ty := 17) (tn := 8) rfl (by decide) rfl rfl (fun (h_101 : nI 1 = 0) => ?_) (fun (h_101 : ¬ (nI 1 = 0)) => ?_)
    · exact absurd h_101 (by decide)
    refine am_run 3 (pc' := 13) (ls' := [some (.ref 0), some (.int (nI 0))]) (st' := [.int (nI 0), .ref 17]) (σ' := σ) rfl ?_
    refine am_ialdN (n := 2) (v := nI s) rfl rfl rfl (by decide) b3 (by decide) ?_
    refine am_run 1 (pc' := 19) (ls' := [some (.ref 0), some (.int (nI 0))]) (st' := [.int (nI s)]) (σ' := σ) rfl ?_
    refine am_reti rfl rfl ?_
    exact ⟨rfl, hI⟩
  · obtain ⟨hf, p, n, r, kk, rk, od, dp, ow, s, m, hP, hH⟩ := hF
    obtain ⟨hn1, hR, hro, hM, hk1, hk2, hkk, hND⟩ := id hP
    obtain ⟨a3, b3, hv, a4, b4, hm, hh⟩ := id hH
    have hW := hM.1.2.1
    have hn60 := hW.1
    have hs := hv.1
    have hrn : r < n := hM.2.1.2.1
    have hn2 := hM.1.2.2.2.1
    refine ⟨nI s, ?_⟩
    refine am_enter' (M := M_X9_state) rfl rfl rfl (by omega) (ls := [some (.ref 41), some (.int (nI 1)), none]) rfl (fun d' hd' => ?_)
    refine am_run 2 (pc' := 2) (ls' := [some (.ref 41), some (.int (nI 1)), none]) (st' := [.int (nI 1), .ref 41]) (σ' := σ) rfl ?_
    refine am_invv (y := 140) (b := 41) (as := [.int (nI 1)]) (rest := []) rfl rfl rfl rfl rfl rfl rfl (Nat.le_of_ble_eq_true rfl) ?_
    refine c_filled1_1 (by omega) hf ?_
    show am_G _ M_X9_state _ 5 [some (.ref 41), some (.int (nI 1)), none] [.ref 75] σ
    refine am_run 4 (pc' := 16) (ls' := [some (.ref 41), some (.int (nI 1)), some (.ref 75)]) (st' := [.ref 75]) (σ' := σ) rfl ?_
    refine am_invv (y := 67) (b := 75) (as := []) (rest := []) rfl rfl rfl rfl rfl rfl rfl (Nat.le_of_ble_eq_true rfl) ?_
    refine am_enter' rfl rfl rfl (by omega) (ls := [some (.ref 75)]) rfl (fun d_1 hd_1 => ?_)
    refine am_run 2 (pc' := 4) (ls' := [some (.ref 75)]) (st' := [.int (σ.1 75 3)]) (σ' := σ) rfl ?_
    refine am_top (v' := nI s) a3 ?_
    refine am_reti rfl rfl ?_
    show am_G _ M_X9_state _ 19 [some (.ref 41), some (.int (nI 1)), some (.ref 75)] [.int (nI s)] σ
    refine am_reti rfl rfl ?_
    refine ⟨rfl, ?_⟩
    refine am_enter' (M := M_X10_state) rfl rfl rfl (by omega) (ls := [some (.ref 0), some (.int (nI 1))]) rfl (fun d2 hd2 => ?_)
    refine am_run 2 (pc' := 2) (ls' := [some (.ref 0), some (.int (nI 1))]) (st' := [.int (nI 1), .ref 0]) (σ' := σ) rfl ?_
    refine am_invv (y := 151) (b := 0) (as := [.int (nI 1)]) (rest := []) rfl rfl rfl rfl rfl rfl rfl (Nat.le_of_ble_eq_true rfl) ?_
    refine c_prog1_1 (by omega) (n := n) (by exact hn2) hn1 hn60 ?_
    show am_G _ M_X10_state _ 5 [some (.ref 0), some (.int (nI 1))] [.int (nI 1)] σ
    refine am_if (ty := 17) (tn := 8) rfl (by decide) rfl rfl (fun (h_101 : nI 1 = 0) => ?_) (fun (h_101 : ¬ (nI 1 = 0)) => ?_)
    · exact absurd h_101 (by decide)
    refine am_run 3 (pc' := 13) (ls' := [some (.ref 0), some (.int (nI 1))]) (st' := [.int (nI 1), .ref 17]) (σ' := σ) rfl ?_
    refine am_ialdN (n := 2) (v := nI s) rfl rfl rfl (by decide) b3 (by decide) ?_
    refine am_run 1 (pc' := 19) (ls' := [some (.ref 0), some (.int (nI 1))]) (st' := [.int (nI s)]) (σ' := σ) rfl ?_
    refine am_reti rfl rfl ?_
    exact ⟨rfl, hI⟩
set_option maxRecDepth 10000 in
set_option maxHeartbeats 2000000 in
theorem pr_restart {d : Nat} (hd : 600 ≤ d) {σ : am_M} (hI : Inv σ) (x : Int32) : PR d 128 232 [.int x] σ := by
  rcases pl_cases hI x with hN | ⟨rfl, hF⟩ | ⟨rfl, hF⟩
  · refine ⟨-1000001, ?_⟩
    refine am_enter' (M := M_X9_restart) rfl rfl rfl (by omega) (ls := [some (.ref 41), some (.int x), none, none]) rfl (fun d' hd' => ?_)
    refine am_run 2 (pc' := 2) (ls' := [some (.ref 41), some (.int x), none, none]) (st' := [.int x, .ref 41]) (σ' := σ) rfl ?_
    refine am_invv (y := 140) (b := 41) (as := [.int x]) (rest := []) rfl rfl rfl rfl rfl rfl rfl (Nat.le_of_ble_eq_true rfl) ?_
    refine c_nf (by omega) hN ?_
    show am_G _ M_X9_restart _ 5 [some (.ref 41), some (.int x), none, none] [.null] σ
    refine am_run 4 (pc' := 12) (ls' := [some (.ref 41), some (.int x), some (.null), none]) (st' := [.int (-1000001)]) (σ' := σ) rfl ?_
    refine am_reti rfl rfl ?_
    refine ⟨rfl, ?_⟩
    refine am_enter' (M := M_X10_restart) rfl rfl rfl (by omega) (ls := [some (.ref 0), some (.int x), none]) rfl (fun d2 hd2 => ?_)
    refine am_run 2 (pc' := 2) (ls' := [some (.ref 0), some (.int x), none]) (st' := [.int x, .ref 0]) (σ' := σ) rfl ?_
    refine am_invv (y := 151) (b := 0) (as := [.int x]) (rest := []) rfl rfl rfl rfl rfl rfl rfl (Nat.le_of_ble_eq_true rfl) ?_
    refine c_np (by omega) hN ?_
    show am_G _ M_X10_restart _ 5 [some (.ref 0), some (.int x), none] [.int (nI 0)] σ
    refine am_if (ty := 8) (tn := 11) rfl (by decide) rfl rfl (fun (h_101 : nI 0 = 0) => ?_) (fun (h_101 : ¬ (nI 0 = 0)) => ?_)
    rotate_left
    · exact absurd (by decide) h_101
    refine am_run 1 (pc' := 10) (ls' := [some (.ref 0), some (.int x), none]) (st' := [.int (-1000001)]) (σ' := σ) rfl ?_
    refine am_reti rfl rfl ?_
    exact ⟨rfl, hI⟩
  · obtain ⟨hf, p, n, r, kk, rk, od, dp, ow, s, m, hP, hH⟩ := hF
    obtain ⟨hn1, hR, hro, hM, hk1, hk2, hkk, hND⟩ := id hP
    obtain ⟨a3, b3, hv, a4, b4, hm, hh⟩ := id hH
    have hW := hM.1.2.1
    have hn60 := hW.1
    have hs := hv.1
    have hrn : r < n := hM.2.1.2.1
    have hn2 := hM.1.2.2.2.1
    refine ⟨nI s, ?_⟩
    refine am_enter' (M := M_X9_restart) rfl rfl rfl (by omega) (ls := [some (.ref 41), some (.int (nI 0)), none, none]) rfl (fun d' hd' => ?_)
    refine am_run 2 (pc' := 2) (ls' := [some (.ref 41), some (.int (nI 0)), none, none]) (st' := [.int (nI 0), .ref 41]) (σ' := σ) rfl ?_
    refine am_invv (y := 140) (b := 41) (as := [.int (nI 0)]) (rest := []) rfl rfl rfl rfl rfl rfl rfl (Nat.le_of_ble_eq_true rfl) ?_
    refine c_filled0_1 (by omega) hf ?_
    show am_G _ M_X9_restart _ 5 [some (.ref 41), some (.int (nI 0)), none, none] [.ref 73] σ
    refine am_run 4 (pc' := 14) (ls' := [some (.ref 41), some (.int (nI 0)), some (.ref 73), none]) (st' := [.ref 73]) (σ' := σ) rfl ?_
    refine am_invv (y := 67) (b := 73) (as := []) (rest := []) rfl rfl rfl rfl rfl rfl rfl (Nat.le_of_ble_eq_true rfl) ?_
    refine am_enter' rfl rfl rfl (by omega) (ls := [some (.ref 73)]) rfl (fun d_1 hd_1 => ?_)
    refine am_run 2 (pc' := 4) (ls' := [some (.ref 73)]) (st' := [.int (σ.1 73 3)]) (σ' := σ) rfl ?_
    refine am_top (v' := nI s) a3 ?_
    refine am_reti rfl rfl ?_
    show am_G _ M_X9_restart _ 17 [some (.ref 41), some (.int (nI 0)), some (.ref 73), none] [.int (nI s)] σ
    refine am_run 2 (pc' := 19) (ls' := [some (.ref 41), some (.int (nI 0)), some (.ref 73), some (.int (nI s))]) (st' := [.ref 73]) (σ' := σ) rfl ?_
    refine am_invv (y := 70) (b := 73) (as := []) (rest := []) rfl rfl rfl rfl rfl rfl rfl (Nat.le_of_ble_eq_true rfl) ?_
    refine am_enter' rfl rfl rfl (by omega) (ls := [some (.ref 73)]) rfl (fun d_2 hd_2 => ?_)
    refine am_run 6 (pc' := 11) (ls' := [some (.ref 73)]) (st' := []) (σ' := (am_wr (am_wr σ 73 3 (nI 1048576)) 73 4 (nI 0))) rfl ?_
    refine am_retv rfl rfl ?_
    show am_G _ M_X9_restart _ 22 [some (.ref 41), some (.int (nI 0)), some (.ref 73), some (.int (nI s))] [] (am_wr (am_wr σ 73 3 (nI 1048576)) 73 4 (nI 0))
    refine am_run 1 (pc' := 23) (ls' := [some (.ref 41), some (.int (nI 0)), some (.ref 73), some (.int (nI s))]) (st' := [.int (nI s)]) (σ' := (am_wr (am_wr σ 73 3 (nI 1048576)) 73 4 (nI 0))) rfl ?_
    refine am_reti rfl rfl ?_
    refine ⟨rfl, ?_⟩
    refine am_enter' (M := M_X10_restart) rfl rfl rfl (by omega) (ls := [some (.ref 0), some (.int (nI 0)), none]) rfl (fun d2 hd2 => ?_)
    refine am_run 2 (pc' := 2) (ls' := [some (.ref 0), some (.int (nI 0)), none]) (st' := [.int (nI 0), .ref 0]) (σ' := (am_wr (am_wr σ 73 3 (nI 1048576)) 73 4 (nI 0))) rfl ?_
    refine am_invv (y := 151) (b := 0) (as := [.int (nI 0)]) (rest := []) rfl rfl rfl rfl rfl rfl rfl (Nat.le_of_ble_eq_true rfl) ?_
    refine c_prog0_1 (by omega) (n := n) (by exact hn2) hn1 hn60 ?_
    show am_G _ M_X10_restart _ 5 [some (.ref 0), some (.int (nI 0)), none] [.int (nI 1)] (am_wr (am_wr σ 73 3 (nI 1048576)) 73 4 (nI 0))
    refine am_if (ty := 8) (tn := 11) rfl (by decide) rfl rfl (fun (h_101 : nI 1 = 0) => ?_) (fun (h_101 : ¬ (nI 1 = 0)) => ?_)
    · exact absurd h_101 (by decide)
    refine am_run 3 (pc' := 16) (ls' := [some (.ref 0), some (.int (nI 0)), none]) (st' := [.int (nI 0), .ref 17]) (σ' := (am_wr (am_wr σ 73 3 (nI 1048576)) 73 4 (nI 0))) rfl ?_
    refine am_ialdN (n := 2) (v := nI s) rfl rfl rfl (by decide) b3 (by decide) ?_
    refine am_run 5 (pc' := 25) (ls' := [some (.ref 0), some (.int (nI 0)), some (.int (nI s))]) (st' := [.int (nI 1048576), .int (nI 0), .ref 17]) (σ' := (am_wr (am_wr σ 73 3 (nI 1048576)) 73 4 (nI 0))) rfl ?_
    refine am_iastN (n := 2) rfl rfl rfl (by decide) (by decide) ?_
    refine am_run 4 (pc' := 32) (ls' := [some (.ref 0), some (.int (nI 0)), some (.int (nI s))]) (st' := [.int (nI 0), .int (nI 0), .ref 19]) (σ' := (am_wr (am_wr (am_wr σ 73 3 (nI 1048576)) 73 4 (nI 0)) 17 0 (nI 1048576))) rfl ?_
    refine am_iastN (n := 2) rfl rfl rfl (by decide) (by decide) ?_
    refine am_run 1 (pc' := 34) (ls' := [some (.ref 0), some (.int (nI 0)), some (.int (nI s))]) (st' := [.int (nI s)]) (σ' := (am_wr (am_wr (am_wr (am_wr σ 73 3 (nI 1048576)) 73 4 (nI 0)) 17 0 (nI 1048576)) 19 0 (nI 0))) rfl ?_
    refine am_reti rfl rfl ?_
    exact ⟨rfl, hI.hs (Or.inl ⟨rfl, rfl⟩) (((((KJ.rf σ 0 73).w3 (Or.inl rfl) (by decide) _).w3 (Or.inl rfl) (by decide) _).w17 (Or.inl rfl) _).w19 (Or.inl rfl) _) hf hP (s := 1048576) (m := 0) ⟨rfl, rfl, ⟨Nat.le_refl _, Or.inr (Or.inl rfl)⟩, rfl, rfl, Nat.zero_le _, fun i z => absurd z (Nat.not_lt_zero _)⟩⟩
  · obtain ⟨hf, p, n, r, kk, rk, od, dp, ow, s, m, hP, hH⟩ := hF
    obtain ⟨hn1, hR, hro, hM, hk1, hk2, hkk, hND⟩ := id hP
    obtain ⟨a3, b3, hv, a4, b4, hm, hh⟩ := id hH
    have hW := hM.1.2.1
    have hn60 := hW.1
    have hs := hv.1
    have hrn : r < n := hM.2.1.2.1
    have hn2 := hM.1.2.2.2.1
    refine ⟨nI s, ?_⟩
    refine am_enter' (M := M_X9_restart) rfl rfl rfl (by omega) (ls := [some (.ref 41), some (.int (nI 1)), none, none]) rfl (fun d' hd' => ?_)
    refine am_run 2 (pc' := 2) (ls' := [some (.ref 41), some (.int (nI 1)), none, none]) (st' := [.int (nI 1), .ref 41]) (σ' := σ) rfl ?_
    refine am_invv (y := 140) (b := 41) (as := [.int (nI 1)]) (rest := []) rfl rfl rfl rfl rfl rfl rfl (Nat.le_of_ble_eq_true rfl) ?_
    refine c_filled1_1 (by omega) hf ?_
    show am_G _ M_X9_restart _ 5 [some (.ref 41), some (.int (nI 1)), none, none] [.ref 75] σ
    refine am_run 4 (pc' := 14) (ls' := [some (.ref 41), some (.int (nI 1)), some (.ref 75), none]) (st' := [.ref 75]) (σ' := σ) rfl ?_
    refine am_invv (y := 67) (b := 75) (as := []) (rest := []) rfl rfl rfl rfl rfl rfl rfl (Nat.le_of_ble_eq_true rfl) ?_
    refine am_enter' rfl rfl rfl (by omega) (ls := [some (.ref 75)]) rfl (fun d_1 hd_1 => ?_)
    refine am_run 2 (pc' := 4) (ls' := [some (.ref 75)]) (st' := [.int (σ.1 75 3)]) (σ' := σ) rfl ?_
    refine am_top (v' := nI s) a3 ?_
    refine am_reti rfl rfl ?_
    show am_G _ M_X9_restart _ 17 [some (.ref 41), some (.int (nI 1)), some (.ref 75), none] [.int (nI s)] σ
    refine am_run 2 (pc' := 19) (ls' := [some (.ref 41), some (.int (nI 1)), some (.ref 75), some (.int (nI s))]) (st' := [.ref 75]) (σ' := σ) rfl ?_
    refine am_invv (y := 70) (b := 75) (as := []) (rest := []) rfl rfl rfl rfl rfl rfl rfl (Nat.le_of_ble_eq_true rfl) ?_
    refine am_enter' rfl rfl rfl (by omega) (ls := [some (.ref 75)]) rfl (fun d_2 hd_2 => ?_)
    refine am_run 6 (pc' := 11) (ls' := [some (.ref 75)]) (st' := []) (σ' := (am_wr (am_wr σ 75 3 (nI 1048576)) 75 4 (nI 0))) rfl ?_
    refine am_retv rfl rfl ?_
    show am_G _ M_X9_restart _ 22 [some (.ref 41), some (.int (nI 1)), some (.ref 75), some (.int (nI s))] [] (am_wr (am_wr σ 75 3 (nI 1048576)) 75 4 (nI 0))
    refine am_run 1 (pc' := 23) (ls' := [some (.ref 41), some (.int (nI 1)), some (.ref 75), some (.int (nI s))]) (st' := [.int (nI s)]) (σ' := (am_wr (am_wr σ 75 3 (nI 1048576)) 75 4 (nI 0))) rfl ?_
    refine am_reti rfl rfl ?_
    refine ⟨rfl, ?_⟩
    refine am_enter' (M := M_X10_restart) rfl rfl rfl (by omega) (ls := [some (.ref 0), some (.int (nI 1)), none]) rfl (fun d2 hd2 => ?_)
    refine am_run 2 (pc' := 2) (ls' := [some (.ref 0), some (.int (nI 1)), none]) (st' := [.int (nI 1), .ref 0]) (σ' := (am_wr (am_wr σ 75 3 (nI 1048576)) 75 4 (nI 0))) rfl ?_
    refine am_invv (y := 151) (b := 0) (as := [.int (nI 1)]) (rest := []) rfl rfl rfl rfl rfl rfl rfl (Nat.le_of_ble_eq_true rfl) ?_
    refine c_prog1_1 (by omega) (n := n) (by exact hn2) hn1 hn60 ?_
    show am_G _ M_X10_restart _ 5 [some (.ref 0), some (.int (nI 1)), none] [.int (nI 1)] (am_wr (am_wr σ 75 3 (nI 1048576)) 75 4 (nI 0))
    refine am_if (ty := 8) (tn := 11) rfl (by decide) rfl rfl (fun (h_101 : nI 1 = 0) => ?_) (fun (h_101 : ¬ (nI 1 = 0)) => ?_)
    · exact absurd h_101 (by decide)
    refine am_run 3 (pc' := 16) (ls' := [some (.ref 0), some (.int (nI 1)), none]) (st' := [.int (nI 1), .ref 17]) (σ' := (am_wr (am_wr σ 75 3 (nI 1048576)) 75 4 (nI 0))) rfl ?_
    refine am_ialdN (n := 2) (v := nI s) rfl rfl rfl (by decide) b3 (by decide) ?_
    refine am_run 5 (pc' := 25) (ls' := [some (.ref 0), some (.int (nI 1)), some (.int (nI s))]) (st' := [.int (nI 1048576), .int (nI 1), .ref 17]) (σ' := (am_wr (am_wr σ 75 3 (nI 1048576)) 75 4 (nI 0))) rfl ?_
    refine am_iastN (n := 2) rfl rfl rfl (by decide) (by decide) ?_
    refine am_run 4 (pc' := 32) (ls' := [some (.ref 0), some (.int (nI 1)), some (.int (nI s))]) (st' := [.int (nI 0), .int (nI 1), .ref 19]) (σ' := (am_wr (am_wr (am_wr σ 75 3 (nI 1048576)) 75 4 (nI 0)) 17 1 (nI 1048576))) rfl ?_
    refine am_iastN (n := 2) rfl rfl rfl (by decide) (by decide) ?_
    refine am_run 1 (pc' := 34) (ls' := [some (.ref 0), some (.int (nI 1)), some (.int (nI s))]) (st' := [.int (nI s)]) (σ' := (am_wr (am_wr (am_wr (am_wr σ 75 3 (nI 1048576)) 75 4 (nI 0)) 17 1 (nI 1048576)) 19 1 (nI 0))) rfl ?_
    refine am_reti rfl rfl ?_
    exact ⟨rfl, hI.hs (Or.inr ⟨rfl, rfl⟩) (((((KJ.rf σ 1 75).w3 (Or.inr rfl) (by decide) _).w3 (Or.inr rfl) (by decide) _).w17 (Or.inr rfl) _).w19 (Or.inr rfl) _) hf hP (s := 1048576) (m := 0) ⟨rfl, rfl, ⟨Nat.le_refl _, Or.inr (Or.inl rfl)⟩, rfl, rfl, Nat.zero_le _, fun i z => absurd z (Nat.not_lt_zero _)⟩⟩
set_option maxRecDepth 10000 in
set_option maxHeartbeats 2000000 in
theorem pr_undo {d : Nat} (hd : 600 ≤ d) {σ : am_M} (hI : Inv σ) (x : Int32) : PR d 127 231 [.int x] σ := by
  rcases pl_cases hI x with hN | ⟨rfl, hF⟩ | ⟨rfl, hF⟩
  · refine ⟨-1000001, ?_⟩
    refine am_enter' (M := M_X9_undo) rfl rfl rfl (by omega) (ls := [some (.ref 41), some (.int x), none]) rfl (fun d' hd' => ?_)
    refine am_run 2 (pc' := 2) (ls' := [some (.ref 41), some (.int x), none]) (st' := [.int x, .ref 41]) (σ' := σ) rfl ?_
    refine am_invv (y := 140) (b := 41) (as := [.int x]) (rest := []) rfl rfl rfl rfl rfl rfl rfl (Nat.le_of_ble_eq_true rfl) ?_
    refine c_nf (by omega) hN ?_
    show am_G _ M_X9_undo _ 5 [some (.ref 41), some (.int x), none] [.null] σ
    refine am_run 4 (pc' := 12) (ls' := [some (.ref 41), some (.int x), some (.null)]) (st' := [.int (-1000001)]) (σ' := σ) rfl ?_
    refine am_reti rfl rfl ?_
    refine ⟨rfl, ?_⟩
    refine am_enter' (M := M_X10_undo) rfl rfl rfl (by omega) (ls := [some (.ref 0), some (.int x)]) rfl (fun d2 hd2 => ?_)
    refine am_run 2 (pc' := 2) (ls' := [some (.ref 0), some (.int x)]) (st' := [.int x, .ref 0]) (σ' := σ) rfl ?_
    refine am_invv (y := 151) (b := 0) (as := [.int x]) (rest := []) rfl rfl rfl rfl rfl rfl rfl (Nat.le_of_ble_eq_true rfl) ?_
    refine c_np (by omega) hN ?_
    show am_G _ M_X10_undo _ 5 [some (.ref 0), some (.int x)] [.int (nI 0)] σ
    refine am_if (ty := 8) (tn := 11) rfl (by decide) rfl rfl (fun (h_101 : nI 0 = 0) => ?_) (fun (h_101 : ¬ (nI 0 = 0)) => ?_)
    rotate_left
    · exact absurd (by decide) h_101
    refine am_run 1 (pc' := 10) (ls' := [some (.ref 0), some (.int x)]) (st' := [.int (-1000001)]) (σ' := σ) rfl ?_
    refine am_reti rfl rfl ?_
    exact ⟨rfl, hI⟩
  · obtain ⟨hf, p, n, r, kk, rk, od, dp, ow, s, m, hP, hH⟩ := hF
    obtain ⟨hn1, hR, hro, hM, hk1, hk2, hkk, hND⟩ := id hP
    obtain ⟨a3, b3, hv, a4, b4, hm, hh⟩ := id hH
    have hW := hM.1.2.1
    have hn60 := hW.1
    have hs := hv.1
    have hrn : r < n := hM.2.1.2.1
    have hn2 := hM.1.2.2.2.1
    cases m with
    | zero =>
      refine ⟨-1000003, ?_⟩
      refine am_enter' (M := M_X9_undo) rfl rfl rfl (by omega) (ls := [some (.ref 41), some (.int (nI 0)), none]) rfl (fun d' hd' => ?_)
      refine am_run 2 (pc' := 2) (ls' := [some (.ref 41), some (.int (nI 0)), none]) (st' := [.int (nI 0), .ref 41]) (σ' := σ) rfl ?_
      refine am_invv (y := 140) (b := 41) (as := [.int (nI 0)]) (rest := []) rfl rfl rfl rfl rfl rfl rfl (Nat.le_of_ble_eq_true rfl) ?_
      refine c_filled0_1 (by omega) hf ?_
      show am_G _ M_X9_undo _ 5 [some (.ref 41), some (.int (nI 0)), none] [.ref 73] σ
      refine am_run 4 (pc' := 14) (ls' := [some (.ref 41), some (.int (nI 0)), some (.ref 73)]) (st' := [.ref 73]) (σ' := σ) rfl ?_
      refine am_invv (y := 68) (b := 73) (as := []) (rest := []) rfl rfl rfl rfl rfl rfl rfl (Nat.le_of_ble_eq_true rfl) ?_
      refine am_enter' rfl rfl rfl (by omega) (ls := [some (.ref 73)]) rfl (fun d_1 hd_1 => ?_)
      refine am_run 2 (pc' := 4) (ls' := [some (.ref 73)]) (st' := [.int (σ.1 73 4)]) (σ' := σ) rfl ?_
      refine am_top (v' := nI 0) a4 ?_
      refine am_reti rfl rfl ?_
      show am_G _ M_X9_undo _ 17 [some (.ref 41), some (.int (nI 0)), some (.ref 73)] [.int (nI 0)] σ
      refine am_if (ty := 20) (tn := 23) rfl (by decide) rfl rfl (fun (h_2 : nI 0 = 0) => ?_) (fun (h_2 : ¬ (nI 0 = 0)) => ?_)
      rotate_left
      · exact absurd (by decide) h_2
      refine am_run 1 (pc' := 22) (ls' := [some (.ref 41), some (.int (nI 0)), some (.ref 73)]) (st' := [.int (-1000003)]) (σ' := σ) rfl ?_
      refine am_reti rfl rfl ?_
      refine ⟨rfl, ?_⟩
      refine am_enter' (M := M_X10_undo) rfl rfl rfl (by omega) (ls := [some (.ref 0), some (.int (nI 0))]) rfl (fun d2 hd2 => ?_)
      refine am_run 2 (pc' := 2) (ls' := [some (.ref 0), some (.int (nI 0))]) (st' := [.int (nI 0), .ref 0]) (σ' := σ) rfl ?_
      refine am_invv (y := 151) (b := 0) (as := [.int (nI 0)]) (rest := []) rfl rfl rfl rfl rfl rfl rfl (Nat.le_of_ble_eq_true rfl) ?_
      refine c_prog0_1 (by omega) (n := n) (by exact hn2) hn1 hn60 ?_
      show am_G _ M_X10_undo _ 5 [some (.ref 0), some (.int (nI 0))] [.int (nI 1)] σ
      refine am_if (ty := 8) (tn := 11) rfl (by decide) rfl rfl (fun (h_101 : nI 1 = 0) => ?_) (fun (h_101 : ¬ (nI 1 = 0)) => ?_)
      · exact absurd h_101 (by decide)
      refine am_run 3 (pc' := 16) (ls' := [some (.ref 0), some (.int (nI 0))]) (st' := [.int (nI 0), .ref 19]) (σ' := σ) rfl ?_
      refine am_ialdN (n := 2) (v := nI 0) rfl rfl rfl (by decide) b4 (by decide) ?_
      refine am_if (ty := 20) (tn := 24) rfl (by decide) rfl rfl (fun (h_102 : nI 0 = 0) => ?_) (fun (h_102 : ¬ (nI 0 = 0)) => ?_)
      rotate_left
      · exact absurd (by decide) h_102
      refine am_run 1 (pc' := 23) (ls' := [some (.ref 0), some (.int (nI 0))]) (st' := [.int (-1000003)]) (σ' := σ) rfl ?_
      refine am_reti rfl rfl ?_
      exact ⟨rfl, hI⟩
    | succ m =>
      obtain ⟨s1, e1, e2, hv1⟩ := hh m (by omega)
      refine ⟨nI m, ?_⟩
      refine am_enter' (M := M_X9_undo) rfl rfl rfl (by omega) (ls := [some (.ref 41), some (.int (nI 0)), none]) rfl (fun d' hd' => ?_)
      refine am_run 2 (pc' := 2) (ls' := [some (.ref 41), some (.int (nI 0)), none]) (st' := [.int (nI 0), .ref 41]) (σ' := σ) rfl ?_
      refine am_invv (y := 140) (b := 41) (as := [.int (nI 0)]) (rest := []) rfl rfl rfl rfl rfl rfl rfl (Nat.le_of_ble_eq_true rfl) ?_
      refine c_filled0_1 (by omega) hf ?_
      show am_G _ M_X9_undo _ 5 [some (.ref 41), some (.int (nI 0)), none] [.ref 73] σ
      refine am_run 4 (pc' := 14) (ls' := [some (.ref 41), some (.int (nI 0)), some (.ref 73)]) (st' := [.ref 73]) (σ' := σ) rfl ?_
      refine am_invv (y := 68) (b := 73) (as := []) (rest := []) rfl rfl rfl rfl rfl rfl rfl (Nat.le_of_ble_eq_true rfl) ?_
      refine am_enter' rfl rfl rfl (by omega) (ls := [some (.ref 73)]) rfl (fun d_1 hd_1 => ?_)
      refine am_run 2 (pc' := 4) (ls' := [some (.ref 73)]) (st' := [.int (σ.1 73 4)]) (σ' := σ) rfl ?_
      refine am_top (v' := nI (m + 1)) a4 ?_
      refine am_reti rfl rfl ?_
      show am_G _ M_X9_undo _ 17 [some (.ref 41), some (.int (nI 0)), some (.ref 73)] [.int (nI (m + 1))] σ
      refine am_if (ty := 20) (tn := 23) rfl (by decide) rfl rfl (fun (h_2 : nI (m + 1) = 0) => ?_) (fun (h_2 : ¬ (nI (m + 1) = 0)) => ?_)
      · have h_2 : m + 1 = 0 := (am_n0 (by omega)).mp h_2
        omega
      have h_2 : ¬ (m + 1 = 0) := fun z => h_2 ((am_n0 (by omega)).mpr z)
      refine am_run 1 (pc' := 24) (ls' := [some (.ref 41), some (.int (nI 0)), some (.ref 73)]) (st' := [.ref 73]) (σ' := σ) rfl ?_
      refine am_invv (y := 72) (b := 73) (as := []) (rest := []) rfl rfl rfl rfl rfl rfl rfl (Nat.le_of_ble_eq_true rfl) ?_
      refine am_enter' rfl rfl rfl (by omega) (ls := [some (.ref 73)]) rfl (fun d_3 hd_3 => ?_)
      refine am_run 2 (pc' := 4) (ls' := [some (.ref 73)]) (st' := [.int (σ.1 73 4)]) (σ' := σ) rfl ?_
      refine am_top (v' := nI (m + 1)) a4 ?_
      refine am_if (ty := 7) (tn := 39) rfl (by decide) rfl rfl (fun (h_4 : 0 < nI (m + 1)) => ?_) (fun (h_4 : ¬ (0 < nI (m + 1))) => ?_)
      rotate_left
      · have h_4 : ¬ (0 < m + 1) := fun z => h_4 ((am_0ltn (by omega)).mpr z)
        omega
      have h_4 : 0 < m + 1 := (am_0ltn (by omega)).mp h_4
      refine am_run 2 (pc' := 11) (ls' := [some (.ref 73)]) (st' := [.int (σ.1 73 4)]) (σ' := σ) rfl ?_
      refine am_top (v' := nI (m + 1)) a4 ?_
      refine am_run 1 (pc' := 13) (ls' := [some (.ref 73)]) (st' := [.int (nI 20), .int (nI (m + 1))]) (σ' := σ) rfl ?_
      refine am_ic (ty := 39) (tn := 16) rfl (by decide) rfl rfl (fun (h_5 : nI 20 < nI (m + 1)) => ?_) (fun (h_5 : ¬ (nI 20 < nI (m + 1))) => ?_)
      · have h_5 : 20 < m + 1 := (nI_ltI (by omega) (by omega)).mp h_5
        omega
      have h_5 : ¬ (20 < m + 1) := fun z => h_5 ((nI_ltI (by omega) (by omega)).mpr z)
      refine am_run 3 (pc' := 21) (ls' := [some (.ref 73)]) (st' := [.int (σ.1 73 4), .ref 73]) (σ' := σ) rfl ?_
      refine am_top (v' := nI (m + 1)) a4 ?_
      refine am_run 2 (pc' := 23) (ls' := [some (.ref 73)]) (st' := [.int (nI (m + 1) - nI 1), .ref 73]) (σ' := σ) rfl ?_
      refine am_top (v' := nI m) (nx_sub (by omega)) ?_
      refine am_run 6 (pc' := 35) (ls' := [some (.ref 73)]) (st' := [.int (nI m), .ref 74, .ref 73]) (σ' := (am_wr σ 73 4 (nI m))) rfl ?_
      refine am_ialdN (n := 20) (v := nI s1) rfl rfl rfl (by omega) e1 (by decide) ?_
      refine am_run 1 (pc' := 39) (ls' := [some (.ref 73)]) (st' := []) (σ' := (am_wr (am_wr σ 73 4 (nI m)) 73 3 (nI s1))) rfl ?_
      refine am_retv rfl rfl ?_
      show am_G _ M_X9_undo _ 27 [some (.ref 41), some (.int (nI 0)), some (.ref 73)] [] (am_wr (am_wr σ 73 4 (nI m)) 73 3 (nI s1))
      refine am_run 1 (pc' := 28) (ls' := [some (.ref 41), some (.int (nI 0)), some (.ref 73)]) (st' := [.ref 73]) (σ' := (am_wr (am_wr σ 73 4 (nI m)) 73 3 (nI s1))) rfl ?_
      refine am_invv (y := 68) (b := 73) (as := []) (rest := []) rfl rfl rfl rfl rfl rfl rfl (Nat.le_of_ble_eq_true rfl) ?_
      refine am_enter' rfl rfl rfl (by omega) (ls := [some (.ref 73)]) rfl (fun d_6 hd_6 => ?_)
      refine am_run 2 (pc' := 4) (ls' := [some (.ref 73)]) (st' := [.int (nI m)]) (σ' := (am_wr (am_wr σ 73 4 (nI m)) 73 3 (nI s1))) rfl ?_
      refine am_reti rfl rfl ?_
      show am_G _ M_X9_undo _ 31 [some (.ref 41), some (.int (nI 0)), some (.ref 73)] [.int (nI m)] (am_wr (am_wr σ 73 4 (nI m)) 73 3 (nI s1))
      refine am_reti rfl rfl ?_
      refine ⟨rfl, ?_⟩
      refine am_enter' (M := M_X10_undo) rfl rfl rfl (by omega) (ls := [some (.ref 0), some (.int (nI 0))]) rfl (fun d2 hd2 => ?_)
      refine am_run 2 (pc' := 2) (ls' := [some (.ref 0), some (.int (nI 0))]) (st' := [.int (nI 0), .ref 0]) (σ' := (am_wr (am_wr σ 73 4 (nI m)) 73 3 (nI s1))) rfl ?_
      refine am_invv (y := 151) (b := 0) (as := [.int (nI 0)]) (rest := []) rfl rfl rfl rfl rfl rfl rfl (Nat.le_of_ble_eq_true rfl) ?_
      refine c_prog0_1 (by omega) (n := n) (by exact hn2) hn1 hn60 ?_
      show am_G _ M_X10_undo _ 5 [some (.ref 0), some (.int (nI 0))] [.int (nI 1)] (am_wr (am_wr σ 73 4 (nI m)) 73 3 (nI s1))
      refine am_if (ty := 8) (tn := 11) rfl (by decide) rfl rfl (fun (h_101 : nI 1 = 0) => ?_) (fun (h_101 : ¬ (nI 1 = 0)) => ?_)
      · exact absurd h_101 (by decide)
      refine am_run 3 (pc' := 16) (ls' := [some (.ref 0), some (.int (nI 0))]) (st' := [.int (nI 0), .ref 19]) (σ' := (am_wr (am_wr σ 73 4 (nI m)) 73 3 (nI s1))) rfl ?_
      refine am_ialdN (n := 2) (v := nI (m + 1)) rfl rfl rfl (by omega) b4 (by decide) ?_
      refine am_if (ty := 20) (tn := 24) rfl (by decide) rfl rfl (fun (h_102 : nI (m + 1) = 0) => ?_) (fun (h_102 : ¬ (nI (m + 1) = 0)) => ?_)
      · have h_102 : m + 1 = 0 := (am_n0 (by omega)).mp h_102
        omega
      have h_102 : ¬ (m + 1 = 0) := fun z => h_102 ((am_n0 (by omega)).mpr z)
      refine am_run 4 (pc' := 30) (ls' := [some (.ref 0), some (.int (nI 0))]) (st' := [.int (nI 0), .ref 19, .int (nI 0), .ref 19]) (σ' := (am_wr (am_wr σ 73 4 (nI m)) 73 3 (nI s1))) rfl ?_
      refine am_ialdN (n := 2) (v := nI (m + 1)) rfl rfl rfl (by omega) b4 (by decide) ?_
      refine am_run 2 (pc' := 33) (ls' := [some (.ref 0), some (.int (nI 0))]) (st' := [.int (nI (m + 1) - nI 1), .int (nI 0), .ref 19]) (σ' := (am_wr (am_wr σ 73 4 (nI m)) 73 3 (nI s1))) rfl ?_
      refine am_top (v' := nI m) (nx_sub (by omega)) ?_
      refine am_iastN (n := 2) rfl rfl rfl (by omega) (by decide) ?_
      refine am_run 8 (pc' := 47) (ls' := [some (.ref 0), some (.int (nI 0))]) (st' := [.int (nI 20 * nI 0), .ref 18, .int (nI 0), .ref 17]) (σ' := (am_wr (am_wr (am_wr σ 73 4 (nI m)) 73 3 (nI s1)) 19 0 (nI m))) rfl ?_
      refine am_top (v' := nI 0) (am_nmul _ _) ?_
      refine am_run 3 (pc' := 52) (ls' := [some (.ref 0), some (.int (nI 0))]) (st' := [.int (nI 0), .ref 19, .int (nI 0), .ref 18, .int (nI 0), .ref 17]) (σ' := (am_wr (am_wr (am_wr σ 73 4 (nI m)) 73 3 (nI s1)) 19 0 (nI m))) rfl ?_
      refine am_ialdN (n := 2) (v := nI m) rfl rfl rfl (by omega) rfl (by decide) ?_
      refine am_run 1 (pc' := 54) (ls' := [some (.ref 0), some (.int (nI 0))]) (st' := [.int (nI 0 + nI m), .ref 18, .int (nI 0), .ref 17]) (σ' := (am_wr (am_wr (am_wr σ 73 4 (nI m)) 73 3 (nI s1)) 19 0 (nI m))) rfl ?_
      refine am_top (v' := nI (0 + m)) (nI_add _ _) ?_
      refine am_ialdN (n := 40) (v := nI s1) rfl rfl rfl (by omega) e2 (by decide) ?_
      refine am_iastN (n := 2) rfl rfl rfl (by omega) (by decide) ?_
      refine am_run 3 (pc' := 61) (ls' := [some (.ref 0), some (.int (nI 0))]) (st' := [.int (nI 0), .ref 19]) (σ' := (am_wr (am_wr (am_wr (am_wr σ 73 4 (nI m)) 73 3 (nI s1)) 19 0 (nI m)) 17 0 (nI s1))) rfl ?_
      refine am_ialdN (n := 2) (v := nI m) rfl rfl rfl (by omega) rfl (by decide) ?_
      refine am_reti rfl rfl ?_
      exact ⟨rfl, hI.hs (Or.inl ⟨rfl, rfl⟩) (((((KJ.rf σ 0 73).w3 (Or.inl rfl) (by decide) _).w3 (Or.inl rfl) (by decide) _).w19 (Or.inl rfl) _).w17 (Or.inl rfl) _) hf hP (s := s1) (m := m) ⟨rfl, rfl, hv1, rfl, rfl, by omega, fun i hi => hh i (by omega)⟩⟩
  · obtain ⟨hf, p, n, r, kk, rk, od, dp, ow, s, m, hP, hH⟩ := hF
    obtain ⟨hn1, hR, hro, hM, hk1, hk2, hkk, hND⟩ := id hP
    obtain ⟨a3, b3, hv, a4, b4, hm, hh⟩ := id hH
    have hW := hM.1.2.1
    have hn60 := hW.1
    have hs := hv.1
    have hrn : r < n := hM.2.1.2.1
    have hn2 := hM.1.2.2.2.1
    cases m with
    | zero =>
      refine ⟨-1000003, ?_⟩
      refine am_enter' (M := M_X9_undo) rfl rfl rfl (by omega) (ls := [some (.ref 41), some (.int (nI 1)), none]) rfl (fun d' hd' => ?_)
      refine am_run 2 (pc' := 2) (ls' := [some (.ref 41), some (.int (nI 1)), none]) (st' := [.int (nI 1), .ref 41]) (σ' := σ) rfl ?_
      refine am_invv (y := 140) (b := 41) (as := [.int (nI 1)]) (rest := []) rfl rfl rfl rfl rfl rfl rfl (Nat.le_of_ble_eq_true rfl) ?_
      refine c_filled1_1 (by omega) hf ?_
      show am_G _ M_X9_undo _ 5 [some (.ref 41), some (.int (nI 1)), none] [.ref 75] σ
      refine am_run 4 (pc' := 14) (ls' := [some (.ref 41), some (.int (nI 1)), some (.ref 75)]) (st' := [.ref 75]) (σ' := σ) rfl ?_
      refine am_invv (y := 68) (b := 75) (as := []) (rest := []) rfl rfl rfl rfl rfl rfl rfl (Nat.le_of_ble_eq_true rfl) ?_
      refine am_enter' rfl rfl rfl (by omega) (ls := [some (.ref 75)]) rfl (fun d_1 hd_1 => ?_)
      refine am_run 2 (pc' := 4) (ls' := [some (.ref 75)]) (st' := [.int (σ.1 75 4)]) (σ' := σ) rfl ?_
      refine am_top (v' := nI 0) a4 ?_
      refine am_reti rfl rfl ?_
      show am_G _ M_X9_undo _ 17 [some (.ref 41), some (.int (nI 1)), some (.ref 75)] [.int (nI 0)] σ
      refine am_if (ty := 20) (tn := 23) rfl (by decide) rfl rfl (fun (h_2 : nI 0 = 0) => ?_) (fun (h_2 : ¬ (nI 0 = 0)) => ?_)
      rotate_left
      · exact absurd (by decide) h_2
      refine am_run 1 (pc' := 22) (ls' := [some (.ref 41), some (.int (nI 1)), some (.ref 75)]) (st' := [.int (-1000003)]) (σ' := σ) rfl ?_
      refine am_reti rfl rfl ?_
      refine ⟨rfl, ?_⟩
      refine am_enter' (M := M_X10_undo) rfl rfl rfl (by omega) (ls := [some (.ref 0), some (.int (nI 1))]) rfl (fun d2 hd2 => ?_)
      refine am_run 2 (pc' := 2) (ls' := [some (.ref 0), some (.int (nI 1))]) (st' := [.int (nI 1), .ref 0]) (σ' := σ) rfl ?_
      refine am_invv (y := 151) (b := 0) (as := [.int (nI 1)]) (rest := []) rfl rfl rfl rfl rfl rfl rfl (Nat.le_of_ble_eq_true rfl) ?_
      refine c_prog1_1 (by omega) (n := n) (by exact hn2) hn1 hn60 ?_
      show am_G _ M_X10_undo _ 5 [some (.ref 0), some (.int (nI 1))] [.int (nI 1)] σ
      refine am_if (ty := 8) (tn := 11) rfl (by decide) rfl rfl (fun (h_101 : nI 1 = 0) => ?_) (fun (h_101 : ¬ (nI 1 = 0)) => ?_)
      · exact absurd h_101 (by decide)
      refine am_run 3 (pc' := 16) (ls' := [some (.ref 0), some (.int (nI 1))]) (st' := [.int (nI 1), .ref 19]) (σ' := σ) rfl ?_
      refine am_ialdN (n := 2) (v := nI 0) rfl rfl rfl (by decide) b4 (by decide) ?_
      refine am_if (ty := 20) (tn := 24) rfl (by decide) rfl rfl (fun (h_102 : nI 0 = 0) => ?_) (fun (h_102 : ¬ (nI 0 = 0)) => ?_)
      rotate_left
      · exact absurd (by decide) h_102
      refine am_run 1 (pc' := 23) (ls' := [some (.ref 0), some (.int (nI 1))]) (st' := [.int (-1000003)]) (σ' := σ) rfl ?_
      refine am_reti rfl rfl ?_
      exact ⟨rfl, hI⟩
    | succ m =>
      obtain ⟨s1, e1, e2, hv1⟩ := hh m (by omega)
      refine ⟨nI m, ?_⟩
      refine am_enter' (M := M_X9_undo) rfl rfl rfl (by omega) (ls := [some (.ref 41), some (.int (nI 1)), none]) rfl (fun d' hd' => ?_)
      refine am_run 2 (pc' := 2) (ls' := [some (.ref 41), some (.int (nI 1)), none]) (st' := [.int (nI 1), .ref 41]) (σ' := σ) rfl ?_
      refine am_invv (y := 140) (b := 41) (as := [.int (nI 1)]) (rest := []) rfl rfl rfl rfl rfl rfl rfl (Nat.le_of_ble_eq_true rfl) ?_
      refine c_filled1_1 (by omega) hf ?_
      show am_G _ M_X9_undo _ 5 [some (.ref 41), some (.int (nI 1)), none] [.ref 75] σ
      refine am_run 4 (pc' := 14) (ls' := [some (.ref 41), some (.int (nI 1)), some (.ref 75)]) (st' := [.ref 75]) (σ' := σ) rfl ?_
      refine am_invv (y := 68) (b := 75) (as := []) (rest := []) rfl rfl rfl rfl rfl rfl rfl (Nat.le_of_ble_eq_true rfl) ?_
      refine am_enter' rfl rfl rfl (by omega) (ls := [some (.ref 75)]) rfl (fun d_1 hd_1 => ?_)
      refine am_run 2 (pc' := 4) (ls' := [some (.ref 75)]) (st' := [.int (σ.1 75 4)]) (σ' := σ) rfl ?_
      refine am_top (v' := nI (m + 1)) a4 ?_
      refine am_reti rfl rfl ?_
      show am_G _ M_X9_undo _ 17 [some (.ref 41), some (.int (nI 1)), some (.ref 75)] [.int (nI (m + 1))] σ
      refine am_if (ty := 20) (tn := 23) rfl (by decide) rfl rfl (fun (h_2 : nI (m + 1) = 0) => ?_) (fun (h_2 : ¬ (nI (m + 1) = 0)) => ?_)
      · have h_2 : m + 1 = 0 := (am_n0 (by omega)).mp h_2
        omega
      have h_2 : ¬ (m + 1 = 0) := fun z => h_2 ((am_n0 (by omega)).mpr z)
      refine am_run 1 (pc' := 24) (ls' := [some (.ref 41), some (.int (nI 1)), some (.ref 75)]) (st' := [.ref 75]) (σ' := σ) rfl ?_
      refine am_invv (y := 72) (b := 75) (as := []) (rest := []) rfl rfl rfl rfl rfl rfl rfl (Nat.le_of_ble_eq_true rfl) ?_
      refine am_enter' rfl rfl rfl (by omega) (ls := [some (.ref 75)]) rfl (fun d_3 hd_3 => ?_)
      refine am_run 2 (pc' := 4) (ls' := [some (.ref 75)]) (st' := [.int (σ.1 75 4)]) (σ' := σ) rfl ?_
      refine am_top (v' := nI (m + 1)) a4 ?_
      refine am_if (ty := 7) (tn := 39) rfl (by decide) rfl rfl (fun (h_4 : 0 < nI (m + 1)) => ?_) (fun (h_4 : ¬ (0 < nI (m + 1))) => ?_)
      rotate_left
      · have h_4 : ¬ (0 < m + 1) := fun z => h_4 ((am_0ltn (by omega)).mpr z)
        omega
      have h_4 : 0 < m + 1 := (am_0ltn (by omega)).mp h_4
      refine am_run 2 (pc' := 11) (ls' := [some (.ref 75)]) (st' := [.int (σ.1 75 4)]) (σ' := σ) rfl ?_
      refine am_top (v' := nI (m + 1)) a4 ?_
      refine am_run 1 (pc' := 13) (ls' := [some (.ref 75)]) (st' := [.int (nI 20), .int (nI (m + 1))]) (σ' := σ) rfl ?_
      refine am_ic (ty := 39) (tn := 16) rfl (by decide) rfl rfl (fun (h_5 : nI 20 < nI (m + 1)) => ?_) (fun (h_5 : ¬ (nI 20 < nI (m + 1))) => ?_)
      · have h_5 : 20 < m + 1 := (nI_ltI (by omega) (by omega)).mp h_5
        omega
      have h_5 : ¬ (20 < m + 1) := fun z => h_5 ((nI_ltI (by omega) (by omega)).mpr z)
      refine am_run 3 (pc' := 21) (ls' := [some (.ref 75)]) (st' := [.int (σ.1 75 4), .ref 75]) (σ' := σ) rfl ?_
      refine am_top (v' := nI (m + 1)) a4 ?_
      refine am_run 2 (pc' := 23) (ls' := [some (.ref 75)]) (st' := [.int (nI (m + 1) - nI 1), .ref 75]) (σ' := σ) rfl ?_
      refine am_top (v' := nI m) (nx_sub (by omega)) ?_
      refine am_run 6 (pc' := 35) (ls' := [some (.ref 75)]) (st' := [.int (nI m), .ref 76, .ref 75]) (σ' := (am_wr σ 75 4 (nI m))) rfl ?_
      refine am_ialdN (n := 20) (v := nI s1) rfl rfl rfl (by omega) e1 (by decide) ?_
      refine am_run 1 (pc' := 39) (ls' := [some (.ref 75)]) (st' := []) (σ' := (am_wr (am_wr σ 75 4 (nI m)) 75 3 (nI s1))) rfl ?_
      refine am_retv rfl rfl ?_
      show am_G _ M_X9_undo _ 27 [some (.ref 41), some (.int (nI 1)), some (.ref 75)] [] (am_wr (am_wr σ 75 4 (nI m)) 75 3 (nI s1))
      refine am_run 1 (pc' := 28) (ls' := [some (.ref 41), some (.int (nI 1)), some (.ref 75)]) (st' := [.ref 75]) (σ' := (am_wr (am_wr σ 75 4 (nI m)) 75 3 (nI s1))) rfl ?_
      refine am_invv (y := 68) (b := 75) (as := []) (rest := []) rfl rfl rfl rfl rfl rfl rfl (Nat.le_of_ble_eq_true rfl) ?_
      refine am_enter' rfl rfl rfl (by omega) (ls := [some (.ref 75)]) rfl (fun d_6 hd_6 => ?_)
      refine am_run 2 (pc' := 4) (ls' := [some (.ref 75)]) (st' := [.int (nI m)]) (σ' := (am_wr (am_wr σ 75 4 (nI m)) 75 3 (nI s1))) rfl ?_
      refine am_reti rfl rfl ?_
      show am_G _ M_X9_undo _ 31 [some (.ref 41), some (.int (nI 1)), some (.ref 75)] [.int (nI m)] (am_wr (am_wr σ 75 4 (nI m)) 75 3 (nI s1))
      refine am_reti rfl rfl ?_
      refine ⟨rfl, ?_⟩
      refine am_enter' (M := M_X10_undo) rfl rfl rfl (by omega) (ls := [some (.ref 0), some (.int (nI 1))]) rfl (fun d2 hd2 => ?_)
      refine am_run 2 (pc' := 2) (ls' := [some (.ref 0), some (.int (nI 1))]) (st' := [.int (nI 1), .ref 0]) (σ' := (am_wr (am_wr σ 75 4 (nI m)) 75 3 (nI s1))) rfl ?_
      refine am_invv (y := 151) (b := 0) (as := [.int (nI 1)]) (rest := []) rfl rfl rfl rfl rfl rfl rfl (Nat.le_of_ble_eq_true rfl) ?_
      refine c_prog1_1 (by omega) (n := n) (by exact hn2) hn1 hn60 ?_
      show am_G _ M_X10_undo _ 5 [some (.ref 0), some (.int (nI 1))] [.int (nI 1)] (am_wr (am_wr σ 75 4 (nI m)) 75 3 (nI s1))
      refine am_if (ty := 8) (tn := 11) rfl (by decide) rfl rfl (fun (h_101 : nI 1 = 0) => ?_) (fun (h_101 : ¬ (nI 1 = 0)) => ?_)
      · exact absurd h_101 (by decide)
      refine am_run 3 (pc' := 16) (ls' := [some (.ref 0), some (.int (nI 1))]) (st' := [.int (nI 1), .ref 19]) (σ' := (am_wr (am_wr σ 75 4 (nI m)) 75 3 (nI s1))) rfl ?_
      refine am_ialdN (n := 2) (v := nI (m + 1)) rfl rfl rfl (by omega) b4 (by decide) ?_
      refine am_if (ty := 20) (tn := 24) rfl (by decide) rfl rfl (fun (h_102 : nI (m + 1) = 0) => ?_) (fun (h_102 : ¬ (nI (m + 1) = 0)) => ?_)
      · have h_102 : m + 1 = 0 := (am_n0 (by omega)).mp h_102
        omega
      have h_102 : ¬ (m + 1 = 0) := fun z => h_102 ((am_n0 (by omega)).mpr z)
      refine am_run 4 (pc' := 30) (ls' := [some (.ref 0), some (.int (nI 1))]) (st' := [.int (nI 1), .ref 19, .int (nI 1), .ref 19]) (σ' := (am_wr (am_wr σ 75 4 (nI m)) 75 3 (nI s1))) rfl ?_
      refine am_ialdN (n := 2) (v := nI (m + 1)) rfl rfl rfl (by omega) b4 (by decide) ?_
      refine am_run 2 (pc' := 33) (ls' := [some (.ref 0), some (.int (nI 1))]) (st' := [.int (nI (m + 1) - nI 1), .int (nI 1), .ref 19]) (σ' := (am_wr (am_wr σ 75 4 (nI m)) 75 3 (nI s1))) rfl ?_
      refine am_top (v' := nI m) (nx_sub (by omega)) ?_
      refine am_iastN (n := 2) rfl rfl rfl (by omega) (by decide) ?_
      refine am_run 8 (pc' := 47) (ls' := [some (.ref 0), some (.int (nI 1))]) (st' := [.int (nI 20 * nI 1), .ref 18, .int (nI 1), .ref 17]) (σ' := (am_wr (am_wr (am_wr σ 75 4 (nI m)) 75 3 (nI s1)) 19 1 (nI m))) rfl ?_
      refine am_top (v' := nI 20) (am_nmul _ _) ?_
      refine am_run 3 (pc' := 52) (ls' := [some (.ref 0), some (.int (nI 1))]) (st' := [.int (nI 1), .ref 19, .int (nI 20), .ref 18, .int (nI 1), .ref 17]) (σ' := (am_wr (am_wr (am_wr σ 75 4 (nI m)) 75 3 (nI s1)) 19 1 (nI m))) rfl ?_
      refine am_ialdN (n := 2) (v := nI m) rfl rfl rfl (by omega) rfl (by decide) ?_
      refine am_run 1 (pc' := 54) (ls' := [some (.ref 0), some (.int (nI 1))]) (st' := [.int (nI 20 + nI m), .ref 18, .int (nI 1), .ref 17]) (σ' := (am_wr (am_wr (am_wr σ 75 4 (nI m)) 75 3 (nI s1)) 19 1 (nI m))) rfl ?_
      refine am_top (v' := nI (20 + m)) (nI_add _ _) ?_
      refine am_ialdN (n := 40) (v := nI s1) rfl rfl rfl (by omega) e2 (by decide) ?_
      refine am_iastN (n := 2) rfl rfl rfl (by omega) (by decide) ?_
      refine am_run 3 (pc' := 61) (ls' := [some (.ref 0), some (.int (nI 1))]) (st' := [.int (nI 1), .ref 19]) (σ' := (am_wr (am_wr (am_wr (am_wr σ 75 4 (nI m)) 75 3 (nI s1)) 19 1 (nI m)) 17 1 (nI s1))) rfl ?_
      refine am_ialdN (n := 2) (v := nI m) rfl rfl rfl (by omega) rfl (by decide) ?_
      refine am_reti rfl rfl ?_
      exact ⟨rfl, hI.hs (Or.inr ⟨rfl, rfl⟩) (((((KJ.rf σ 1 75).w3 (Or.inr rfl) (by decide) _).w3 (Or.inr rfl) (by decide) _).w19 (Or.inr rfl) _).w17 (Or.inr rfl) _) hf hP (s := s1) (m := m) ⟨rfl, rfl, hv1, rfl, rfl, by omega, fun i hi => hh i (by omega)⟩⟩
set_option maxRecDepth 10000 in
set_option maxHeartbeats 2000000 in
theorem pr_count {d : Nat} (hd : 600 ≤ d) {σ : am_M} (hI : Inv σ) (x y : Int32) : PR d 138 253 [.int x, .int y] σ := by
  rcases pl_cases hI x with hN | ⟨rfl, hF⟩ | ⟨rfl, hF⟩
  · refine ⟨-1000001, ?_⟩
    refine am_enter' (M := M_X9_count) rfl rfl rfl (by omega) (ls := [some (.ref 41), some (.int x), some (.int y), none]) rfl (fun d' hd' => ?_)
    refine am_run 2 (pc' := 2) (ls' := [some (.ref 41), some (.int x), some (.int y), none]) (st' := [.int x, .ref 41]) (σ' := σ) rfl ?_
    refine am_invv (y := 140) (b := 41) (as := [.int x]) (rest := []) rfl rfl rfl rfl rfl rfl rfl (Nat.le_of_ble_eq_true rfl) ?_
    refine c_nf (by omega) hN ?_
    show am_G _ M_X9_count _ 5 [some (.ref 41), some (.int x), some (.int y), none] [.null] σ
    refine am_run 4 (pc' := 12) (ls' := [some (.ref 41), some (.int x), some (.int y), some (.null)]) (st' := [.int (-1000001)]) (σ' := σ) rfl ?_
    refine am_reti rfl rfl ?_
    refine ⟨rfl, ?_⟩
    refine am_enter' (M := M_X10_count) rfl rfl rfl (by omega) (ls := [some (.ref 0), some (.int x), some (.int y)]) rfl (fun d2 hd2 => ?_)
    refine am_run 2 (pc' := 2) (ls' := [some (.ref 0), some (.int x), some (.int y)]) (st' := [.int x, .ref 0]) (σ' := σ) rfl ?_
    refine am_invv (y := 151) (b := 0) (as := [.int x]) (rest := []) rfl rfl rfl rfl rfl rfl rfl (Nat.le_of_ble_eq_true rfl) ?_
    refine c_np (by omega) hN ?_
    show am_G _ M_X10_count _ 5 [some (.ref 0), some (.int x), some (.int y)] [.int (nI 0)] σ
    refine am_if (ty := 8) (tn := 11) rfl (by decide) rfl rfl (fun (h_101 : nI 0 = 0) => ?_) (fun (h_101 : ¬ (nI 0 = 0)) => ?_)
    rotate_left
    · exact absurd (by decide) h_101
    refine am_run 1 (pc' := 10) (ls' := [some (.ref 0), some (.int x), some (.int y)]) (st' := [.int (-1000001)]) (σ' := σ) rfl ?_
    refine am_reti rfl rfl ?_
    exact ⟨rfl, hI⟩
  · obtain ⟨hf, p, n, r, kk, rk, od, dp, ow, s, m, hP, hH⟩ := hF
    obtain ⟨hn1, hR, hro, hM, hk1, hk2, hkk, hND⟩ := id hP
    obtain ⟨a3, b3, hv, a4, b4, hm, hh⟩ := id hH
    have hW := hM.1.2.1
    have hn60 := hW.1
    have hs := hv.1
    have hrn : r < n := hM.2.1.2.1
    have hn2 := hM.1.2.2.2.1
    obtain ⟨L, hL, t1, t2, -⟩ := hI.1
    have hT3 := hR.t3
    rcases i32_in y (k := 4) (by decide) with ⟨u, hu, rfl⟩ | hy
    · rcases (show u = 0 ∨ u = 1 ∨ u = 2 ∨ u = 3 ∨ u = 4 by omega) with rfl | rfl | rfl | rfl | rfl
      · skip
        refine ⟨nI n, ?_⟩
        refine am_enter' (M := M_X9_count) rfl rfl rfl (by omega) (ls := [some (.ref 41), some (.int (nI 0)), some (.int (nI 0)), none]) rfl (fun d' hd' => ?_)
        refine am_run 2 (pc' := 2) (ls' := [some (.ref 41), some (.int (nI 0)), some (.int (nI 0)), none]) (st' := [.int (nI 0), .ref 41]) (σ' := σ) rfl ?_
        refine am_invv (y := 140) (b := 41) (as := [.int (nI 0)]) (rest := []) rfl rfl rfl rfl rfl rfl rfl (Nat.le_of_ble_eq_true rfl) ?_
        refine c_filled0_1 (by omega) hf ?_
        show am_G _ M_X9_count _ 5 [some (.ref 41), some (.int (nI 0)), some (.int (nI 0)), none] [.ref 73] σ
        refine am_run 4 (pc' := 14) (ls' := [some (.ref 41), some (.int (nI 0)), some (.int (nI 0)), some (.ref 73)]) (st' := [.int (nI 0)]) (σ' := σ) rfl ?_
        refine am_tsw rfl rfl (L := [(0, 34), (1, 42), (2, 50), (3, 71), (4, 76)]) rfl ?_
        refine am_sw1 (k := nI 0) (tgt := 48) rfl (by decide) (by decide) rfl (fun _ => ?_) (fun h_z => absurd rfl h_z)
        refine am_run 1 (pc' := 49) (ls' := [some (.ref 41), some (.int (nI 0)), some (.int (nI 0)), some (.ref 73)]) (st' := [.ref 73]) (σ' := σ) rfl ?_
        refine am_invv (y := 66) (b := 73) (as := []) (rest := []) rfl rfl rfl rfl rfl rfl rfl (Nat.le_of_ble_eq_true rfl) ?_
        refine am_enter' rfl rfl rfl (by omega) (ls := [some (.ref 73)]) rfl (fun d_1 hd_1 => ?_)
        refine am_run 2 (pc' := 4) (ls' := [some (.ref 73)]) (st' := [.ref (σ.2 73 1)]) (σ' := σ) rfl ?_
        refine am_reta rfl rfl (Or.inr ⟨_, rfl⟩) ?_
        show am_G _ M_X9_count _ 52 [some (.ref 41), some (.int (nI 0)), some (.int (nI 0)), some (.ref 73)] [.ref (σ.2 73 1)] σ
        refine am_invv (y := 102) (b := (σ.2 73 1)) (as := []) (rest := []) rfl rfl rfl rfl rfl rfl (t3_kind hT3) (Nat.le_of_ble_eq_true rfl) ?_
        refine am_enter' rfl rfl rfl (by omega) (ls := [some (.ref (σ.2 73 1))]) rfl (fun d_2 hd_2 => ?_)
        refine am_run 1 (pc' := 1) (ls' := [some (.ref (σ.2 73 1))]) (st' := [.ref (σ.2 73 1)]) (σ' := σ) rfl ?_
        refine am_getI (k := 8) rfl rfl (t3_kind hT3) rfl ?_
        refine am_top (v' := nI n) hR.2.1 ?_
        refine am_reti rfl rfl ?_
        show am_G _ M_X9_count _ 55 [some (.ref 41), some (.int (nI 0)), some (.int (nI 0)), some (.ref 73)] [.int (nI n)] σ
        refine am_reti rfl rfl ?_
        refine ⟨rfl, ?_⟩
        refine am_enter' (M := M_X10_count) rfl rfl rfl (by omega) (ls := [some (.ref 0), some (.int (nI 0)), some (.int (nI 0))]) rfl (fun d2 hd2 => ?_)
        refine am_run 2 (pc' := 2) (ls' := [some (.ref 0), some (.int (nI 0)), some (.int (nI 0))]) (st' := [.int (nI 0), .ref 0]) (σ' := σ) rfl ?_
        refine am_invv (y := 151) (b := 0) (as := [.int (nI 0)]) (rest := []) rfl rfl rfl rfl rfl rfl rfl (Nat.le_of_ble_eq_true rfl) ?_
        refine c_prog0_1 (by omega) (n := n) (by exact hn2) hn1 hn60 ?_
        show am_G _ M_X10_count _ 5 [some (.ref 0), some (.int (nI 0)), some (.int (nI 0))] [.int (nI 1)] σ
        refine am_if (ty := 8) (tn := 11) rfl (by decide) rfl rfl (fun (h_101 : nI 1 = 0) => ?_) (fun (h_101 : ¬ (nI 1 = 0)) => ?_)
        · exact absurd h_101 (by decide)
        refine am_run 1 (pc' := 12) (ls' := [some (.ref 0), some (.int (nI 0)), some (.int (nI 0))]) (st' := [.int (nI 0)]) (σ' := σ) rfl ?_
        refine am_tsw rfl rfl (L := [(0, 36), (1, 43), (2, 50), (3, 75), (4, 82)]) rfl ?_
        refine am_sw1 (k := nI 0) (tgt := 48) rfl (by decide) (by decide) rfl (fun _ => ?_) (fun h_z => absurd rfl h_z)
        refine am_run 3 (pc' := 53) (ls' := [some (.ref 0), some (.int (nI 0)), some (.int (nI 0))]) (st' := [.int (nI 0), .ref 2]) (σ' := σ) rfl ?_
        refine am_ialdN (n := 3) (v := nI n) rfl rfl rfl (by decide) hn2 (by decide) ?_
        refine am_reti rfl rfl ?_
        exact ⟨rfl, hI⟩
      · skip
        refine ⟨nI kk, ?_⟩
        refine am_enter' (M := M_X9_count) rfl rfl rfl (by omega) (ls := [some (.ref 41), some (.int (nI 0)), some (.int (nI 1)), none]) rfl (fun d' hd' => ?_)
        refine am_run 2 (pc' := 2) (ls' := [some (.ref 41), some (.int (nI 0)), some (.int (nI 1)), none]) (st' := [.int (nI 0), .ref 41]) (σ' := σ) rfl ?_
        refine am_invv (y := 140) (b := 41) (as := [.int (nI 0)]) (rest := []) rfl rfl rfl rfl rfl rfl rfl (Nat.le_of_ble_eq_true rfl) ?_
        refine c_filled0_1 (by omega) hf ?_
        show am_G _ M_X9_count _ 5 [some (.ref 41), some (.int (nI 0)), some (.int (nI 1)), none] [.ref 73] σ
        refine am_run 4 (pc' := 14) (ls' := [some (.ref 41), some (.int (nI 0)), some (.int (nI 1)), some (.ref 73)]) (st' := [.int (nI 1)]) (σ' := σ) rfl ?_
        refine am_tsw rfl rfl (L := [(0, 34), (1, 42), (2, 50), (3, 71), (4, 76)]) rfl ?_
        refine am_sw1 (k := nI 0) (tgt := 48) rfl (by decide) (by decide) rfl (fun h_z => absurd h_z (by decide)) (fun _ => ?_)
        refine am_sw1 (k := nI 1) (tgt := 56) rfl (by decide) (by decide) rfl (fun _ => ?_) (fun h_z => absurd rfl h_z)
        refine am_run 1 (pc' := 57) (ls' := [some (.ref 41), some (.int (nI 0)), some (.int (nI 1)), some (.ref 73)]) (st' := [.ref 73]) (σ' := σ) rfl ?_
        refine am_invv (y := 66) (b := 73) (as := []) (rest := []) rfl rfl rfl rfl rfl rfl rfl (Nat.le_of_ble_eq_true rfl) ?_
        refine am_enter' rfl rfl rfl (by omega) (ls := [some (.ref 73)]) rfl (fun d_1 hd_1 => ?_)
        refine am_run 2 (pc' := 4) (ls' := [some (.ref 73)]) (st' := [.ref (σ.2 73 1)]) (σ' := σ) rfl ?_
        refine am_reta rfl rfl (Or.inr ⟨_, rfl⟩) ?_
        show am_G _ M_X9_count _ 60 [some (.ref 41), some (.int (nI 0)), some (.int (nI 1)), some (.ref 73)] [.ref (σ.2 73 1)] σ
        refine am_invv (y := 103) (b := (σ.2 73 1)) (as := []) (rest := []) rfl rfl rfl rfl rfl rfl (t3_kind hT3) (Nat.le_of_ble_eq_true rfl) ?_
        refine am_enter' rfl rfl rfl (by omega) (ls := [some (.ref (σ.2 73 1))]) rfl (fun d_2 hd_2 => ?_)
        refine am_run 1 (pc' := 1) (ls' := [some (.ref (σ.2 73 1))]) (st' := [.ref (σ.2 73 1)]) (σ' := σ) rfl ?_
        refine am_getI (k := 9) rfl rfl (t3_kind hT3) rfl ?_
        refine am_top (v' := nI kk) hk1 ?_
        refine am_reti rfl rfl ?_
        show am_G _ M_X9_count _ 63 [some (.ref 41), some (.int (nI 0)), some (.int (nI 1)), some (.ref 73)] [.int (nI kk)] σ
        refine am_reti rfl rfl ?_
        refine ⟨rfl, ?_⟩
        refine am_enter' (M := M_X10_count) rfl rfl rfl (by omega) (ls := [some (.ref 0), some (.int (nI 0)), some (.int (nI 1))]) rfl (fun d2 hd2 => ?_)
        refine am_run 2 (pc' := 2) (ls' := [some (.ref 0), some (.int (nI 0)), some (.int (nI 1))]) (st' := [.int (nI 0), .ref 0]) (σ' := σ) rfl ?_
        refine am_invv (y := 151) (b := 0) (as := [.int (nI 0)]) (rest := []) rfl rfl rfl rfl rfl rfl rfl (Nat.le_of_ble_eq_true rfl) ?_
        refine c_prog0_1 (by omega) (n := n) (by exact hn2) hn1 hn60 ?_
        show am_G _ M_X10_count _ 5 [some (.ref 0), some (.int (nI 0)), some (.int (nI 1))] [.int (nI 1)] σ
        refine am_if (ty := 8) (tn := 11) rfl (by decide) rfl rfl (fun (h_101 : nI 1 = 0) => ?_) (fun (h_101 : ¬ (nI 1 = 0)) => ?_)
        · exact absurd h_101 (by decide)
        refine am_run 1 (pc' := 12) (ls' := [some (.ref 0), some (.int (nI 0)), some (.int (nI 1))]) (st' := [.int (nI 1)]) (σ' := σ) rfl ?_
        refine am_tsw rfl rfl (L := [(0, 36), (1, 43), (2, 50), (3, 75), (4, 82)]) rfl ?_
        refine am_sw1 (k := nI 0) (tgt := 48) rfl (by decide) (by decide) rfl (fun h_z => absurd h_z (by decide)) (fun _ => ?_)
        refine am_sw1 (k := nI 1) (tgt := 55) rfl (by decide) (by decide) rfl (fun _ => ?_) (fun h_z => absurd rfl h_z)
        refine am_run 3 (pc' := 60) (ls' := [some (.ref 0), some (.int (nI 0)), some (.int (nI 1))]) (st' := [.int (nI 0), .ref 3]) (σ' := σ) rfl ?_
        refine am_ialdN (n := 3) (v := nI kk) rfl rfl rfl (by decide) hk2 (by decide) ?_
        refine am_reti rfl rfl ?_
        exact ⟨rfl, hI⟩
      · skip
        by_cases es : s = 1048576
        · skip
          refine ⟨nI 0, ?_⟩
          refine am_enter' (M := M_X9_count) rfl rfl rfl (by omega) (ls := [some (.ref 41), some (.int (nI 0)), some (.int (nI 2)), none]) rfl (fun d' hd' => ?_)
          refine am_run 2 (pc' := 2) (ls' := [some (.ref 41), some (.int (nI 0)), some (.int (nI 2)), none]) (st' := [.int (nI 0), .ref 41]) (σ' := σ) rfl ?_
          refine am_invv (y := 140) (b := 41) (as := [.int (nI 0)]) (rest := []) rfl rfl rfl rfl rfl rfl rfl (Nat.le_of_ble_eq_true rfl) ?_
          refine c_filled0_1 (by omega) hf ?_
          show am_G _ M_X9_count _ 5 [some (.ref 41), some (.int (nI 0)), some (.int (nI 2)), none] [.ref 73] σ
          refine am_run 4 (pc' := 14) (ls' := [some (.ref 41), some (.int (nI 0)), some (.int (nI 2)), some (.ref 73)]) (st' := [.int (nI 2)]) (σ' := σ) rfl ?_
          refine am_tsw rfl rfl (L := [(0, 34), (1, 42), (2, 50), (3, 71), (4, 76)]) rfl ?_
          refine am_sw1 (k := nI 0) (tgt := 48) rfl (by decide) (by decide) rfl (fun h_z => absurd h_z (by decide)) (fun _ => ?_)
          refine am_sw1 (k := nI 1) (tgt := 56) rfl (by decide) (by decide) rfl (fun h_z => absurd h_z (by decide)) (fun _ => ?_)
          refine am_sw1 (k := nI 2) (tgt := 64) rfl (by decide) (by decide) rfl (fun _ => ?_) (fun h_z => absurd rfl h_z)
          refine am_run 1 (pc' := 65) (ls' := [some (.ref 41), some (.int (nI 0)), some (.int (nI 2)), some (.ref 73)]) (st' := [.ref 73]) (σ' := σ) rfl ?_
          refine am_invv (y := 67) (b := 73) (as := []) (rest := []) rfl rfl rfl rfl rfl rfl rfl (Nat.le_of_ble_eq_true rfl) ?_
          refine am_enter' rfl rfl rfl (by omega) (ls := [some (.ref 73)]) rfl (fun d_1 hd_1 => ?_)
          refine am_run 2 (pc' := 4) (ls' := [some (.ref 73)]) (st' := [.int (σ.1 73 3)]) (σ' := σ) rfl ?_
          refine am_top (v' := nI s) a3 ?_
          refine am_reti rfl rfl ?_
          show am_G _ M_X9_count _ 68 [some (.ref 41), some (.int (nI 0)), some (.int (nI 2)), some (.ref 73)] [.int (nI s)] σ
          refine am_run 1 (pc' := 70) (ls' := [some (.ref 41), some (.int (nI 0)), some (.int (nI 2)), some (.ref 73)]) (st' := [.int (nI 1048576), .int (nI s)]) (σ' := σ) rfl ?_
          refine am_ic (ty := 73) (tn := 77) rfl (by decide) rfl rfl (fun (h_2 : nI s = nI 1048576) => ?_) (fun (h_2 : ¬ (nI s = nI 1048576)) => ?_)
          rotate_left
          · have h_2 : ¬ (s = 1048576) := fun z => h_2 ((nI_eq (by omega) (by omega)).mpr z)
            omega
          have h_2 : s = 1048576 := (nI_eq (by omega) (by omega)).mp h_2
          refine am_run 2 (pc' := 84) (ls' := [some (.ref 41), some (.int (nI 0)), some (.int (nI 2)), some (.ref 73)]) (st' := [.int (nI 0)]) (σ' := σ) rfl ?_
          refine am_reti rfl rfl ?_
          refine ⟨rfl, ?_⟩
          refine am_enter' (M := M_X10_count) rfl rfl rfl (by omega) (ls := [some (.ref 0), some (.int (nI 0)), some (.int (nI 2))]) rfl (fun d2 hd2 => ?_)
          refine am_run 2 (pc' := 2) (ls' := [some (.ref 0), some (.int (nI 0)), some (.int (nI 2))]) (st' := [.int (nI 0), .ref 0]) (σ' := σ) rfl ?_
          refine am_invv (y := 151) (b := 0) (as := [.int (nI 0)]) (rest := []) rfl rfl rfl rfl rfl rfl rfl (Nat.le_of_ble_eq_true rfl) ?_
          refine c_prog0_1 (by omega) (n := n) (by exact hn2) hn1 hn60 ?_
          show am_G _ M_X10_count _ 5 [some (.ref 0), some (.int (nI 0)), some (.int (nI 2))] [.int (nI 1)] σ
          refine am_if (ty := 8) (tn := 11) rfl (by decide) rfl rfl (fun (h_101 : nI 1 = 0) => ?_) (fun (h_101 : ¬ (nI 1 = 0)) => ?_)
          · exact absurd h_101 (by decide)
          refine am_run 1 (pc' := 12) (ls' := [some (.ref 0), some (.int (nI 0)), some (.int (nI 2))]) (st' := [.int (nI 2)]) (σ' := σ) rfl ?_
          refine am_tsw rfl rfl (L := [(0, 36), (1, 43), (2, 50), (3, 75), (4, 82)]) rfl ?_
          refine am_sw1 (k := nI 0) (tgt := 48) rfl (by decide) (by decide) rfl (fun h_z => absurd h_z (by decide)) (fun _ => ?_)
          refine am_sw1 (k := nI 1) (tgt := 55) rfl (by decide) (by decide) rfl (fun h_z => absurd h_z (by decide)) (fun _ => ?_)
          refine am_sw1 (k := nI 2) (tgt := 62) rfl (by decide) (by decide) rfl (fun _ => ?_) (fun h_z => absurd rfl h_z)
          refine am_run 3 (pc' := 67) (ls' := [some (.ref 0), some (.int (nI 0)), some (.int (nI 2))]) (st' := [.int (nI 0), .ref 17]) (σ' := σ) rfl ?_
          refine am_ialdN (n := 2) (v := nI s) rfl rfl rfl (by decide) b3 (by decide) ?_
          refine am_run 1 (pc' := 70) (ls' := [some (.ref 0), some (.int (nI 0)), some (.int (nI 2))]) (st' := [.int (nI 1048576), .int (nI s)]) (σ' := σ) rfl ?_
          refine am_ic (ty := 73) (tn := 77) rfl (by decide) rfl rfl (fun (h_102 : nI s = nI 1048576) => ?_) (fun (h_102 : ¬ (nI s = nI 1048576)) => ?_)
          rotate_left
          · have h_102 : ¬ (s = 1048576) := fun z => h_102 ((nI_eq (by omega) (by omega)).mpr z)
            omega
          have h_102 : s = 1048576 := (nI_eq (by omega) (by omega)).mp h_102
          refine am_run 2 (pc' := 86) (ls' := [some (.ref 0), some (.int (nI 0)), some (.int (nI 2))]) (st' := [.int (nI 0)]) (σ' := σ) rfl ?_
          refine am_reti rfl rfl ?_
          exact ⟨rfl, hI⟩
        · skip
          refine ⟨nI (pcn s 21), ?_⟩
          refine am_enter' (M := M_X9_count) rfl rfl rfl (by omega) (ls := [some (.ref 41), some (.int (nI 0)), some (.int (nI 2)), none]) rfl (fun d' hd' => ?_)
          refine am_run 2 (pc' := 2) (ls' := [some (.ref 41), some (.int (nI 0)), some (.int (nI 2)), none]) (st' := [.int (nI 0), .ref 41]) (σ' := σ) rfl ?_
          refine am_invv (y := 140) (b := 41) (as := [.int (nI 0)]) (rest := []) rfl rfl rfl rfl rfl rfl rfl (Nat.le_of_ble_eq_true rfl) ?_
          refine c_filled0_1 (by omega) hf ?_
          show am_G _ M_X9_count _ 5 [some (.ref 41), some (.int (nI 0)), some (.int (nI 2)), none] [.ref 73] σ
          refine am_run 4 (pc' := 14) (ls' := [some (.ref 41), some (.int (nI 0)), some (.int (nI 2)), some (.ref 73)]) (st' := [.int (nI 2)]) (σ' := σ) rfl ?_
          refine am_tsw rfl rfl (L := [(0, 34), (1, 42), (2, 50), (3, 71), (4, 76)]) rfl ?_
          refine am_sw1 (k := nI 0) (tgt := 48) rfl (by decide) (by decide) rfl (fun h_z => absurd h_z (by decide)) (fun _ => ?_)
          refine am_sw1 (k := nI 1) (tgt := 56) rfl (by decide) (by decide) rfl (fun h_z => absurd h_z (by decide)) (fun _ => ?_)
          refine am_sw1 (k := nI 2) (tgt := 64) rfl (by decide) (by decide) rfl (fun _ => ?_) (fun h_z => absurd rfl h_z)
          refine am_run 1 (pc' := 65) (ls' := [some (.ref 41), some (.int (nI 0)), some (.int (nI 2)), some (.ref 73)]) (st' := [.ref 73]) (σ' := σ) rfl ?_
          refine am_invv (y := 67) (b := 73) (as := []) (rest := []) rfl rfl rfl rfl rfl rfl rfl (Nat.le_of_ble_eq_true rfl) ?_
          refine am_enter' rfl rfl rfl (by omega) (ls := [some (.ref 73)]) rfl (fun d_1 hd_1 => ?_)
          refine am_run 2 (pc' := 4) (ls' := [some (.ref 73)]) (st' := [.int (σ.1 73 3)]) (σ' := σ) rfl ?_
          refine am_top (v' := nI s) a3 ?_
          refine am_reti rfl rfl ?_
          show am_G _ M_X9_count _ 68 [some (.ref 41), some (.int (nI 0)), some (.int (nI 2)), some (.ref 73)] [.int (nI s)] σ
          refine am_run 1 (pc' := 70) (ls' := [some (.ref 41), some (.int (nI 0)), some (.int (nI 2)), some (.ref 73)]) (st' := [.int (nI 1048576), .int (nI s)]) (σ' := σ) rfl ?_
          refine am_ic (ty := 73) (tn := 77) rfl (by decide) rfl rfl (fun (h_2 : nI s = nI 1048576) => ?_) (fun (h_2 : ¬ (nI s = nI 1048576)) => ?_)
          · have h_2 : s = 1048576 := (nI_eq (by omega) (by omega)).mp h_2
            omega
          have h_2 : ¬ (s = 1048576) := fun z => h_2 ((nI_eq (by omega) (by omega)).mpr z)
          refine am_run 1 (pc' := 78) (ls' := [some (.ref 41), some (.int (nI 0)), some (.int (nI 2)), some (.ref 73)]) (st' := [.ref 73]) (σ' := σ) rfl ?_
          refine am_invv (y := 67) (b := 73) (as := []) (rest := []) rfl rfl rfl rfl rfl rfl rfl (Nat.le_of_ble_eq_true rfl) ?_
          refine am_enter' rfl rfl rfl (by omega) (ls := [some (.ref 73)]) rfl (fun d_3 hd_3 => ?_)
          refine am_run 2 (pc' := 4) (ls' := [some (.ref 73)]) (st' := [.int (σ.1 73 3)]) (σ' := σ) rfl ?_
          refine am_top (v' := nI s) a3 ?_
          refine am_reti rfl rfl ?_
          show am_G _ M_X9_count _ 81 [some (.ref 41), some (.int (nI 0)), some (.int (nI 2)), some (.ref 73)] [.int (nI s)] σ
          refine am_invs (y := 254) (as := [.int (nI s)]) (rest := []) rfl rfl rfl rfl rfl rfl (Nat.le_of_ble_eq_true rfl) ?_
          refine c_bitCount (by omega) (by omega) ?_
          show am_G _ M_X9_count _ 84 [some (.ref 41), some (.int (nI 0)), some (.int (nI 2)), some (.ref 73)] [.int (nI (pcn s 21))] σ
          refine am_reti rfl rfl ?_
          refine ⟨rfl, ?_⟩
          refine am_enter' (M := M_X10_count) rfl rfl rfl (by omega) (ls := [some (.ref 0), some (.int (nI 0)), some (.int (nI 2))]) rfl (fun d2 hd2 => ?_)
          refine am_run 2 (pc' := 2) (ls' := [some (.ref 0), some (.int (nI 0)), some (.int (nI 2))]) (st' := [.int (nI 0), .ref 0]) (σ' := σ) rfl ?_
          refine am_invv (y := 151) (b := 0) (as := [.int (nI 0)]) (rest := []) rfl rfl rfl rfl rfl rfl rfl (Nat.le_of_ble_eq_true rfl) ?_
          refine c_prog0_1 (by omega) (n := n) (by exact hn2) hn1 hn60 ?_
          show am_G _ M_X10_count _ 5 [some (.ref 0), some (.int (nI 0)), some (.int (nI 2))] [.int (nI 1)] σ
          refine am_if (ty := 8) (tn := 11) rfl (by decide) rfl rfl (fun (h_101 : nI 1 = 0) => ?_) (fun (h_101 : ¬ (nI 1 = 0)) => ?_)
          · exact absurd h_101 (by decide)
          refine am_run 1 (pc' := 12) (ls' := [some (.ref 0), some (.int (nI 0)), some (.int (nI 2))]) (st' := [.int (nI 2)]) (σ' := σ) rfl ?_
          refine am_tsw rfl rfl (L := [(0, 36), (1, 43), (2, 50), (3, 75), (4, 82)]) rfl ?_
          refine am_sw1 (k := nI 0) (tgt := 48) rfl (by decide) (by decide) rfl (fun h_z => absurd h_z (by decide)) (fun _ => ?_)
          refine am_sw1 (k := nI 1) (tgt := 55) rfl (by decide) (by decide) rfl (fun h_z => absurd h_z (by decide)) (fun _ => ?_)
          refine am_sw1 (k := nI 2) (tgt := 62) rfl (by decide) (by decide) rfl (fun _ => ?_) (fun h_z => absurd rfl h_z)
          refine am_run 3 (pc' := 67) (ls' := [some (.ref 0), some (.int (nI 0)), some (.int (nI 2))]) (st' := [.int (nI 0), .ref 17]) (σ' := σ) rfl ?_
          refine am_ialdN (n := 2) (v := nI s) rfl rfl rfl (by decide) b3 (by decide) ?_
          refine am_run 1 (pc' := 70) (ls' := [some (.ref 0), some (.int (nI 0)), some (.int (nI 2))]) (st' := [.int (nI 1048576), .int (nI s)]) (σ' := σ) rfl ?_
          refine am_ic (ty := 73) (tn := 77) rfl (by decide) rfl rfl (fun (h_102 : nI s = nI 1048576) => ?_) (fun (h_102 : ¬ (nI s = nI 1048576)) => ?_)
          · have h_102 : s = 1048576 := (nI_eq (by omega) (by omega)).mp h_102
            omega
          have h_102 : ¬ (s = 1048576) := fun z => h_102 ((nI_eq (by omega) (by omega)).mpr z)
          refine am_run 3 (pc' := 82) (ls' := [some (.ref 0), some (.int (nI 0)), some (.int (nI 2))]) (st' := [.int (nI 0), .ref 17]) (σ' := σ) rfl ?_
          refine am_ialdN (n := 2) (v := nI s) rfl rfl rfl (by decide) b3 (by decide) ?_
          refine am_invs (y := 150) (as := [.int (nI s)]) (rest := []) rfl rfl rfl rfl rfl rfl (Nat.le_of_ble_eq_true rfl) ?_
          refine c_ones (by omega) (by omega) ?_
          show am_G _ M_X10_count _ 86 [some (.ref 0), some (.int (nI 0)), some (.int (nI 2))] [.int (nI (pcn s 21))] σ
          refine am_reti rfl rfl ?_
          exact ⟨rfl, hI⟩
      · skip
        refine ⟨nI m, ?_⟩
        refine am_enter' (M := M_X9_count) rfl rfl rfl (by omega) (ls := [some (.ref 41), some (.int (nI 0)), some (.int (nI 3)), none]) rfl (fun d' hd' => ?_)
        refine am_run 2 (pc' := 2) (ls' := [some (.ref 41), some (.int (nI 0)), some (.int (nI 3)), none]) (st' := [.int (nI 0), .ref 41]) (σ' := σ) rfl ?_
        refine am_invv (y := 140) (b := 41) (as := [.int (nI 0)]) (rest := []) rfl rfl rfl rfl rfl rfl rfl (Nat.le_of_ble_eq_true rfl) ?_
        refine c_filled0_1 (by omega) hf ?_
        show am_G _ M_X9_count _ 5 [some (.ref 41), some (.int (nI 0)), some (.int (nI 3)), none] [.ref 73] σ
        refine am_run 4 (pc' := 14) (ls' := [some (.ref 41), some (.int (nI 0)), some (.int (nI 3)), some (.ref 73)]) (st' := [.int (nI 3)]) (σ' := σ) rfl ?_
        refine am_tsw rfl rfl (L := [(0, 34), (1, 42), (2, 50), (3, 71), (4, 76)]) rfl ?_
        refine am_sw1 (k := nI 0) (tgt := 48) rfl (by decide) (by decide) rfl (fun h_z => absurd h_z (by decide)) (fun _ => ?_)
        refine am_sw1 (k := nI 1) (tgt := 56) rfl (by decide) (by decide) rfl (fun h_z => absurd h_z (by decide)) (fun _ => ?_)
        refine am_sw1 (k := nI 2) (tgt := 64) rfl (by decide) (by decide) rfl (fun h_z => absurd h_z (by decide)) (fun _ => ?_)
        refine am_sw1 (k := nI 3) (tgt := 85) rfl (by decide) (by decide) rfl (fun _ => ?_) (fun h_z => absurd rfl h_z)
        refine am_run 1 (pc' := 86) (ls' := [some (.ref 41), some (.int (nI 0)), some (.int (nI 3)), some (.ref 73)]) (st' := [.ref 73]) (σ' := σ) rfl ?_
        refine am_invv (y := 68) (b := 73) (as := []) (rest := []) rfl rfl rfl rfl rfl rfl rfl (Nat.le_of_ble_eq_true rfl) ?_
        refine am_enter' rfl rfl rfl (by omega) (ls := [some (.ref 73)]) rfl (fun d_1 hd_1 => ?_)
        refine am_run 2 (pc' := 4) (ls' := [some (.ref 73)]) (st' := [.int (σ.1 73 4)]) (σ' := σ) rfl ?_
        refine am_top (v' := nI m) a4 ?_
        refine am_reti rfl rfl ?_
        show am_G _ M_X9_count _ 89 [some (.ref 41), some (.int (nI 0)), some (.int (nI 3)), some (.ref 73)] [.int (nI m)] σ
        refine am_reti rfl rfl ?_
        refine ⟨rfl, ?_⟩
        refine am_enter' (M := M_X10_count) rfl rfl rfl (by omega) (ls := [some (.ref 0), some (.int (nI 0)), some (.int (nI 3))]) rfl (fun d2 hd2 => ?_)
        refine am_run 2 (pc' := 2) (ls' := [some (.ref 0), some (.int (nI 0)), some (.int (nI 3))]) (st' := [.int (nI 0), .ref 0]) (σ' := σ) rfl ?_
        refine am_invv (y := 151) (b := 0) (as := [.int (nI 0)]) (rest := []) rfl rfl rfl rfl rfl rfl rfl (Nat.le_of_ble_eq_true rfl) ?_
        refine c_prog0_1 (by omega) (n := n) (by exact hn2) hn1 hn60 ?_
        show am_G _ M_X10_count _ 5 [some (.ref 0), some (.int (nI 0)), some (.int (nI 3))] [.int (nI 1)] σ
        refine am_if (ty := 8) (tn := 11) rfl (by decide) rfl rfl (fun (h_101 : nI 1 = 0) => ?_) (fun (h_101 : ¬ (nI 1 = 0)) => ?_)
        · exact absurd h_101 (by decide)
        refine am_run 1 (pc' := 12) (ls' := [some (.ref 0), some (.int (nI 0)), some (.int (nI 3))]) (st' := [.int (nI 3)]) (σ' := σ) rfl ?_
        refine am_tsw rfl rfl (L := [(0, 36), (1, 43), (2, 50), (3, 75), (4, 82)]) rfl ?_
        refine am_sw1 (k := nI 0) (tgt := 48) rfl (by decide) (by decide) rfl (fun h_z => absurd h_z (by decide)) (fun _ => ?_)
        refine am_sw1 (k := nI 1) (tgt := 55) rfl (by decide) (by decide) rfl (fun h_z => absurd h_z (by decide)) (fun _ => ?_)
        refine am_sw1 (k := nI 2) (tgt := 62) rfl (by decide) (by decide) rfl (fun h_z => absurd h_z (by decide)) (fun _ => ?_)
        refine am_sw1 (k := nI 3) (tgt := 87) rfl (by decide) (by decide) rfl (fun _ => ?_) (fun h_z => absurd rfl h_z)
        refine am_run 3 (pc' := 92) (ls' := [some (.ref 0), some (.int (nI 0)), some (.int (nI 3))]) (st' := [.int (nI 0), .ref 19]) (σ' := σ) rfl ?_
        refine am_ialdN (n := 2) (v := nI m) rfl rfl rfl (by decide) b4 (by decide) ?_
        refine am_reti rfl rfl ?_
        exact ⟨rfl, hI⟩
      · skip
        refine ⟨nI L, ?_⟩
        refine am_enter' (M := M_X9_count) rfl rfl rfl (by omega) (ls := [some (.ref 41), some (.int (nI 0)), some (.int (nI 4)), none]) rfl (fun d' hd' => ?_)
        refine am_run 2 (pc' := 2) (ls' := [some (.ref 41), some (.int (nI 0)), some (.int (nI 4)), none]) (st' := [.int (nI 0), .ref 41]) (σ' := σ) rfl ?_
        refine am_invv (y := 140) (b := 41) (as := [.int (nI 0)]) (rest := []) rfl rfl rfl rfl rfl rfl rfl (Nat.le_of_ble_eq_true rfl) ?_
        refine c_filled0_1 (by omega) hf ?_
        show am_G _ M_X9_count _ 5 [some (.ref 41), some (.int (nI 0)), some (.int (nI 4)), none] [.ref 73] σ
        refine am_run 4 (pc' := 14) (ls' := [some (.ref 41), some (.int (nI 0)), some (.int (nI 4)), some (.ref 73)]) (st' := [.int (nI 4)]) (σ' := σ) rfl ?_
        refine am_tsw rfl rfl (L := [(0, 34), (1, 42), (2, 50), (3, 71), (4, 76)]) rfl ?_
        refine am_sw1 (k := nI 0) (tgt := 48) rfl (by decide) (by decide) rfl (fun h_z => absurd h_z (by decide)) (fun _ => ?_)
        refine am_sw1 (k := nI 1) (tgt := 56) rfl (by decide) (by decide) rfl (fun h_z => absurd h_z (by decide)) (fun _ => ?_)
        refine am_sw1 (k := nI 2) (tgt := 64) rfl (by decide) (by decide) rfl (fun h_z => absurd h_z (by decide)) (fun _ => ?_)
        refine am_sw1 (k := nI 3) (tgt := 85) rfl (by decide) (by decide) rfl (fun h_z => absurd h_z (by decide)) (fun _ => ?_)
        refine am_sw1 (k := nI 4) (tgt := 90) rfl (by decide) (by decide) rfl (fun _ => ?_) (fun h_z => absurd rfl h_z)
        refine am_run 2 (pc' := 94) (ls' := [some (.ref 41), some (.int (nI 0)), some (.int (nI 4)), some (.ref 73)]) (st' := [.ref 42]) (σ' := σ) rfl ?_
        refine am_invv (y := 97) (b := 42) (as := []) (rest := []) rfl rfl rfl rfl rfl rfl rfl (Nat.le_of_ble_eq_true rfl) ?_
        refine am_enter' rfl rfl rfl (by omega) (ls := [some (.ref 42)]) rfl (fun d_1 hd_1 => ?_)
        refine am_run 2 (pc' := 4) (ls' := [some (.ref 42)]) (st' := [.int (σ.1 42 1)]) (σ' := σ) rfl ?_
        refine am_top (v' := nI L) t1 ?_
        refine am_reti rfl rfl ?_
        show am_G _ M_X9_count _ 97 [some (.ref 41), some (.int (nI 0)), some (.int (nI 4)), some (.ref 73)] [.int (nI L)] σ
        refine am_reti rfl rfl ?_
        refine ⟨rfl, ?_⟩
        refine am_enter' (M := M_X10_count) rfl rfl rfl (by omega) (ls := [some (.ref 0), some (.int (nI 0)), some (.int (nI 4))]) rfl (fun d2 hd2 => ?_)
        refine am_run 2 (pc' := 2) (ls' := [some (.ref 0), some (.int (nI 0)), some (.int (nI 4))]) (st' := [.int (nI 0), .ref 0]) (σ' := σ) rfl ?_
        refine am_invv (y := 151) (b := 0) (as := [.int (nI 0)]) (rest := []) rfl rfl rfl rfl rfl rfl rfl (Nat.le_of_ble_eq_true rfl) ?_
        refine c_prog0_1 (by omega) (n := n) (by exact hn2) hn1 hn60 ?_
        show am_G _ M_X10_count _ 5 [some (.ref 0), some (.int (nI 0)), some (.int (nI 4))] [.int (nI 1)] σ
        refine am_if (ty := 8) (tn := 11) rfl (by decide) rfl rfl (fun (h_101 : nI 1 = 0) => ?_) (fun (h_101 : ¬ (nI 1 = 0)) => ?_)
        · exact absurd h_101 (by decide)
        refine am_run 1 (pc' := 12) (ls' := [some (.ref 0), some (.int (nI 0)), some (.int (nI 4))]) (st' := [.int (nI 4)]) (σ' := σ) rfl ?_
        refine am_tsw rfl rfl (L := [(0, 36), (1, 43), (2, 50), (3, 75), (4, 82)]) rfl ?_
        refine am_sw1 (k := nI 0) (tgt := 48) rfl (by decide) (by decide) rfl (fun h_z => absurd h_z (by decide)) (fun _ => ?_)
        refine am_sw1 (k := nI 1) (tgt := 55) rfl (by decide) (by decide) rfl (fun h_z => absurd h_z (by decide)) (fun _ => ?_)
        refine am_sw1 (k := nI 2) (tgt := 62) rfl (by decide) (by decide) rfl (fun h_z => absurd h_z (by decide)) (fun _ => ?_)
        refine am_sw1 (k := nI 3) (tgt := 87) rfl (by decide) (by decide) rfl (fun h_z => absurd h_z (by decide)) (fun _ => ?_)
        refine am_sw1 (k := nI 4) (tgt := 94) rfl (by decide) (by decide) rfl (fun _ => ?_) (fun h_z => absurd rfl h_z)
        refine am_run 2 (pc' := 98) (ls' := [some (.ref 0), some (.int (nI 0)), some (.int (nI 4))]) (st' := [.int (σ.1 0 1)]) (σ' := σ) rfl ?_
        refine am_top (v' := nI L) t2 ?_
        refine am_reti rfl rfl ?_
        exact ⟨rfl, hI⟩
    · skip
      refine ⟨-1000002, ?_⟩
      refine am_enter' (M := M_X9_count) rfl rfl rfl (by omega) (ls := [some (.ref 41), some (.int (nI 0)), some (.int y), none]) rfl (fun d' hd' => ?_)
      refine am_run 2 (pc' := 2) (ls' := [some (.ref 41), some (.int (nI 0)), some (.int y), none]) (st' := [.int (nI 0), .ref 41]) (σ' := σ) rfl ?_
      refine am_invv (y := 140) (b := 41) (as := [.int (nI 0)]) (rest := []) rfl rfl rfl rfl rfl rfl rfl (Nat.le_of_ble_eq_true rfl) ?_
      refine c_filled0_1 (by omega) hf ?_
      show am_G _ M_X9_count _ 5 [some (.ref 41), some (.int (nI 0)), some (.int y), none] [.ref 73] σ
      refine am_run 4 (pc' := 14) (ls' := [some (.ref 41), some (.int (nI 0)), some (.int y), some (.ref 73)]) (st' := [.int y]) (σ' := σ) rfl ?_
      refine am_tsw rfl rfl (L := [(0, 34), (1, 42), (2, 50), (3, 71), (4, 76)]) rfl ?_
      refine am_sw1 (k := nI 0) (tgt := 48) rfl (by decide) (by decide) rfl (fun h_z => absurd h_z (out_ne hy (by decide) (by decide))) (fun _ => ?_)
      refine am_sw1 (k := nI 1) (tgt := 56) rfl (by decide) (by decide) rfl (fun h_z => absurd h_z (out_ne hy (by decide) (by decide))) (fun _ => ?_)
      refine am_sw1 (k := nI 2) (tgt := 64) rfl (by decide) (by decide) rfl (fun h_z => absurd h_z (out_ne hy (by decide) (by decide))) (fun _ => ?_)
      refine am_sw1 (k := nI 3) (tgt := 85) rfl (by decide) (by decide) rfl (fun h_z => absurd h_z (out_ne hy (by decide) (by decide))) (fun _ => ?_)
      refine am_sw1 (k := nI 4) (tgt := 90) rfl (by decide) (by decide) rfl (fun h_z => absurd h_z (out_ne hy (by decide) (by decide))) (fun _ => ?_)
      refine am_sw0 (tgt := 98) (by decide) rfl ?_
      refine am_run 1 (pc' := 100) (ls' := [some (.ref 41), some (.int (nI 0)), some (.int y), some (.ref 73)]) (st' := [.int (-1000002)]) (σ' := σ) rfl ?_
      refine am_reti rfl rfl ?_
      refine ⟨rfl, ?_⟩
      refine am_enter' (M := M_X10_count) rfl rfl rfl (by omega) (ls := [some (.ref 0), some (.int (nI 0)), some (.int y)]) rfl (fun d2 hd2 => ?_)
      refine am_run 2 (pc' := 2) (ls' := [some (.ref 0), some (.int (nI 0)), some (.int y)]) (st' := [.int (nI 0), .ref 0]) (σ' := σ) rfl ?_
      refine am_invv (y := 151) (b := 0) (as := [.int (nI 0)]) (rest := []) rfl rfl rfl rfl rfl rfl rfl (Nat.le_of_ble_eq_true rfl) ?_
      refine c_prog0_1 (by omega) (n := n) (by exact hn2) hn1 hn60 ?_
      show am_G _ M_X10_count _ 5 [some (.ref 0), some (.int (nI 0)), some (.int y)] [.int (nI 1)] σ
      refine am_if (ty := 8) (tn := 11) rfl (by decide) rfl rfl (fun (h_101 : nI 1 = 0) => ?_) (fun (h_101 : ¬ (nI 1 = 0)) => ?_)
      · exact absurd h_101 (by decide)
      refine am_run 1 (pc' := 12) (ls' := [some (.ref 0), some (.int (nI 0)), some (.int y)]) (st' := [.int y]) (σ' := σ) rfl ?_
      refine am_tsw rfl rfl (L := [(0, 36), (1, 43), (2, 50), (3, 75), (4, 82)]) rfl ?_
      refine am_sw1 (k := nI 0) (tgt := 48) rfl (by decide) (by decide) rfl (fun h_z => absurd h_z (out_ne hy (by decide) (by decide))) (fun _ => ?_)
      refine am_sw1 (k := nI 1) (tgt := 55) rfl (by decide) (by decide) rfl (fun h_z => absurd h_z (out_ne hy (by decide) (by decide))) (fun _ => ?_)
      refine am_sw1 (k := nI 2) (tgt := 62) rfl (by decide) (by decide) rfl (fun h_z => absurd h_z (out_ne hy (by decide) (by decide))) (fun _ => ?_)
      refine am_sw1 (k := nI 3) (tgt := 87) rfl (by decide) (by decide) rfl (fun h_z => absurd h_z (out_ne hy (by decide) (by decide))) (fun _ => ?_)
      refine am_sw1 (k := nI 4) (tgt := 94) rfl (by decide) (by decide) rfl (fun h_z => absurd h_z (out_ne hy (by decide) (by decide))) (fun _ => ?_)
      refine am_sw0 (tgt := 99) (by decide) rfl ?_
      refine am_run 1 (pc' := 101) (ls' := [some (.ref 0), some (.int (nI 0)), some (.int y)]) (st' := [.int (-1000002)]) (σ' := σ) rfl ?_
      refine am_reti rfl rfl ?_
      exact ⟨rfl, hI⟩
  · obtain ⟨hf, p, n, r, kk, rk, od, dp, ow, s, m, hP, hH⟩ := hF
    obtain ⟨hn1, hR, hro, hM, hk1, hk2, hkk, hND⟩ := id hP
    obtain ⟨a3, b3, hv, a4, b4, hm, hh⟩ := id hH
    have hW := hM.1.2.1
    have hn60 := hW.1
    have hs := hv.1
    have hrn : r < n := hM.2.1.2.1
    have hn2 := hM.1.2.2.2.1
    obtain ⟨L, hL, t1, t2, -⟩ := hI.1
    have hT3 := hR.t3
    rcases i32_in y (k := 4) (by decide) with ⟨u, hu, rfl⟩ | hy
    · rcases (show u = 0 ∨ u = 1 ∨ u = 2 ∨ u = 3 ∨ u = 4 by omega) with rfl | rfl | rfl | rfl | rfl
      · skip
        refine ⟨nI n, ?_⟩
        refine am_enter' (M := M_X9_count) rfl rfl rfl (by omega) (ls := [some (.ref 41), some (.int (nI 1)), some (.int (nI 0)), none]) rfl (fun d' hd' => ?_)
        refine am_run 2 (pc' := 2) (ls' := [some (.ref 41), some (.int (nI 1)), some (.int (nI 0)), none]) (st' := [.int (nI 1), .ref 41]) (σ' := σ) rfl ?_
        refine am_invv (y := 140) (b := 41) (as := [.int (nI 1)]) (rest := []) rfl rfl rfl rfl rfl rfl rfl (Nat.le_of_ble_eq_true rfl) ?_
        refine c_filled1_1 (by omega) hf ?_
        show am_G _ M_X9_count _ 5 [some (.ref 41), some (.int (nI 1)), some (.int (nI 0)), none] [.ref 75] σ
        refine am_run 4 (pc' := 14) (ls' := [some (.ref 41), some (.int (nI 1)), some (.int (nI 0)), some (.ref 75)]) (st' := [.int (nI 0)]) (σ' := σ) rfl ?_
        refine am_tsw rfl rfl (L := [(0, 34), (1, 42), (2, 50), (3, 71), (4, 76)]) rfl ?_
        refine am_sw1 (k := nI 0) (tgt := 48) rfl (by decide) (by decide) rfl (fun _ => ?_) (fun h_z => absurd rfl h_z)
        refine am_run 1 (pc' := 49) (ls' := [some (.ref 41), some (.int (nI 1)), some (.int (nI 0)), some (.ref 75)]) (st' := [.ref 75]) (σ' := σ) rfl ?_
        refine am_invv (y := 66) (b := 75) (as := []) (rest := []) rfl rfl rfl rfl rfl rfl rfl (Nat.le_of_ble_eq_true rfl) ?_
        refine am_enter' rfl rfl rfl (by omega) (ls := [some (.ref 75)]) rfl (fun d_1 hd_1 => ?_)
        refine am_run 2 (pc' := 4) (ls' := [some (.ref 75)]) (st' := [.ref (σ.2 75 1)]) (σ' := σ) rfl ?_
        refine am_reta rfl rfl (Or.inr ⟨_, rfl⟩) ?_
        show am_G _ M_X9_count _ 52 [some (.ref 41), some (.int (nI 1)), some (.int (nI 0)), some (.ref 75)] [.ref (σ.2 75 1)] σ
        refine am_invv (y := 102) (b := (σ.2 75 1)) (as := []) (rest := []) rfl rfl rfl rfl rfl rfl (t3_kind hT3) (Nat.le_of_ble_eq_true rfl) ?_
        refine am_enter' rfl rfl rfl (by omega) (ls := [some (.ref (σ.2 75 1))]) rfl (fun d_2 hd_2 => ?_)
        refine am_run 1 (pc' := 1) (ls' := [some (.ref (σ.2 75 1))]) (st' := [.ref (σ.2 75 1)]) (σ' := σ) rfl ?_
        refine am_getI (k := 8) rfl rfl (t3_kind hT3) rfl ?_
        refine am_top (v' := nI n) hR.2.1 ?_
        refine am_reti rfl rfl ?_
        show am_G _ M_X9_count _ 55 [some (.ref 41), some (.int (nI 1)), some (.int (nI 0)), some (.ref 75)] [.int (nI n)] σ
        refine am_reti rfl rfl ?_
        refine ⟨rfl, ?_⟩
        refine am_enter' (M := M_X10_count) rfl rfl rfl (by omega) (ls := [some (.ref 0), some (.int (nI 1)), some (.int (nI 0))]) rfl (fun d2 hd2 => ?_)
        refine am_run 2 (pc' := 2) (ls' := [some (.ref 0), some (.int (nI 1)), some (.int (nI 0))]) (st' := [.int (nI 1), .ref 0]) (σ' := σ) rfl ?_
        refine am_invv (y := 151) (b := 0) (as := [.int (nI 1)]) (rest := []) rfl rfl rfl rfl rfl rfl rfl (Nat.le_of_ble_eq_true rfl) ?_
        refine c_prog1_1 (by omega) (n := n) (by exact hn2) hn1 hn60 ?_
        show am_G _ M_X10_count _ 5 [some (.ref 0), some (.int (nI 1)), some (.int (nI 0))] [.int (nI 1)] σ
        refine am_if (ty := 8) (tn := 11) rfl (by decide) rfl rfl (fun (h_101 : nI 1 = 0) => ?_) (fun (h_101 : ¬ (nI 1 = 0)) => ?_)
        · exact absurd h_101 (by decide)
        refine am_run 1 (pc' := 12) (ls' := [some (.ref 0), some (.int (nI 1)), some (.int (nI 0))]) (st' := [.int (nI 0)]) (σ' := σ) rfl ?_
        refine am_tsw rfl rfl (L := [(0, 36), (1, 43), (2, 50), (3, 75), (4, 82)]) rfl ?_
        refine am_sw1 (k := nI 0) (tgt := 48) rfl (by decide) (by decide) rfl (fun _ => ?_) (fun h_z => absurd rfl h_z)
        refine am_run 3 (pc' := 53) (ls' := [some (.ref 0), some (.int (nI 1)), some (.int (nI 0))]) (st' := [.int (nI 1), .ref 2]) (σ' := σ) rfl ?_
        refine am_ialdN (n := 3) (v := nI n) rfl rfl rfl (by decide) hn2 (by decide) ?_
        refine am_reti rfl rfl ?_
        exact ⟨rfl, hI⟩
      · skip
        refine ⟨nI kk, ?_⟩
        refine am_enter' (M := M_X9_count) rfl rfl rfl (by omega) (ls := [some (.ref 41), some (.int (nI 1)), some (.int (nI 1)), none]) rfl (fun d' hd' => ?_)
        refine am_run 2 (pc' := 2) (ls' := [some (.ref 41), some (.int (nI 1)), some (.int (nI 1)), none]) (st' := [.int (nI 1), .ref 41]) (σ' := σ) rfl ?_
        refine am_invv (y := 140) (b := 41) (as := [.int (nI 1)]) (rest := []) rfl rfl rfl rfl rfl rfl rfl (Nat.le_of_ble_eq_true rfl) ?_
        refine c_filled1_1 (by omega) hf ?_
        show am_G _ M_X9_count _ 5 [some (.ref 41), some (.int (nI 1)), some (.int (nI 1)), none] [.ref 75] σ
        refine am_run 4 (pc' := 14) (ls' := [some (.ref 41), some (.int (nI 1)), some (.int (nI 1)), some (.ref 75)]) (st' := [.int (nI 1)]) (σ' := σ) rfl ?_
        refine am_tsw rfl rfl (L := [(0, 34), (1, 42), (2, 50), (3, 71), (4, 76)]) rfl ?_
        refine am_sw1 (k := nI 0) (tgt := 48) rfl (by decide) (by decide) rfl (fun h_z => absurd h_z (by decide)) (fun _ => ?_)
        refine am_sw1 (k := nI 1) (tgt := 56) rfl (by decide) (by decide) rfl (fun _ => ?_) (fun h_z => absurd rfl h_z)
        refine am_run 1 (pc' := 57) (ls' := [some (.ref 41), some (.int (nI 1)), some (.int (nI 1)), some (.ref 75)]) (st' := [.ref 75]) (σ' := σ) rfl ?_
        refine am_invv (y := 66) (b := 75) (as := []) (rest := []) rfl rfl rfl rfl rfl rfl rfl (Nat.le_of_ble_eq_true rfl) ?_
        refine am_enter' rfl rfl rfl (by omega) (ls := [some (.ref 75)]) rfl (fun d_1 hd_1 => ?_)
        refine am_run 2 (pc' := 4) (ls' := [some (.ref 75)]) (st' := [.ref (σ.2 75 1)]) (σ' := σ) rfl ?_
        refine am_reta rfl rfl (Or.inr ⟨_, rfl⟩) ?_
        show am_G _ M_X9_count _ 60 [some (.ref 41), some (.int (nI 1)), some (.int (nI 1)), some (.ref 75)] [.ref (σ.2 75 1)] σ
        refine am_invv (y := 103) (b := (σ.2 75 1)) (as := []) (rest := []) rfl rfl rfl rfl rfl rfl (t3_kind hT3) (Nat.le_of_ble_eq_true rfl) ?_
        refine am_enter' rfl rfl rfl (by omega) (ls := [some (.ref (σ.2 75 1))]) rfl (fun d_2 hd_2 => ?_)
        refine am_run 1 (pc' := 1) (ls' := [some (.ref (σ.2 75 1))]) (st' := [.ref (σ.2 75 1)]) (σ' := σ) rfl ?_
        refine am_getI (k := 9) rfl rfl (t3_kind hT3) rfl ?_
        refine am_top (v' := nI kk) hk1 ?_
        refine am_reti rfl rfl ?_
        show am_G _ M_X9_count _ 63 [some (.ref 41), some (.int (nI 1)), some (.int (nI 1)), some (.ref 75)] [.int (nI kk)] σ
        refine am_reti rfl rfl ?_
        refine ⟨rfl, ?_⟩
        refine am_enter' (M := M_X10_count) rfl rfl rfl (by omega) (ls := [some (.ref 0), some (.int (nI 1)), some (.int (nI 1))]) rfl (fun d2 hd2 => ?_)
        refine am_run 2 (pc' := 2) (ls' := [some (.ref 0), some (.int (nI 1)), some (.int (nI 1))]) (st' := [.int (nI 1), .ref 0]) (σ' := σ) rfl ?_
        refine am_invv (y := 151) (b := 0) (as := [.int (nI 1)]) (rest := []) rfl rfl rfl rfl rfl rfl rfl (Nat.le_of_ble_eq_true rfl) ?_
        refine c_prog1_1 (by omega) (n := n) (by exact hn2) hn1 hn60 ?_
        show am_G _ M_X10_count _ 5 [some (.ref 0), some (.int (nI 1)), some (.int (nI 1))] [.int (nI 1)] σ
        refine am_if (ty := 8) (tn := 11) rfl (by decide) rfl rfl (fun (h_101 : nI 1 = 0) => ?_) (fun (h_101 : ¬ (nI 1 = 0)) => ?_)
        · exact absurd h_101 (by decide)
        refine am_run 1 (pc' := 12) (ls' := [some (.ref 0), some (.int (nI 1)), some (.int (nI 1))]) (st' := [.int (nI 1)]) (σ' := σ) rfl ?_
        refine am_tsw rfl rfl (L := [(0, 36), (1, 43), (2, 50), (3, 75), (4, 82)]) rfl ?_
        refine am_sw1 (k := nI 0) (tgt := 48) rfl (by decide) (by decide) rfl (fun h_z => absurd h_z (by decide)) (fun _ => ?_)
        refine am_sw1 (k := nI 1) (tgt := 55) rfl (by decide) (by decide) rfl (fun _ => ?_) (fun h_z => absurd rfl h_z)
        refine am_run 3 (pc' := 60) (ls' := [some (.ref 0), some (.int (nI 1)), some (.int (nI 1))]) (st' := [.int (nI 1), .ref 3]) (σ' := σ) rfl ?_
        refine am_ialdN (n := 3) (v := nI kk) rfl rfl rfl (by decide) hk2 (by decide) ?_
        refine am_reti rfl rfl ?_
        exact ⟨rfl, hI⟩
      · skip
        by_cases es : s = 1048576
        · skip
          refine ⟨nI 0, ?_⟩
          refine am_enter' (M := M_X9_count) rfl rfl rfl (by omega) (ls := [some (.ref 41), some (.int (nI 1)), some (.int (nI 2)), none]) rfl (fun d' hd' => ?_)
          refine am_run 2 (pc' := 2) (ls' := [some (.ref 41), some (.int (nI 1)), some (.int (nI 2)), none]) (st' := [.int (nI 1), .ref 41]) (σ' := σ) rfl ?_
          refine am_invv (y := 140) (b := 41) (as := [.int (nI 1)]) (rest := []) rfl rfl rfl rfl rfl rfl rfl (Nat.le_of_ble_eq_true rfl) ?_
          refine c_filled1_1 (by omega) hf ?_
          show am_G _ M_X9_count _ 5 [some (.ref 41), some (.int (nI 1)), some (.int (nI 2)), none] [.ref 75] σ
          refine am_run 4 (pc' := 14) (ls' := [some (.ref 41), some (.int (nI 1)), some (.int (nI 2)), some (.ref 75)]) (st' := [.int (nI 2)]) (σ' := σ) rfl ?_
          refine am_tsw rfl rfl (L := [(0, 34), (1, 42), (2, 50), (3, 71), (4, 76)]) rfl ?_
          refine am_sw1 (k := nI 0) (tgt := 48) rfl (by decide) (by decide) rfl (fun h_z => absurd h_z (by decide)) (fun _ => ?_)
          refine am_sw1 (k := nI 1) (tgt := 56) rfl (by decide) (by decide) rfl (fun h_z => absurd h_z (by decide)) (fun _ => ?_)
          refine am_sw1 (k := nI 2) (tgt := 64) rfl (by decide) (by decide) rfl (fun _ => ?_) (fun h_z => absurd rfl h_z)
          refine am_run 1 (pc' := 65) (ls' := [some (.ref 41), some (.int (nI 1)), some (.int (nI 2)), some (.ref 75)]) (st' := [.ref 75]) (σ' := σ) rfl ?_
          refine am_invv (y := 67) (b := 75) (as := []) (rest := []) rfl rfl rfl rfl rfl rfl rfl (Nat.le_of_ble_eq_true rfl) ?_
          refine am_enter' rfl rfl rfl (by omega) (ls := [some (.ref 75)]) rfl (fun d_1 hd_1 => ?_)
          refine am_run 2 (pc' := 4) (ls' := [some (.ref 75)]) (st' := [.int (σ.1 75 3)]) (σ' := σ) rfl ?_
          refine am_top (v' := nI s) a3 ?_
          refine am_reti rfl rfl ?_
          show am_G _ M_X9_count _ 68 [some (.ref 41), some (.int (nI 1)), some (.int (nI 2)), some (.ref 75)] [.int (nI s)] σ
          refine am_run 1 (pc' := 70) (ls' := [some (.ref 41), some (.int (nI 1)), some (.int (nI 2)), some (.ref 75)]) (st' := [.int (nI 1048576), .int (nI s)]) (σ' := σ) rfl ?_
          refine am_ic (ty := 73) (tn := 77) rfl (by decide) rfl rfl (fun (h_2 : nI s = nI 1048576) => ?_) (fun (h_2 : ¬ (nI s = nI 1048576)) => ?_)
          rotate_left
          · have h_2 : ¬ (s = 1048576) := fun z => h_2 ((nI_eq (by omega) (by omega)).mpr z)
            omega
          have h_2 : s = 1048576 := (nI_eq (by omega) (by omega)).mp h_2
          refine am_run 2 (pc' := 84) (ls' := [some (.ref 41), some (.int (nI 1)), some (.int (nI 2)), some (.ref 75)]) (st' := [.int (nI 0)]) (σ' := σ) rfl ?_
          refine am_reti rfl rfl ?_
          refine ⟨rfl, ?_⟩
          refine am_enter' (M := M_X10_count) rfl rfl rfl (by omega) (ls := [some (.ref 0), some (.int (nI 1)), some (.int (nI 2))]) rfl (fun d2 hd2 => ?_)
          refine am_run 2 (pc' := 2) (ls' := [some (.ref 0), some (.int (nI 1)), some (.int (nI 2))]) (st' := [.int (nI 1), .ref 0]) (σ' := σ) rfl ?_
          refine am_invv (y := 151) (b := 0) (as := [.int (nI 1)]) (rest := []) rfl rfl rfl rfl rfl rfl rfl (Nat.le_of_ble_eq_true rfl) ?_
          refine c_prog1_1 (by omega) (n := n) (by exact hn2) hn1 hn60 ?_
          show am_G _ M_X10_count _ 5 [some (.ref 0), some (.int (nI 1)), some (.int (nI 2))] [.int (nI 1)] σ
          refine am_if (ty := 8) (tn := 11) rfl (by decide) rfl rfl (fun (h_101 : nI 1 = 0) => ?_) (fun (h_101 : ¬ (nI 1 = 0)) => ?_)
          · exact absurd h_101 (by decide)
          refine am_run 1 (pc' := 12) (ls' := [some (.ref 0), some (.int (nI 1)), some (.int (nI 2))]) (st' := [.int (nI 2)]) (σ' := σ) rfl ?_
          refine am_tsw rfl rfl (L := [(0, 36), (1, 43), (2, 50), (3, 75), (4, 82)]) rfl ?_
          refine am_sw1 (k := nI 0) (tgt := 48) rfl (by decide) (by decide) rfl (fun h_z => absurd h_z (by decide)) (fun _ => ?_)
          refine am_sw1 (k := nI 1) (tgt := 55) rfl (by decide) (by decide) rfl (fun h_z => absurd h_z (by decide)) (fun _ => ?_)
          refine am_sw1 (k := nI 2) (tgt := 62) rfl (by decide) (by decide) rfl (fun _ => ?_) (fun h_z => absurd rfl h_z)
          refine am_run 3 (pc' := 67) (ls' := [some (.ref 0), some (.int (nI 1)), some (.int (nI 2))]) (st' := [.int (nI 1), .ref 17]) (σ' := σ) rfl ?_
          refine am_ialdN (n := 2) (v := nI s) rfl rfl rfl (by decide) b3 (by decide) ?_
          refine am_run 1 (pc' := 70) (ls' := [some (.ref 0), some (.int (nI 1)), some (.int (nI 2))]) (st' := [.int (nI 1048576), .int (nI s)]) (σ' := σ) rfl ?_
          refine am_ic (ty := 73) (tn := 77) rfl (by decide) rfl rfl (fun (h_102 : nI s = nI 1048576) => ?_) (fun (h_102 : ¬ (nI s = nI 1048576)) => ?_)
          rotate_left
          · have h_102 : ¬ (s = 1048576) := fun z => h_102 ((nI_eq (by omega) (by omega)).mpr z)
            omega
          have h_102 : s = 1048576 := (nI_eq (by omega) (by omega)).mp h_102
          refine am_run 2 (pc' := 86) (ls' := [some (.ref 0), some (.int (nI 1)), some (.int (nI 2))]) (st' := [.int (nI 0)]) (σ' := σ) rfl ?_
          refine am_reti rfl rfl ?_
          exact ⟨rfl, hI⟩
        · skip
          refine ⟨nI (pcn s 21), ?_⟩
          refine am_enter' (M := M_X9_count) rfl rfl rfl (by omega) (ls := [some (.ref 41), some (.int (nI 1)), some (.int (nI 2)), none]) rfl (fun d' hd' => ?_)
          refine am_run 2 (pc' := 2) (ls' := [some (.ref 41), some (.int (nI 1)), some (.int (nI 2)), none]) (st' := [.int (nI 1), .ref 41]) (σ' := σ) rfl ?_
          refine am_invv (y := 140) (b := 41) (as := [.int (nI 1)]) (rest := []) rfl rfl rfl rfl rfl rfl rfl (Nat.le_of_ble_eq_true rfl) ?_
          refine c_filled1_1 (by omega) hf ?_
          show am_G _ M_X9_count _ 5 [some (.ref 41), some (.int (nI 1)), some (.int (nI 2)), none] [.ref 75] σ
          refine am_run 4 (pc' := 14) (ls' := [some (.ref 41), some (.int (nI 1)), some (.int (nI 2)), some (.ref 75)]) (st' := [.int (nI 2)]) (σ' := σ) rfl ?_
          refine am_tsw rfl rfl (L := [(0, 34), (1, 42), (2, 50), (3, 71), (4, 76)]) rfl ?_
          refine am_sw1 (k := nI 0) (tgt := 48) rfl (by decide) (by decide) rfl (fun h_z => absurd h_z (by decide)) (fun _ => ?_)
          refine am_sw1 (k := nI 1) (tgt := 56) rfl (by decide) (by decide) rfl (fun h_z => absurd h_z (by decide)) (fun _ => ?_)
          refine am_sw1 (k := nI 2) (tgt := 64) rfl (by decide) (by decide) rfl (fun _ => ?_) (fun h_z => absurd rfl h_z)
          refine am_run 1 (pc' := 65) (ls' := [some (.ref 41), some (.int (nI 1)), some (.int (nI 2)), some (.ref 75)]) (st' := [.ref 75]) (σ' := σ) rfl ?_
          refine am_invv (y := 67) (b := 75) (as := []) (rest := []) rfl rfl rfl rfl rfl rfl rfl (Nat.le_of_ble_eq_true rfl) ?_
          refine am_enter' rfl rfl rfl (by omega) (ls := [some (.ref 75)]) rfl (fun d_1 hd_1 => ?_)
          refine am_run 2 (pc' := 4) (ls' := [some (.ref 75)]) (st' := [.int (σ.1 75 3)]) (σ' := σ) rfl ?_
          refine am_top (v' := nI s) a3 ?_
          refine am_reti rfl rfl ?_
          show am_G _ M_X9_count _ 68 [some (.ref 41), some (.int (nI 1)), some (.int (nI 2)), some (.ref 75)] [.int (nI s)] σ
          refine am_run 1 (pc' := 70) (ls' := [some (.ref 41), some (.int (nI 1)), some (.int (nI 2)), some (.ref 75)]) (st' := [.int (nI 1048576), .int (nI s)]) (σ' := σ) rfl ?_
          refine am_ic (ty := 73) (tn := 77) rfl (by decide) rfl rfl (fun (h_2 : nI s = nI 1048576) => ?_) (fun (h_2 : ¬ (nI s = nI 1048576)) => ?_)
          · have h_2 : s = 1048576 := (nI_eq (by omega) (by omega)).mp h_2
            omega
          have h_2 : ¬ (s = 1048576) := fun z => h_2 ((nI_eq (by omega) (by omega)).mpr z)
          refine am_run 1 (pc' := 78) (ls' := [some (.ref 41), some (.int (nI 1)), some (.int (nI 2)), some (.ref 75)]) (st' := [.ref 75]) (σ' := σ) rfl ?_
          refine am_invv (y := 67) (b := 75) (as := []) (rest := []) rfl rfl rfl rfl rfl rfl rfl (Nat.le_of_ble_eq_true rfl) ?_
          refine am_enter' rfl rfl rfl (by omega) (ls := [some (.ref 75)]) rfl (fun d_3 hd_3 => ?_)
          refine am_run 2 (pc' := 4) (ls' := [some (.ref 75)]) (st' := [.int (σ.1 75 3)]) (σ' := σ) rfl ?_
          refine am_top (v' := nI s) a3 ?_
          refine am_reti rfl rfl ?_
          show am_G _ M_X9_count _ 81 [some (.ref 41), some (.int (nI 1)), some (.int (nI 2)), some (.ref 75)] [.int (nI s)] σ
          refine am_invs (y := 254) (as := [.int (nI s)]) (rest := []) rfl rfl rfl rfl rfl rfl (Nat.le_of_ble_eq_true rfl) ?_
          refine c_bitCount (by omega) (by omega) ?_
          show am_G _ M_X9_count _ 84 [some (.ref 41), some (.int (nI 1)), some (.int (nI 2)), some (.ref 75)] [.int (nI (pcn s 21))] σ
          refine am_reti rfl rfl ?_
          refine ⟨rfl, ?_⟩
          refine am_enter' (M := M_X10_count) rfl rfl rfl (by omega) (ls := [some (.ref 0), some (.int (nI 1)), some (.int (nI 2))]) rfl (fun d2 hd2 => ?_)
          refine am_run 2 (pc' := 2) (ls' := [some (.ref 0), some (.int (nI 1)), some (.int (nI 2))]) (st' := [.int (nI 1), .ref 0]) (σ' := σ) rfl ?_
          refine am_invv (y := 151) (b := 0) (as := [.int (nI 1)]) (rest := []) rfl rfl rfl rfl rfl rfl rfl (Nat.le_of_ble_eq_true rfl) ?_
          refine c_prog1_1 (by omega) (n := n) (by exact hn2) hn1 hn60 ?_
          show am_G _ M_X10_count _ 5 [some (.ref 0), some (.int (nI 1)), some (.int (nI 2))] [.int (nI 1)] σ
          refine am_if (ty := 8) (tn := 11) rfl (by decide) rfl rfl (fun (h_101 : nI 1 = 0) => ?_) (fun (h_101 : ¬ (nI 1 = 0)) => ?_)
          · exact absurd h_101 (by decide)
          refine am_run 1 (pc' := 12) (ls' := [some (.ref 0), some (.int (nI 1)), some (.int (nI 2))]) (st' := [.int (nI 2)]) (σ' := σ) rfl ?_
          refine am_tsw rfl rfl (L := [(0, 36), (1, 43), (2, 50), (3, 75), (4, 82)]) rfl ?_
          refine am_sw1 (k := nI 0) (tgt := 48) rfl (by decide) (by decide) rfl (fun h_z => absurd h_z (by decide)) (fun _ => ?_)
          refine am_sw1 (k := nI 1) (tgt := 55) rfl (by decide) (by decide) rfl (fun h_z => absurd h_z (by decide)) (fun _ => ?_)
          refine am_sw1 (k := nI 2) (tgt := 62) rfl (by decide) (by decide) rfl (fun _ => ?_) (fun h_z => absurd rfl h_z)
          refine am_run 3 (pc' := 67) (ls' := [some (.ref 0), some (.int (nI 1)), some (.int (nI 2))]) (st' := [.int (nI 1), .ref 17]) (σ' := σ) rfl ?_
          refine am_ialdN (n := 2) (v := nI s) rfl rfl rfl (by decide) b3 (by decide) ?_
          refine am_run 1 (pc' := 70) (ls' := [some (.ref 0), some (.int (nI 1)), some (.int (nI 2))]) (st' := [.int (nI 1048576), .int (nI s)]) (σ' := σ) rfl ?_
          refine am_ic (ty := 73) (tn := 77) rfl (by decide) rfl rfl (fun (h_102 : nI s = nI 1048576) => ?_) (fun (h_102 : ¬ (nI s = nI 1048576)) => ?_)
          · have h_102 : s = 1048576 := (nI_eq (by omega) (by omega)).mp h_102
            omega
          have h_102 : ¬ (s = 1048576) := fun z => h_102 ((nI_eq (by omega) (by omega)).mpr z)
          refine am_run 3 (pc' := 82) (ls' := [some (.ref 0), some (.int (nI 1)), some (.int (nI 2))]) (st' := [.int (nI 1), .ref 17]) (σ' := σ) rfl ?_
          refine am_ialdN (n := 2) (v := nI s) rfl rfl rfl (by decide) b3 (by decide) ?_
          refine am_invs (y := 150) (as := [.int (nI s)]) (rest := []) rfl rfl rfl rfl rfl rfl (Nat.le_of_ble_eq_true rfl) ?_
          refine c_ones (by omega) (by omega) ?_
          show am_G _ M_X10_count _ 86 [some (.ref 0), some (.int (nI 1)), some (.int (nI 2))] [.int (nI (pcn s 21))] σ
          refine am_reti rfl rfl ?_
          exact ⟨rfl, hI⟩
      · skip
        refine ⟨nI m, ?_⟩
        refine am_enter' (M := M_X9_count) rfl rfl rfl (by omega) (ls := [some (.ref 41), some (.int (nI 1)), some (.int (nI 3)), none]) rfl (fun d' hd' => ?_)
        refine am_run 2 (pc' := 2) (ls' := [some (.ref 41), some (.int (nI 1)), some (.int (nI 3)), none]) (st' := [.int (nI 1), .ref 41]) (σ' := σ) rfl ?_
        refine am_invv (y := 140) (b := 41) (as := [.int (nI 1)]) (rest := []) rfl rfl rfl rfl rfl rfl rfl (Nat.le_of_ble_eq_true rfl) ?_
        refine c_filled1_1 (by omega) hf ?_
        show am_G _ M_X9_count _ 5 [some (.ref 41), some (.int (nI 1)), some (.int (nI 3)), none] [.ref 75] σ
        refine am_run 4 (pc' := 14) (ls' := [some (.ref 41), some (.int (nI 1)), some (.int (nI 3)), some (.ref 75)]) (st' := [.int (nI 3)]) (σ' := σ) rfl ?_
        refine am_tsw rfl rfl (L := [(0, 34), (1, 42), (2, 50), (3, 71), (4, 76)]) rfl ?_
        refine am_sw1 (k := nI 0) (tgt := 48) rfl (by decide) (by decide) rfl (fun h_z => absurd h_z (by decide)) (fun _ => ?_)
        refine am_sw1 (k := nI 1) (tgt := 56) rfl (by decide) (by decide) rfl (fun h_z => absurd h_z (by decide)) (fun _ => ?_)
        refine am_sw1 (k := nI 2) (tgt := 64) rfl (by decide) (by decide) rfl (fun h_z => absurd h_z (by decide)) (fun _ => ?_)
        refine am_sw1 (k := nI 3) (tgt := 85) rfl (by decide) (by decide) rfl (fun _ => ?_) (fun h_z => absurd rfl h_z)
        refine am_run 1 (pc' := 86) (ls' := [some (.ref 41), some (.int (nI 1)), some (.int (nI 3)), some (.ref 75)]) (st' := [.ref 75]) (σ' := σ) rfl ?_
        refine am_invv (y := 68) (b := 75) (as := []) (rest := []) rfl rfl rfl rfl rfl rfl rfl (Nat.le_of_ble_eq_true rfl) ?_
        refine am_enter' rfl rfl rfl (by omega) (ls := [some (.ref 75)]) rfl (fun d_1 hd_1 => ?_)
        refine am_run 2 (pc' := 4) (ls' := [some (.ref 75)]) (st' := [.int (σ.1 75 4)]) (σ' := σ) rfl ?_
        refine am_top (v' := nI m) a4 ?_
        refine am_reti rfl rfl ?_
        show am_G _ M_X9_count _ 89 [some (.ref 41), some (.int (nI 1)), some (.int (nI 3)), some (.ref 75)] [.int (nI m)] σ
        refine am_reti rfl rfl ?_
        refine ⟨rfl, ?_⟩
        refine am_enter' (M := M_X10_count) rfl rfl rfl (by omega) (ls := [some (.ref 0), some (.int (nI 1)), some (.int (nI 3))]) rfl (fun d2 hd2 => ?_)
        refine am_run 2 (pc' := 2) (ls' := [some (.ref 0), some (.int (nI 1)), some (.int (nI 3))]) (st' := [.int (nI 1), .ref 0]) (σ' := σ) rfl ?_
        refine am_invv (y := 151) (b := 0) (as := [.int (nI 1)]) (rest := []) rfl rfl rfl rfl rfl rfl rfl (Nat.le_of_ble_eq_true rfl) ?_
        refine c_prog1_1 (by omega) (n := n) (by exact hn2) hn1 hn60 ?_
        show am_G _ M_X10_count _ 5 [some (.ref 0), some (.int (nI 1)), some (.int (nI 3))] [.int (nI 1)] σ
        refine am_if (ty := 8) (tn := 11) rfl (by decide) rfl rfl (fun (h_101 : nI 1 = 0) => ?_) (fun (h_101 : ¬ (nI 1 = 0)) => ?_)
        · exact absurd h_101 (by decide)
        refine am_run 1 (pc' := 12) (ls' := [some (.ref 0), some (.int (nI 1)), some (.int (nI 3))]) (st' := [.int (nI 3)]) (σ' := σ) rfl ?_
        refine am_tsw rfl rfl (L := [(0, 36), (1, 43), (2, 50), (3, 75), (4, 82)]) rfl ?_
        refine am_sw1 (k := nI 0) (tgt := 48) rfl (by decide) (by decide) rfl (fun h_z => absurd h_z (by decide)) (fun _ => ?_)
        refine am_sw1 (k := nI 1) (tgt := 55) rfl (by decide) (by decide) rfl (fun h_z => absurd h_z (by decide)) (fun _ => ?_)
        refine am_sw1 (k := nI 2) (tgt := 62) rfl (by decide) (by decide) rfl (fun h_z => absurd h_z (by decide)) (fun _ => ?_)
        refine am_sw1 (k := nI 3) (tgt := 87) rfl (by decide) (by decide) rfl (fun _ => ?_) (fun h_z => absurd rfl h_z)
        refine am_run 3 (pc' := 92) (ls' := [some (.ref 0), some (.int (nI 1)), some (.int (nI 3))]) (st' := [.int (nI 1), .ref 19]) (σ' := σ) rfl ?_
        refine am_ialdN (n := 2) (v := nI m) rfl rfl rfl (by decide) b4 (by decide) ?_
        refine am_reti rfl rfl ?_
        exact ⟨rfl, hI⟩
      · skip
        refine ⟨nI L, ?_⟩
        refine am_enter' (M := M_X9_count) rfl rfl rfl (by omega) (ls := [some (.ref 41), some (.int (nI 1)), some (.int (nI 4)), none]) rfl (fun d' hd' => ?_)
        refine am_run 2 (pc' := 2) (ls' := [some (.ref 41), some (.int (nI 1)), some (.int (nI 4)), none]) (st' := [.int (nI 1), .ref 41]) (σ' := σ) rfl ?_
        refine am_invv (y := 140) (b := 41) (as := [.int (nI 1)]) (rest := []) rfl rfl rfl rfl rfl rfl rfl (Nat.le_of_ble_eq_true rfl) ?_
        refine c_filled1_1 (by omega) hf ?_
        show am_G _ M_X9_count _ 5 [some (.ref 41), some (.int (nI 1)), some (.int (nI 4)), none] [.ref 75] σ
        refine am_run 4 (pc' := 14) (ls' := [some (.ref 41), some (.int (nI 1)), some (.int (nI 4)), some (.ref 75)]) (st' := [.int (nI 4)]) (σ' := σ) rfl ?_
        refine am_tsw rfl rfl (L := [(0, 34), (1, 42), (2, 50), (3, 71), (4, 76)]) rfl ?_
        refine am_sw1 (k := nI 0) (tgt := 48) rfl (by decide) (by decide) rfl (fun h_z => absurd h_z (by decide)) (fun _ => ?_)
        refine am_sw1 (k := nI 1) (tgt := 56) rfl (by decide) (by decide) rfl (fun h_z => absurd h_z (by decide)) (fun _ => ?_)
        refine am_sw1 (k := nI 2) (tgt := 64) rfl (by decide) (by decide) rfl (fun h_z => absurd h_z (by decide)) (fun _ => ?_)
        refine am_sw1 (k := nI 3) (tgt := 85) rfl (by decide) (by decide) rfl (fun h_z => absurd h_z (by decide)) (fun _ => ?_)
        refine am_sw1 (k := nI 4) (tgt := 90) rfl (by decide) (by decide) rfl (fun _ => ?_) (fun h_z => absurd rfl h_z)
        refine am_run 2 (pc' := 94) (ls' := [some (.ref 41), some (.int (nI 1)), some (.int (nI 4)), some (.ref 75)]) (st' := [.ref 42]) (σ' := σ) rfl ?_
        refine am_invv (y := 97) (b := 42) (as := []) (rest := []) rfl rfl rfl rfl rfl rfl rfl (Nat.le_of_ble_eq_true rfl) ?_
        refine am_enter' rfl rfl rfl (by omega) (ls := [some (.ref 42)]) rfl (fun d_1 hd_1 => ?_)
        refine am_run 2 (pc' := 4) (ls' := [some (.ref 42)]) (st' := [.int (σ.1 42 1)]) (σ' := σ) rfl ?_
        refine am_top (v' := nI L) t1 ?_
        refine am_reti rfl rfl ?_
        show am_G _ M_X9_count _ 97 [some (.ref 41), some (.int (nI 1)), some (.int (nI 4)), some (.ref 75)] [.int (nI L)] σ
        refine am_reti rfl rfl ?_
        refine ⟨rfl, ?_⟩
        refine am_enter' (M := M_X10_count) rfl rfl rfl (by omega) (ls := [some (.ref 0), some (.int (nI 1)), some (.int (nI 4))]) rfl (fun d2 hd2 => ?_)
        refine am_run 2 (pc' := 2) (ls' := [some (.ref 0), some (.int (nI 1)), some (.int (nI 4))]) (st' := [.int (nI 1), .ref 0]) (σ' := σ) rfl ?_
        refine am_invv (y := 151) (b := 0) (as := [.int (nI 1)]) (rest := []) rfl rfl rfl rfl rfl rfl rfl (Nat.le_of_ble_eq_true rfl) ?_
        refine c_prog1_1 (by omega) (n := n) (by exact hn2) hn1 hn60 ?_
        show am_G _ M_X10_count _ 5 [some (.ref 0), some (.int (nI 1)), some (.int (nI 4))] [.int (nI 1)] σ
        refine am_if (ty := 8) (tn := 11) rfl (by decide) rfl rfl (fun (h_101 : nI 1 = 0) => ?_) (fun (h_101 : ¬ (nI 1 = 0)) => ?_)
        · exact absurd h_101 (by decide)
        refine am_run 1 (pc' := 12) (ls' := [some (.ref 0), some (.int (nI 1)), some (.int (nI 4))]) (st' := [.int (nI 4)]) (σ' := σ) rfl ?_
        refine am_tsw rfl rfl (L := [(0, 36), (1, 43), (2, 50), (3, 75), (4, 82)]) rfl ?_
        refine am_sw1 (k := nI 0) (tgt := 48) rfl (by decide) (by decide) rfl (fun h_z => absurd h_z (by decide)) (fun _ => ?_)
        refine am_sw1 (k := nI 1) (tgt := 55) rfl (by decide) (by decide) rfl (fun h_z => absurd h_z (by decide)) (fun _ => ?_)
        refine am_sw1 (k := nI 2) (tgt := 62) rfl (by decide) (by decide) rfl (fun h_z => absurd h_z (by decide)) (fun _ => ?_)
        refine am_sw1 (k := nI 3) (tgt := 87) rfl (by decide) (by decide) rfl (fun h_z => absurd h_z (by decide)) (fun _ => ?_)
        refine am_sw1 (k := nI 4) (tgt := 94) rfl (by decide) (by decide) rfl (fun _ => ?_) (fun h_z => absurd rfl h_z)
        refine am_run 2 (pc' := 98) (ls' := [some (.ref 0), some (.int (nI 1)), some (.int (nI 4))]) (st' := [.int (σ.1 0 1)]) (σ' := σ) rfl ?_
        refine am_top (v' := nI L) t2 ?_
        refine am_reti rfl rfl ?_
        exact ⟨rfl, hI⟩
    · skip
      refine ⟨-1000002, ?_⟩
      refine am_enter' (M := M_X9_count) rfl rfl rfl (by omega) (ls := [some (.ref 41), some (.int (nI 1)), some (.int y), none]) rfl (fun d' hd' => ?_)
      refine am_run 2 (pc' := 2) (ls' := [some (.ref 41), some (.int (nI 1)), some (.int y), none]) (st' := [.int (nI 1), .ref 41]) (σ' := σ) rfl ?_
      refine am_invv (y := 140) (b := 41) (as := [.int (nI 1)]) (rest := []) rfl rfl rfl rfl rfl rfl rfl (Nat.le_of_ble_eq_true rfl) ?_
      refine c_filled1_1 (by omega) hf ?_
      show am_G _ M_X9_count _ 5 [some (.ref 41), some (.int (nI 1)), some (.int y), none] [.ref 75] σ
      refine am_run 4 (pc' := 14) (ls' := [some (.ref 41), some (.int (nI 1)), some (.int y), some (.ref 75)]) (st' := [.int y]) (σ' := σ) rfl ?_
      refine am_tsw rfl rfl (L := [(0, 34), (1, 42), (2, 50), (3, 71), (4, 76)]) rfl ?_
      refine am_sw1 (k := nI 0) (tgt := 48) rfl (by decide) (by decide) rfl (fun h_z => absurd h_z (out_ne hy (by decide) (by decide))) (fun _ => ?_)
      refine am_sw1 (k := nI 1) (tgt := 56) rfl (by decide) (by decide) rfl (fun h_z => absurd h_z (out_ne hy (by decide) (by decide))) (fun _ => ?_)
      refine am_sw1 (k := nI 2) (tgt := 64) rfl (by decide) (by decide) rfl (fun h_z => absurd h_z (out_ne hy (by decide) (by decide))) (fun _ => ?_)
      refine am_sw1 (k := nI 3) (tgt := 85) rfl (by decide) (by decide) rfl (fun h_z => absurd h_z (out_ne hy (by decide) (by decide))) (fun _ => ?_)
      refine am_sw1 (k := nI 4) (tgt := 90) rfl (by decide) (by decide) rfl (fun h_z => absurd h_z (out_ne hy (by decide) (by decide))) (fun _ => ?_)
      refine am_sw0 (tgt := 98) (by decide) rfl ?_
      refine am_run 1 (pc' := 100) (ls' := [some (.ref 41), some (.int (nI 1)), some (.int y), some (.ref 75)]) (st' := [.int (-1000002)]) (σ' := σ) rfl ?_
      refine am_reti rfl rfl ?_
      refine ⟨rfl, ?_⟩
      refine am_enter' (M := M_X10_count) rfl rfl rfl (by omega) (ls := [some (.ref 0), some (.int (nI 1)), some (.int y)]) rfl (fun d2 hd2 => ?_)
      refine am_run 2 (pc' := 2) (ls' := [some (.ref 0), some (.int (nI 1)), some (.int y)]) (st' := [.int (nI 1), .ref 0]) (σ' := σ) rfl ?_
      refine am_invv (y := 151) (b := 0) (as := [.int (nI 1)]) (rest := []) rfl rfl rfl rfl rfl rfl rfl (Nat.le_of_ble_eq_true rfl) ?_
      refine c_prog1_1 (by omega) (n := n) (by exact hn2) hn1 hn60 ?_
      show am_G _ M_X10_count _ 5 [some (.ref 0), some (.int (nI 1)), some (.int y)] [.int (nI 1)] σ
      refine am_if (ty := 8) (tn := 11) rfl (by decide) rfl rfl (fun (h_101 : nI 1 = 0) => ?_) (fun (h_101 : ¬ (nI 1 = 0)) => ?_)
      · exact absurd h_101 (by decide)
      refine am_run 1 (pc' := 12) (ls' := [some (.ref 0), some (.int (nI 1)), some (.int y)]) (st' := [.int y]) (σ' := σ) rfl ?_
      refine am_tsw rfl rfl (L := [(0, 36), (1, 43), (2, 50), (3, 75), (4, 82)]) rfl ?_
      refine am_sw1 (k := nI 0) (tgt := 48) rfl (by decide) (by decide) rfl (fun h_z => absurd h_z (out_ne hy (by decide) (by decide))) (fun _ => ?_)
      refine am_sw1 (k := nI 1) (tgt := 55) rfl (by decide) (by decide) rfl (fun h_z => absurd h_z (out_ne hy (by decide) (by decide))) (fun _ => ?_)
      refine am_sw1 (k := nI 2) (tgt := 62) rfl (by decide) (by decide) rfl (fun h_z => absurd h_z (out_ne hy (by decide) (by decide))) (fun _ => ?_)
      refine am_sw1 (k := nI 3) (tgt := 87) rfl (by decide) (by decide) rfl (fun h_z => absurd h_z (out_ne hy (by decide) (by decide))) (fun _ => ?_)
      refine am_sw1 (k := nI 4) (tgt := 94) rfl (by decide) (by decide) rfl (fun h_z => absurd h_z (out_ne hy (by decide) (by decide))) (fun _ => ?_)
      refine am_sw0 (tgt := 99) (by decide) rfl ?_
      refine am_run 1 (pc' := 101) (ls' := [some (.ref 0), some (.int (nI 1)), some (.int y)]) (st' := [.int (-1000002)]) (σ' := σ) rfl ?_
      refine am_reti rfl rfl ?_
      exact ⟨rfl, hI⟩

set_option maxRecDepth 10000 in
set_option maxHeartbeats 2000000 in
theorem pr_waits {d : Nat} (hd : 600 ≤ d) {σ : am_M} (hI : Inv σ) (x y z : Int32) : PR d 132 237 [.int x, .int y, .int z] σ := by
  rcases pl_cases hI x with hN | ⟨rfl, hF⟩ | ⟨rfl, hF⟩
  · refine ⟨-1000001, ?_⟩
    refine am_enter' (M := M_X9_waits) rfl rfl rfl (by omega) (ls := [some (.ref 41), some (.int x), some (.int y), some (.int z), none]) rfl (fun d' hd' => ?_)
    refine am_run 2 (pc' := 2) (ls' := [some (.ref 41), some (.int x), some (.int y), some (.int z), none]) (st' := [.int x, .ref 41]) (σ' := σ) rfl ?_
    refine am_invv (y := 140) (b := 41) (as := [.int x]) (rest := []) rfl rfl rfl rfl rfl rfl rfl (Nat.le_of_ble_eq_true rfl) ?_
    refine c_nf (by omega) hN ?_
    show am_G _ M_X9_waits _ 5 [some (.ref 41), some (.int x), some (.int y), some (.int z), none] [.null] σ
    refine am_run 4 (pc' := 14) (ls' := [some (.ref 41), some (.int x), some (.int y), some (.int z), some (.null)]) (st' := [.int (-1000001)]) (σ' := σ) rfl ?_
    refine am_reti rfl rfl ?_
    refine ⟨rfl, ?_⟩
    refine am_enter' (M := M_X10_waits) rfl rfl rfl (by omega) (ls := [some (.ref 0), some (.int x), some (.int y), some (.int z), none]) rfl (fun d2 hd2 => ?_)
    refine am_run 2 (pc' := 2) (ls' := [some (.ref 0), some (.int x), some (.int y), some (.int z), none]) (st' := [.int x, .ref 0]) (σ' := σ) rfl ?_
    refine am_invv (y := 151) (b := 0) (as := [.int x]) (rest := []) rfl rfl rfl rfl rfl rfl rfl (Nat.le_of_ble_eq_true rfl) ?_
    refine c_np (by omega) hN ?_
    show am_G _ M_X10_waits _ 5 [some (.ref 0), some (.int x), some (.int y), some (.int z), none] [.int (nI 0)] σ
    refine am_if (ty := 8) (tn := 11) rfl (by decide) rfl rfl (fun (h_101 : nI 0 = 0) => ?_) (fun (h_101 : ¬ (nI 0 = 0)) => ?_)
    rotate_left
    · exact absurd (by decide) h_101
    refine am_run 1 (pc' := 10) (ls' := [some (.ref 0), some (.int x), some (.int y), some (.int z), none]) (st' := [.int (-1000001)]) (σ' := σ) rfl ?_
    refine am_reti rfl rfl ?_
    exact ⟨rfl, hI⟩
  · obtain ⟨hf, p, n, r, kk, rk, od, dp, ow, s, m, hP, hH⟩ := hF
    obtain ⟨hn1, hR, hro, hM, hk1, hk2, hkk, hND⟩ := id hP
    obtain ⟨a3, b3, hv, a4, b4, hm, hh⟩ := id hH
    have hW := hM.1.2.1
    have hn60 := hW.1
    have hs := hv.1
    have hrn : r < n := hM.2.1.2.1
    have hn2 := hM.1.2.2.2.1
    rcases i32_in y (k := 255) (by decide) with ⟨u, hu0, rfl⟩ | hy
    · have hu : u < 256 := by omega
      rcases i32_in z (k := 7) (by decide) with ⟨g, hg0, rfl⟩ | hz
      · have hg : g < 8 := by omega
        obtain ⟨b1, b2, b3_, b4_, b5_, b6_⟩ := oc_b (s := s) hW (show r + 1 ≤ n by omega) hu
        have hnv := oc_vs hM s hu
        have hdj0 := oc_ri (s := s) (u := u) hW (show r + 1 ≤ n by omega)
        have hw3 := oc_w p (r + 1) s u
        generalize hz : oc p (r + 1) s u = z0 at b1 b2 b3_ b4_ b5_ b6_ hnv hdj0 hw3
        obtain ⟨P, A, w, c, nx, rd⟩ := z0
        have b1 : P < 256 := b1
        have b2 : A < 256 := b2
        have b3_ : w ≤ 256 := b3_
        have b4_ : c ≤ 6 := b4_
        have b5_ : nx < 1048576 := b5_
        have b6_ : rd ≤ 9 := b6_
        have hnv : VS p r nx := hnv
        have hdj0 : dj P A := hdj0
        have hw3 : w = 0 ∨ w = 256 ∨ (w = dn 255 (P ||| A) ∧ ¬ w = 0 ∧ ¬ s = 0) := hw3
        rcases hw3 with rfl | rfl | ⟨ew, hw0, hs0⟩
        · skip
          refine ⟨nI 0, ?_⟩
          refine am_enter' (M := M_X9_waits) rfl rfl rfl (by omega) (ls := [some (.ref 41), some (.int (nI 0)), some (.int (nI u)), some (.int (nI g)), none]) rfl (fun d' hd' => ?_)
          refine am_run 2 (pc' := 2) (ls' := [some (.ref 41), some (.int (nI 0)), some (.int (nI u)), some (.int (nI g)), none]) (st' := [.int (nI 0), .ref 41]) (σ' := σ) rfl ?_
          refine am_invv (y := 140) (b := 41) (as := [.int (nI 0)]) (rest := []) rfl rfl rfl rfl rfl rfl rfl (Nat.le_of_ble_eq_true rfl) ?_
          refine c_filled0_1 (by omega) hf ?_
          show am_G _ M_X9_waits _ 5 [some (.ref 41), some (.int (nI 0)), some (.int (nI u)), some (.int (nI g)), none] [.ref 73] σ
          refine am_run 4 (pc' := 16) (ls' := [some (.ref 41), some (.int (nI 0)), some (.int (nI u)), some (.int (nI g)), some (.ref 73)]) (st' := [.int (nI u)]) (σ' := σ) rfl ?_
          refine am_invs (y := 141) (as := [.int (nI u)]) (rest := []) rfl rfl rfl rfl rfl rfl (Nat.le_of_ble_eq_true rfl) ?_
          refine c_sig1 (by omega) (by omega) ?_
          show am_G _ M_X9_waits _ 19 [some (.ref 41), some (.int (nI 0)), some (.int (nI u)), some (.int (nI g)), some (.ref 73)] [.int (nI 1)] σ
          refine am_if (ty := 32) (tn := 22) rfl (by decide) rfl rfl (fun (h_1 : nI 1 = 0) => ?_) (fun (h_1 : ¬ (nI 1 = 0)) => ?_)
          · exact absurd h_1 (by decide)
          refine am_run 1 (pc' := 23) (ls' := [some (.ref 41), some (.int (nI 0)), some (.int (nI u)), some (.int (nI g)), some (.ref 73)]) (st' := [.int (nI g)]) (σ' := σ) rfl ?_
          refine am_if (ty := 32) (tn := 26) rfl (by decide) rfl rfl (fun (h_2 : nI g < 0) => ?_) (fun (h_2 : ¬ (nI g < 0)) => ?_)
          · have h_2 : g < 0 := (am_nlt0 (by omega)).mp h_2
            omega
          have h_2 : ¬ (g < 0) := fun z => h_2 ((am_nlt0 (by omega)).mpr z)
          refine am_run 2 (pc' := 29) (ls' := [some (.ref 41), some (.int (nI 0)), some (.int (nI u)), some (.int (nI g)), some (.ref 73)]) (st' := [.int (nI 8), .int (nI g)]) (σ' := σ) rfl ?_
          refine am_ic (ty := 35) (tn := 32) rfl (by decide) rfl rfl (fun (h_3 : nI g < nI 8) => ?_) (fun (h_3 : ¬ (nI g < nI 8)) => ?_)
          rotate_left
          · have h_3 : ¬ (g < 8) := fun z => h_3 ((nI_ltI (by omega) (by omega)).mpr z)
            omega
          have h_3 : g < 8 := (nI_ltI (by omega) (by omega)).mp h_3
          refine am_run 3 (pc' := 41) (ls' := [some (.ref 41), some (.int (nI 0)), some (.int (nI u)), some (.int (nI g)), some (.ref 73)]) (st' := [.ref 73, .ref 77]) (σ' := σ) rfl ?_
          refine am_invv (y := 66) (b := 73) (as := []) (rest := [.ref 77]) rfl rfl rfl rfl rfl rfl rfl (Nat.le_of_ble_eq_true rfl) ?_
          refine am_enter' rfl rfl rfl (by omega) (ls := [some (.ref 73)]) rfl (fun d_4 hd_4 => ?_)
          refine am_run 2 (pc' := 4) (ls' := [some (.ref 73)]) (st' := [.ref (σ.2 73 1)]) (σ' := σ) rfl ?_
          refine am_reta rfl rfl (Or.inr ⟨_, rfl⟩) ?_
          show am_G _ M_X9_waits _ 44 [some (.ref 41), some (.int (nI 0)), some (.int (nI u)), some (.int (nI g)), some (.ref 73)] [.ref (σ.2 73 1), .ref 77] σ
          refine am_run 1 (pc' := 46) (ls' := [some (.ref 41), some (.int (nI 0)), some (.int (nI u)), some (.int (nI g)), some (.ref 73)]) (st' := [.ref 73, .ref (σ.2 73 1), .ref 77]) (σ' := σ) rfl ?_
          refine am_invv (y := 67) (b := 73) (as := []) (rest := [.ref (σ.2 73 1), .ref 77]) rfl rfl rfl rfl rfl rfl rfl (Nat.le_of_ble_eq_true rfl) ?_
          refine am_enter' rfl rfl rfl (by omega) (ls := [some (.ref 73)]) rfl (fun d_5 hd_5 => ?_)
          refine am_run 2 (pc' := 4) (ls' := [some (.ref 73)]) (st' := [.int (σ.1 73 3)]) (σ' := σ) rfl ?_
          refine am_top (v' := nI s) a3 ?_
          refine am_reti rfl rfl ?_
          show am_G _ M_X9_waits _ 49 [some (.ref 41), some (.int (nI 0)), some (.int (nI u)), some (.int (nI g)), some (.ref 73)] [.int (nI s), .ref (σ.2 73 1), .ref 77] σ
          refine am_run 1 (pc' := 50) (ls' := [some (.ref 41), some (.int (nI 0)), some (.int (nI u)), some (.int (nI g)), some (.ref 73)]) (st' := [.int (nI u), .int (nI s), .ref (σ.2 73 1), .ref 77]) (σ' := σ) rfl ?_
          refine am_invv (y := 56) (b := 77) (as := [.ref (σ.2 73 1), .int (nI s), .int (nI u)]) (rest := []) rfl rfl rfl rfl rfl rfl rfl (Nat.le_of_ble_eq_true rfl) ?_
          refine c_determine (by omega) hW hR (show r + 1 ≤ n by omega) hro (Or.inl rfl) hs hu (fun σ2 hK hO => ?_)
          rw [hz] at hO
          obtain ⟨o0, o1, o2, o3, o4⟩ : σ2.1 77 0 = nI (P + 256 * A) ∧ σ2.1 77 1 = nI 0 ∧ σ2.1 77 2 = nI c ∧ σ2.1 77 3 = nI nx ∧ σ2.1 77 4 = nI rd := hO
          have hM2 := hM.keep2 (σ' := σ2) (fun c a => hK.1 c (by omega))
          have b32 : σ2.1 17 0 = nI s := by rw [hK.1 17 (by decide)]; exact b3
          have hn22 : σ2.1 2 0 = nI n := hM2.1.2.2.2.1
          have a32 : σ2.1 73 3 = nI s := by rw [hK.1 73 (by decide)]; exact a3
          have hR2 : TR σ2 (σ2.2 73 1) p n := by rw [hK.2]; exact hK.TR (Or.inl rfl) hR
          have hro2 : ROOT σ2 (σ2.2 73 1) (r + 1) := by
            unfold ROOT
            rw [hK.2, hK.1 _ (by have := hR.t3; unfold T3 at this; omega)]
            exact hro
          show am_G _ M_X9_waits _ 53 [some (.ref 41), some (.int (nI 0)), some (.int (nI u)), some (.int (nI g)), some (.ref 73)] [] σ2
          refine am_run 3 (pc' := 59) (ls' := [some (.ref 41), some (.int (nI 0)), some (.int (nI u)), some (.int (nI g)), some (.ref 73)]) (st' := [.ref 73, .ref 77]) (σ' := σ2) rfl ?_
          refine am_invv (y := 66) (b := 73) (as := []) (rest := [.ref 77]) rfl rfl rfl rfl rfl rfl rfl (Nat.le_of_ble_eq_true rfl) ?_
          refine am_enter' rfl rfl rfl (by omega) (ls := [some (.ref 73)]) rfl (fun d_6 hd_6 => ?_)
          refine am_run 2 (pc' := 4) (ls' := [some (.ref 73)]) (st' := [.ref (σ2.2 73 1)]) (σ' := σ2) rfl ?_
          refine am_reta rfl rfl (Or.inr ⟨_, rfl⟩) ?_
          show am_G _ M_X9_waits _ 62 [some (.ref 41), some (.int (nI 0)), some (.int (nI u)), some (.int (nI g)), some (.ref 73)] [.ref (σ2.2 73 1), .ref 77] σ2
          refine am_run 1 (pc' := 64) (ls' := [some (.ref 41), some (.int (nI 0)), some (.int (nI u)), some (.int (nI g)), some (.ref 73)]) (st' := [.ref 73, .ref (σ2.2 73 1), .ref 77]) (σ' := σ2) rfl ?_
          refine am_invv (y := 67) (b := 73) (as := []) (rest := [.ref (σ2.2 73 1), .ref 77]) rfl rfl rfl rfl rfl rfl rfl (Nat.le_of_ble_eq_true rfl) ?_
          refine am_enter' rfl rfl rfl (by omega) (ls := [some (.ref 73)]) rfl (fun d_7 hd_7 => ?_)
          refine am_run 2 (pc' := 4) (ls' := [some (.ref 73)]) (st' := [.int (σ2.1 73 3)]) (σ' := σ2) rfl ?_
          refine am_top (v' := nI s) a32 ?_
          refine am_reti rfl rfl ?_
          show am_G _ M_X9_waits _ 67 [some (.ref 41), some (.int (nI 0)), some (.int (nI u)), some (.int (nI g)), some (.ref 73)] [.int (nI s), .ref (σ2.2 73 1), .ref 77] σ2
          refine am_run 1 (pc' := 68) (ls' := [some (.ref 41), some (.int (nI 0)), some (.int (nI u)), some (.int (nI g)), some (.ref 73)]) (st' := [.int (nI g), .int (nI s), .ref (σ2.2 73 1), .ref 77]) (σ' := σ2) rfl ?_
          refine am_invv (y := 61) (b := 77) (as := [.ref (σ2.2 73 1), .int (nI s), .int (nI g)]) (rest := []) rfl rfl rfl rfl rfl rfl rfl (Nat.le_of_ble_eq_true rfl) ?_
          refine c_waited (by omega) hW hR2 (show r + 1 ≤ n by omega) hro2 hs b1 b2 hg (by omega) o0 o1 ?_
          show am_G _ M_X9_waits _ 71 [some (.ref 41), some (.int (nI 0)), some (.int (nI u)), some (.int (nI g)), some (.ref 73)] [.int (nI (wfs p (r + 1) s 0 P A g))] σ2
          refine am_reti rfl rfl ?_
          refine ⟨by rw [show wfs p (r + 1) s 0 P A g = 0 from if_neg (by simp)], ?_⟩
          refine am_enter' (M := M_X10_waits) rfl rfl rfl (by omega) (ls := [some (.ref 0), some (.int (nI 0)), some (.int (nI u)), some (.int (nI g)), none]) rfl (fun d2 hd2 => ?_)
          refine am_run 2 (pc' := 2) (ls' := [some (.ref 0), some (.int (nI 0)), some (.int (nI u)), some (.int (nI g)), none]) (st' := [.int (nI 0), .ref 0]) (σ' := σ2) rfl ?_
          refine am_invv (y := 151) (b := 0) (as := [.int (nI 0)]) (rest := []) rfl rfl rfl rfl rfl rfl rfl (Nat.le_of_ble_eq_true rfl) ?_
          refine c_prog0_1 (by omega) (n := n) (by exact hn22) hn1 hn60 ?_
          show am_G _ M_X10_waits _ 5 [some (.ref 0), some (.int (nI 0)), some (.int (nI u)), some (.int (nI g)), none] [.int (nI 1)] σ2
          refine am_if (ty := 8) (tn := 11) rfl (by decide) rfl rfl (fun (h_101 : nI 1 = 0) => ?_) (fun (h_101 : ¬ (nI 1 = 0)) => ?_)
          · exact absurd h_101 (by decide)
          refine am_run 3 (pc' := 16) (ls' := [some (.ref 0), some (.int (nI 0)), some (.int (nI u)), some (.int (nI g)), none]) (st' := [.int (nI 255), .int (nI 0), .int (nI u)]) (σ' := σ2) rfl ?_
          refine am_invs (y := 148) (as := [.int (nI u), .int (nI 0), .int (nI 255)]) (rest := []) rfl rfl rfl rfl rfl rfl (Nat.le_of_ble_eq_true rfl) ?_
          refine c_in1 (by omega) (by omega) (by omega) (by omega) ?_
          show am_G _ M_X10_waits _ 19 [some (.ref 0), some (.int (nI 0)), some (.int (nI u)), some (.int (nI g)), none] [.int (nI 1)] σ2
          refine am_if (ty := 32) (tn := 22) rfl (by decide) rfl rfl (fun (h_102 : nI 1 = 0) => ?_) (fun (h_102 : ¬ (nI 1 = 0)) => ?_)
          · exact absurd h_102 (by decide)
          refine am_run 3 (pc' := 26) (ls' := [some (.ref 0), some (.int (nI 0)), some (.int (nI u)), some (.int (nI g)), none]) (st' := [.int (nI 7), .int (nI 0), .int (nI g)]) (σ' := σ2) rfl ?_
          refine am_invs (y := 148) (as := [.int (nI g), .int (nI 0), .int (nI 7)]) (rest := []) rfl rfl rfl rfl rfl rfl (Nat.le_of_ble_eq_true rfl) ?_
          refine c_in1 (by omega) (by omega) (by omega) (by omega) ?_
          show am_G _ M_X10_waits _ 29 [some (.ref 0), some (.int (nI 0)), some (.int (nI u)), some (.int (nI g)), none] [.int (nI 1)] σ2
          refine am_if (ty := 32) (tn := 35) rfl (by decide) rfl rfl (fun (h_103 : nI 1 = 0) => ?_) (fun (h_103 : ¬ (nI 1 = 0)) => ?_)
          · exact absurd h_103 (by decide)
          refine am_run 5 (pc' := 42) (ls' := [some (.ref 0), some (.int (nI 0)), some (.int (nI u)), some (.int (nI g)), none]) (st' := [.int (nI 0), .ref 17, .int (nI 0), .ref 0]) (σ' := σ2) rfl ?_
          refine am_ialdN (n := 2) (v := nI s) rfl rfl rfl (by decide) b32 (by decide) ?_
          refine am_run 1 (pc' := 44) (ls' := [some (.ref 0), some (.int (nI 0)), some (.int (nI u)), some (.int (nI g)), none]) (st' := [.int (nI u), .int (nI s), .int (nI 0), .ref 0]) (σ' := σ2) rfl ?_
          refine am_invv (y := 229) (b := 0) (as := [.int (nI 0), .int (nI s), .int (nI u)]) (rest := []) rfl rfl rfl rfl rfl rfl rfl (Nat.le_of_ble_eq_true rfl) ?_
          refine c_settles1 (by omega) hM2 hs hv.2 hu hz (fun σ3 hS i38 i39 i40 i41 i42 i43 i44 i29 => ?_)
          show am_G _ M_X10_waits _ 47 [some (.ref 0), some (.int (nI 0)), some (.int (nI u)), some (.int (nI g)), none] [.int (nI 1)] σ3
          refine am_run 2 (pc' := 51) (ls' := [some (.ref 0), some (.int (nI 0)), some (.int (nI u)), some (.int (nI g)), some (.int (nI 1))]) (st' := [.int (nI 1)]) (σ' := σ3) rfl ?_
          refine am_if (ty := 54) (tn := 65) rfl (by decide) rfl rfl (fun (h_104 : nI 1 = 0) => ?_) (fun (h_104 : ¬ (nI 1 = 0)) => ?_)
          · exact absurd h_104 (by decide)
          refine am_run 2 (pc' := 74) (ls' := [some (.ref 0), some (.int (nI 0)), some (.int (nI u)), some (.int (nI g)), some (.int (nI 1))]) (st' := [.int (nI 0)]) (σ' := σ3) rfl ?_
          refine am_reti rfl rfl ?_
          exact ⟨rfl, ((hK.KI (Or.inl rfl)).tr hS.KI).inv hI⟩
        · have hw0 : ¬ (256 : Nat) = 0 := by decide
          have hb : (256 : Nat).testBit g = false := by rw [show (256 : Nat) = 2 ^ 8 from rfl, Nat.testBit_two_pow]; exact decide_eq_false (by omega)
          refine ⟨nI 0, ?_⟩
          refine am_enter' (M := M_X9_waits) rfl rfl rfl (by omega) (ls := [some (.ref 41), some (.int (nI 0)), some (.int (nI u)), some (.int (nI g)), none]) rfl (fun d' hd' => ?_)
          refine am_run 2 (pc' := 2) (ls' := [some (.ref 41), some (.int (nI 0)), some (.int (nI u)), some (.int (nI g)), none]) (st' := [.int (nI 0), .ref 41]) (σ' := σ) rfl ?_
          refine am_invv (y := 140) (b := 41) (as := [.int (nI 0)]) (rest := []) rfl rfl rfl rfl rfl rfl rfl (Nat.le_of_ble_eq_true rfl) ?_
          refine c_filled0_1 (by omega) hf ?_
          show am_G _ M_X9_waits _ 5 [some (.ref 41), some (.int (nI 0)), some (.int (nI u)), some (.int (nI g)), none] [.ref 73] σ
          refine am_run 4 (pc' := 16) (ls' := [some (.ref 41), some (.int (nI 0)), some (.int (nI u)), some (.int (nI g)), some (.ref 73)]) (st' := [.int (nI u)]) (σ' := σ) rfl ?_
          refine am_invs (y := 141) (as := [.int (nI u)]) (rest := []) rfl rfl rfl rfl rfl rfl (Nat.le_of_ble_eq_true rfl) ?_
          refine c_sig1 (by omega) (by omega) ?_
          show am_G _ M_X9_waits _ 19 [some (.ref 41), some (.int (nI 0)), some (.int (nI u)), some (.int (nI g)), some (.ref 73)] [.int (nI 1)] σ
          refine am_if (ty := 32) (tn := 22) rfl (by decide) rfl rfl (fun (h_1 : nI 1 = 0) => ?_) (fun (h_1 : ¬ (nI 1 = 0)) => ?_)
          · exact absurd h_1 (by decide)
          refine am_run 1 (pc' := 23) (ls' := [some (.ref 41), some (.int (nI 0)), some (.int (nI u)), some (.int (nI g)), some (.ref 73)]) (st' := [.int (nI g)]) (σ' := σ) rfl ?_
          refine am_if (ty := 32) (tn := 26) rfl (by decide) rfl rfl (fun (h_2 : nI g < 0) => ?_) (fun (h_2 : ¬ (nI g < 0)) => ?_)
          · have h_2 : g < 0 := (am_nlt0 (by omega)).mp h_2
            omega
          have h_2 : ¬ (g < 0) := fun z => h_2 ((am_nlt0 (by omega)).mpr z)
          refine am_run 2 (pc' := 29) (ls' := [some (.ref 41), some (.int (nI 0)), some (.int (nI u)), some (.int (nI g)), some (.ref 73)]) (st' := [.int (nI 8), .int (nI g)]) (σ' := σ) rfl ?_
          refine am_ic (ty := 35) (tn := 32) rfl (by decide) rfl rfl (fun (h_3 : nI g < nI 8) => ?_) (fun (h_3 : ¬ (nI g < nI 8)) => ?_)
          rotate_left
          · have h_3 : ¬ (g < 8) := fun z => h_3 ((nI_ltI (by omega) (by omega)).mpr z)
            omega
          have h_3 : g < 8 := (nI_ltI (by omega) (by omega)).mp h_3
          refine am_run 3 (pc' := 41) (ls' := [some (.ref 41), some (.int (nI 0)), some (.int (nI u)), some (.int (nI g)), some (.ref 73)]) (st' := [.ref 73, .ref 77]) (σ' := σ) rfl ?_
          refine am_invv (y := 66) (b := 73) (as := []) (rest := [.ref 77]) rfl rfl rfl rfl rfl rfl rfl (Nat.le_of_ble_eq_true rfl) ?_
          refine am_enter' rfl rfl rfl (by omega) (ls := [some (.ref 73)]) rfl (fun d_4 hd_4 => ?_)
          refine am_run 2 (pc' := 4) (ls' := [some (.ref 73)]) (st' := [.ref (σ.2 73 1)]) (σ' := σ) rfl ?_
          refine am_reta rfl rfl (Or.inr ⟨_, rfl⟩) ?_
          show am_G _ M_X9_waits _ 44 [some (.ref 41), some (.int (nI 0)), some (.int (nI u)), some (.int (nI g)), some (.ref 73)] [.ref (σ.2 73 1), .ref 77] σ
          refine am_run 1 (pc' := 46) (ls' := [some (.ref 41), some (.int (nI 0)), some (.int (nI u)), some (.int (nI g)), some (.ref 73)]) (st' := [.ref 73, .ref (σ.2 73 1), .ref 77]) (σ' := σ) rfl ?_
          refine am_invv (y := 67) (b := 73) (as := []) (rest := [.ref (σ.2 73 1), .ref 77]) rfl rfl rfl rfl rfl rfl rfl (Nat.le_of_ble_eq_true rfl) ?_
          refine am_enter' rfl rfl rfl (by omega) (ls := [some (.ref 73)]) rfl (fun d_5 hd_5 => ?_)
          refine am_run 2 (pc' := 4) (ls' := [some (.ref 73)]) (st' := [.int (σ.1 73 3)]) (σ' := σ) rfl ?_
          refine am_top (v' := nI s) a3 ?_
          refine am_reti rfl rfl ?_
          show am_G _ M_X9_waits _ 49 [some (.ref 41), some (.int (nI 0)), some (.int (nI u)), some (.int (nI g)), some (.ref 73)] [.int (nI s), .ref (σ.2 73 1), .ref 77] σ
          refine am_run 1 (pc' := 50) (ls' := [some (.ref 41), some (.int (nI 0)), some (.int (nI u)), some (.int (nI g)), some (.ref 73)]) (st' := [.int (nI u), .int (nI s), .ref (σ.2 73 1), .ref 77]) (σ' := σ) rfl ?_
          refine am_invv (y := 56) (b := 77) (as := [.ref (σ.2 73 1), .int (nI s), .int (nI u)]) (rest := []) rfl rfl rfl rfl rfl rfl rfl (Nat.le_of_ble_eq_true rfl) ?_
          refine c_determine (by omega) hW hR (show r + 1 ≤ n by omega) hro (Or.inl rfl) hs hu (fun σ2 hK hO => ?_)
          rw [hz] at hO
          obtain ⟨o0, o1, o2, o3, o4⟩ : σ2.1 77 0 = nI (P + 256 * A) ∧ σ2.1 77 1 = nI 256 ∧ σ2.1 77 2 = nI c ∧ σ2.1 77 3 = nI nx ∧ σ2.1 77 4 = nI rd := hO
          have hM2 := hM.keep2 (σ' := σ2) (fun c a => hK.1 c (by omega))
          have b32 : σ2.1 17 0 = nI s := by rw [hK.1 17 (by decide)]; exact b3
          have hn22 : σ2.1 2 0 = nI n := hM2.1.2.2.2.1
          have a32 : σ2.1 73 3 = nI s := by rw [hK.1 73 (by decide)]; exact a3
          have hR2 : TR σ2 (σ2.2 73 1) p n := by rw [hK.2]; exact hK.TR (Or.inl rfl) hR
          have hro2 : ROOT σ2 (σ2.2 73 1) (r + 1) := by
            unfold ROOT
            rw [hK.2, hK.1 _ (by have := hR.t3; unfold T3 at this; omega)]
            exact hro
          show am_G _ M_X9_waits _ 53 [some (.ref 41), some (.int (nI 0)), some (.int (nI u)), some (.int (nI g)), some (.ref 73)] [] σ2
          refine am_run 3 (pc' := 59) (ls' := [some (.ref 41), some (.int (nI 0)), some (.int (nI u)), some (.int (nI g)), some (.ref 73)]) (st' := [.ref 73, .ref 77]) (σ' := σ2) rfl ?_
          refine am_invv (y := 66) (b := 73) (as := []) (rest := [.ref 77]) rfl rfl rfl rfl rfl rfl rfl (Nat.le_of_ble_eq_true rfl) ?_
          refine am_enter' rfl rfl rfl (by omega) (ls := [some (.ref 73)]) rfl (fun d_6 hd_6 => ?_)
          refine am_run 2 (pc' := 4) (ls' := [some (.ref 73)]) (st' := [.ref (σ2.2 73 1)]) (σ' := σ2) rfl ?_
          refine am_reta rfl rfl (Or.inr ⟨_, rfl⟩) ?_
          show am_G _ M_X9_waits _ 62 [some (.ref 41), some (.int (nI 0)), some (.int (nI u)), some (.int (nI g)), some (.ref 73)] [.ref (σ2.2 73 1), .ref 77] σ2
          refine am_run 1 (pc' := 64) (ls' := [some (.ref 41), some (.int (nI 0)), some (.int (nI u)), some (.int (nI g)), some (.ref 73)]) (st' := [.ref 73, .ref (σ2.2 73 1), .ref 77]) (σ' := σ2) rfl ?_
          refine am_invv (y := 67) (b := 73) (as := []) (rest := [.ref (σ2.2 73 1), .ref 77]) rfl rfl rfl rfl rfl rfl rfl (Nat.le_of_ble_eq_true rfl) ?_
          refine am_enter' rfl rfl rfl (by omega) (ls := [some (.ref 73)]) rfl (fun d_7 hd_7 => ?_)
          refine am_run 2 (pc' := 4) (ls' := [some (.ref 73)]) (st' := [.int (σ2.1 73 3)]) (σ' := σ2) rfl ?_
          refine am_top (v' := nI s) a32 ?_
          refine am_reti rfl rfl ?_
          show am_G _ M_X9_waits _ 67 [some (.ref 41), some (.int (nI 0)), some (.int (nI u)), some (.int (nI g)), some (.ref 73)] [.int (nI s), .ref (σ2.2 73 1), .ref 77] σ2
          refine am_run 1 (pc' := 68) (ls' := [some (.ref 41), some (.int (nI 0)), some (.int (nI u)), some (.int (nI g)), some (.ref 73)]) (st' := [.int (nI g), .int (nI s), .ref (σ2.2 73 1), .ref 77]) (σ' := σ2) rfl ?_
          refine am_invv (y := 61) (b := 77) (as := [.ref (σ2.2 73 1), .int (nI s), .int (nI g)]) (rest := []) rfl rfl rfl rfl rfl rfl rfl (Nat.le_of_ble_eq_true rfl) ?_
          refine c_waited (by omega) hW hR2 (show r + 1 ≤ n by omega) hro2 hs b1 b2 hg (by omega) o0 o1 ?_
          show am_G _ M_X9_waits _ 71 [some (.ref 41), some (.int (nI 0)), some (.int (nI u)), some (.int (nI g)), some (.ref 73)] [.int (nI (wfs p (r + 1) s 256 P A g))] σ2
          refine am_reti rfl rfl ?_
          refine ⟨by rw [show wfs p (r + 1) s 256 P A g = 0 from if_neg (nfl hb)], ?_⟩
          refine am_enter' (M := M_X10_waits) rfl rfl rfl (by omega) (ls := [some (.ref 0), some (.int (nI 0)), some (.int (nI u)), some (.int (nI g)), none]) rfl (fun d2 hd2 => ?_)
          refine am_run 2 (pc' := 2) (ls' := [some (.ref 0), some (.int (nI 0)), some (.int (nI u)), some (.int (nI g)), none]) (st' := [.int (nI 0), .ref 0]) (σ' := σ2) rfl ?_
          refine am_invv (y := 151) (b := 0) (as := [.int (nI 0)]) (rest := []) rfl rfl rfl rfl rfl rfl rfl (Nat.le_of_ble_eq_true rfl) ?_
          refine c_prog0_1 (by omega) (n := n) (by exact hn22) hn1 hn60 ?_
          show am_G _ M_X10_waits _ 5 [some (.ref 0), some (.int (nI 0)), some (.int (nI u)), some (.int (nI g)), none] [.int (nI 1)] σ2
          refine am_if (ty := 8) (tn := 11) rfl (by decide) rfl rfl (fun (h_101 : nI 1 = 0) => ?_) (fun (h_101 : ¬ (nI 1 = 0)) => ?_)
          · exact absurd h_101 (by decide)
          refine am_run 3 (pc' := 16) (ls' := [some (.ref 0), some (.int (nI 0)), some (.int (nI u)), some (.int (nI g)), none]) (st' := [.int (nI 255), .int (nI 0), .int (nI u)]) (σ' := σ2) rfl ?_
          refine am_invs (y := 148) (as := [.int (nI u), .int (nI 0), .int (nI 255)]) (rest := []) rfl rfl rfl rfl rfl rfl (Nat.le_of_ble_eq_true rfl) ?_
          refine c_in1 (by omega) (by omega) (by omega) (by omega) ?_
          show am_G _ M_X10_waits _ 19 [some (.ref 0), some (.int (nI 0)), some (.int (nI u)), some (.int (nI g)), none] [.int (nI 1)] σ2
          refine am_if (ty := 32) (tn := 22) rfl (by decide) rfl rfl (fun (h_102 : nI 1 = 0) => ?_) (fun (h_102 : ¬ (nI 1 = 0)) => ?_)
          · exact absurd h_102 (by decide)
          refine am_run 3 (pc' := 26) (ls' := [some (.ref 0), some (.int (nI 0)), some (.int (nI u)), some (.int (nI g)), none]) (st' := [.int (nI 7), .int (nI 0), .int (nI g)]) (σ' := σ2) rfl ?_
          refine am_invs (y := 148) (as := [.int (nI g), .int (nI 0), .int (nI 7)]) (rest := []) rfl rfl rfl rfl rfl rfl (Nat.le_of_ble_eq_true rfl) ?_
          refine c_in1 (by omega) (by omega) (by omega) (by omega) ?_
          show am_G _ M_X10_waits _ 29 [some (.ref 0), some (.int (nI 0)), some (.int (nI u)), some (.int (nI g)), none] [.int (nI 1)] σ2
          refine am_if (ty := 32) (tn := 35) rfl (by decide) rfl rfl (fun (h_103 : nI 1 = 0) => ?_) (fun (h_103 : ¬ (nI 1 = 0)) => ?_)
          · exact absurd h_103 (by decide)
          refine am_run 5 (pc' := 42) (ls' := [some (.ref 0), some (.int (nI 0)), some (.int (nI u)), some (.int (nI g)), none]) (st' := [.int (nI 0), .ref 17, .int (nI 0), .ref 0]) (σ' := σ2) rfl ?_
          refine am_ialdN (n := 2) (v := nI s) rfl rfl rfl (by decide) b32 (by decide) ?_
          refine am_run 1 (pc' := 44) (ls' := [some (.ref 0), some (.int (nI 0)), some (.int (nI u)), some (.int (nI g)), none]) (st' := [.int (nI u), .int (nI s), .int (nI 0), .ref 0]) (σ' := σ2) rfl ?_
          refine am_invv (y := 229) (b := 0) (as := [.int (nI 0), .int (nI s), .int (nI u)]) (rest := []) rfl rfl rfl rfl rfl rfl rfl (Nat.le_of_ble_eq_true rfl) ?_
          refine c_settles0 (by omega) hM2 hs hv.2 hu hz hw0 (fun σ3 hS i38 i39 i40 i41 i29 => ?_)
          show am_G _ M_X10_waits _ 47 [some (.ref 0), some (.int (nI 0)), some (.int (nI u)), some (.int (nI g)), none] [.int (nI 0)] σ3
          refine am_run 2 (pc' := 51) (ls' := [some (.ref 0), some (.int (nI 0)), some (.int (nI u)), some (.int (nI g)), some (.int (nI 0))]) (st' := [.int (nI 0)]) (σ' := σ3) rfl ?_
          refine am_if (ty := 54) (tn := 65) rfl (by decide) rfl rfl (fun (h_104 : nI 0 = 0) => ?_) (fun (h_104 : ¬ (nI 0 = 0)) => ?_)
          rotate_left
          · exact absurd (by decide) h_104
          refine am_run 2 (pc' := 58) (ls' := [some (.ref 0), some (.int (nI 0)), some (.int (nI u)), some (.int (nI g)), some (.int (nI 0))]) (st' := [.int (σ3.1 0 41)]) (σ' := σ3) rfl ?_
          refine am_top (v' := nI 256) i41 ?_
          refine am_run 2 (pc' := 62) (ls' := [some (.ref 0), some (.int (nI 0)), some (.int (nI u)), some (.int (nI g)), some (.int (nI 0))]) (st' := [.int (nI 256 &&& nI 255)]) (σ' := σ3) rfl ?_
          refine am_top (v' := nI 0) (by decide) ?_
          refine am_if (ty := 65) (tn := 69) rfl (by decide) rfl rfl (fun (h_105 : nI 0 = 0) => ?_) (fun (h_105 : ¬ (nI 0 = 0)) => ?_)
          rotate_left
          · exact absurd (by decide) h_105
          refine am_run 2 (pc' := 74) (ls' := [some (.ref 0), some (.int (nI 0)), some (.int (nI u)), some (.int (nI g)), some (.int (nI 0))]) (st' := [.int (nI 0)]) (σ' := σ3) rfl ?_
          refine am_reti rfl rfl ?_
          exact ⟨rfl, ((hK.KI (Or.inl rfl)).tr hS.KI).inv hI⟩
        · have hwl : w ≤ 255 := by rw [ew]; exact dn_le _ _
          refine ⟨nI (wfs p (r + 1) s w P A g), ?_⟩
          refine am_enter' (M := M_X9_waits) rfl rfl rfl (by omega) (ls := [some (.ref 41), some (.int (nI 0)), some (.int (nI u)), some (.int (nI g)), none]) rfl (fun d' hd' => ?_)
          refine am_run 2 (pc' := 2) (ls' := [some (.ref 41), some (.int (nI 0)), some (.int (nI u)), some (.int (nI g)), none]) (st' := [.int (nI 0), .ref 41]) (σ' := σ) rfl ?_
          refine am_invv (y := 140) (b := 41) (as := [.int (nI 0)]) (rest := []) rfl rfl rfl rfl rfl rfl rfl (Nat.le_of_ble_eq_true rfl) ?_
          refine c_filled0_1 (by omega) hf ?_
          show am_G _ M_X9_waits _ 5 [some (.ref 41), some (.int (nI 0)), some (.int (nI u)), some (.int (nI g)), none] [.ref 73] σ
          refine am_run 4 (pc' := 16) (ls' := [some (.ref 41), some (.int (nI 0)), some (.int (nI u)), some (.int (nI g)), some (.ref 73)]) (st' := [.int (nI u)]) (σ' := σ) rfl ?_
          refine am_invs (y := 141) (as := [.int (nI u)]) (rest := []) rfl rfl rfl rfl rfl rfl (Nat.le_of_ble_eq_true rfl) ?_
          refine c_sig1 (by omega) (by omega) ?_
          show am_G _ M_X9_waits _ 19 [some (.ref 41), some (.int (nI 0)), some (.int (nI u)), some (.int (nI g)), some (.ref 73)] [.int (nI 1)] σ
          refine am_if (ty := 32) (tn := 22) rfl (by decide) rfl rfl (fun (h_1 : nI 1 = 0) => ?_) (fun (h_1 : ¬ (nI 1 = 0)) => ?_)
          · exact absurd h_1 (by decide)
          refine am_run 1 (pc' := 23) (ls' := [some (.ref 41), some (.int (nI 0)), some (.int (nI u)), some (.int (nI g)), some (.ref 73)]) (st' := [.int (nI g)]) (σ' := σ) rfl ?_
          refine am_if (ty := 32) (tn := 26) rfl (by decide) rfl rfl (fun (h_2 : nI g < 0) => ?_) (fun (h_2 : ¬ (nI g < 0)) => ?_)
          · have h_2 : g < 0 := (am_nlt0 (by omega)).mp h_2
            omega
          have h_2 : ¬ (g < 0) := fun z => h_2 ((am_nlt0 (by omega)).mpr z)
          refine am_run 2 (pc' := 29) (ls' := [some (.ref 41), some (.int (nI 0)), some (.int (nI u)), some (.int (nI g)), some (.ref 73)]) (st' := [.int (nI 8), .int (nI g)]) (σ' := σ) rfl ?_
          refine am_ic (ty := 35) (tn := 32) rfl (by decide) rfl rfl (fun (h_3 : nI g < nI 8) => ?_) (fun (h_3 : ¬ (nI g < nI 8)) => ?_)
          rotate_left
          · have h_3 : ¬ (g < 8) := fun z => h_3 ((nI_ltI (by omega) (by omega)).mpr z)
            omega
          have h_3 : g < 8 := (nI_ltI (by omega) (by omega)).mp h_3
          refine am_run 3 (pc' := 41) (ls' := [some (.ref 41), some (.int (nI 0)), some (.int (nI u)), some (.int (nI g)), some (.ref 73)]) (st' := [.ref 73, .ref 77]) (σ' := σ) rfl ?_
          refine am_invv (y := 66) (b := 73) (as := []) (rest := [.ref 77]) rfl rfl rfl rfl rfl rfl rfl (Nat.le_of_ble_eq_true rfl) ?_
          refine am_enter' rfl rfl rfl (by omega) (ls := [some (.ref 73)]) rfl (fun d_4 hd_4 => ?_)
          refine am_run 2 (pc' := 4) (ls' := [some (.ref 73)]) (st' := [.ref (σ.2 73 1)]) (σ' := σ) rfl ?_
          refine am_reta rfl rfl (Or.inr ⟨_, rfl⟩) ?_
          show am_G _ M_X9_waits _ 44 [some (.ref 41), some (.int (nI 0)), some (.int (nI u)), some (.int (nI g)), some (.ref 73)] [.ref (σ.2 73 1), .ref 77] σ
          refine am_run 1 (pc' := 46) (ls' := [some (.ref 41), some (.int (nI 0)), some (.int (nI u)), some (.int (nI g)), some (.ref 73)]) (st' := [.ref 73, .ref (σ.2 73 1), .ref 77]) (σ' := σ) rfl ?_
          refine am_invv (y := 67) (b := 73) (as := []) (rest := [.ref (σ.2 73 1), .ref 77]) rfl rfl rfl rfl rfl rfl rfl (Nat.le_of_ble_eq_true rfl) ?_
          refine am_enter' rfl rfl rfl (by omega) (ls := [some (.ref 73)]) rfl (fun d_5 hd_5 => ?_)
          refine am_run 2 (pc' := 4) (ls' := [some (.ref 73)]) (st' := [.int (σ.1 73 3)]) (σ' := σ) rfl ?_
          refine am_top (v' := nI s) a3 ?_
          refine am_reti rfl rfl ?_
          show am_G _ M_X9_waits _ 49 [some (.ref 41), some (.int (nI 0)), some (.int (nI u)), some (.int (nI g)), some (.ref 73)] [.int (nI s), .ref (σ.2 73 1), .ref 77] σ
          refine am_run 1 (pc' := 50) (ls' := [some (.ref 41), some (.int (nI 0)), some (.int (nI u)), some (.int (nI g)), some (.ref 73)]) (st' := [.int (nI u), .int (nI s), .ref (σ.2 73 1), .ref 77]) (σ' := σ) rfl ?_
          refine am_invv (y := 56) (b := 77) (as := [.ref (σ.2 73 1), .int (nI s), .int (nI u)]) (rest := []) rfl rfl rfl rfl rfl rfl rfl (Nat.le_of_ble_eq_true rfl) ?_
          refine c_determine (by omega) hW hR (show r + 1 ≤ n by omega) hro (Or.inl rfl) hs hu (fun σ2 hK hO => ?_)
          rw [hz] at hO
          obtain ⟨o0, o1, o2, o3, o4⟩ : σ2.1 77 0 = nI (P + 256 * A) ∧ σ2.1 77 1 = nI w ∧ σ2.1 77 2 = nI c ∧ σ2.1 77 3 = nI nx ∧ σ2.1 77 4 = nI rd := hO
          have hM2 := hM.keep2 (σ' := σ2) (fun c a => hK.1 c (by omega))
          have b32 : σ2.1 17 0 = nI s := by rw [hK.1 17 (by decide)]; exact b3
          have hn22 : σ2.1 2 0 = nI n := hM2.1.2.2.2.1
          have a32 : σ2.1 73 3 = nI s := by rw [hK.1 73 (by decide)]; exact a3
          have hR2 : TR σ2 (σ2.2 73 1) p n := by rw [hK.2]; exact hK.TR (Or.inl rfl) hR
          have hro2 : ROOT σ2 (σ2.2 73 1) (r + 1) := by
            unfold ROOT
            rw [hK.2, hK.1 _ (by have := hR.t3; unfold T3 at this; omega)]
            exact hro
          show am_G _ M_X9_waits _ 53 [some (.ref 41), some (.int (nI 0)), some (.int (nI u)), some (.int (nI g)), some (.ref 73)] [] σ2
          refine am_run 3 (pc' := 59) (ls' := [some (.ref 41), some (.int (nI 0)), some (.int (nI u)), some (.int (nI g)), some (.ref 73)]) (st' := [.ref 73, .ref 77]) (σ' := σ2) rfl ?_
          refine am_invv (y := 66) (b := 73) (as := []) (rest := [.ref 77]) rfl rfl rfl rfl rfl rfl rfl (Nat.le_of_ble_eq_true rfl) ?_
          refine am_enter' rfl rfl rfl (by omega) (ls := [some (.ref 73)]) rfl (fun d_6 hd_6 => ?_)
          refine am_run 2 (pc' := 4) (ls' := [some (.ref 73)]) (st' := [.ref (σ2.2 73 1)]) (σ' := σ2) rfl ?_
          refine am_reta rfl rfl (Or.inr ⟨_, rfl⟩) ?_
          show am_G _ M_X9_waits _ 62 [some (.ref 41), some (.int (nI 0)), some (.int (nI u)), some (.int (nI g)), some (.ref 73)] [.ref (σ2.2 73 1), .ref 77] σ2
          refine am_run 1 (pc' := 64) (ls' := [some (.ref 41), some (.int (nI 0)), some (.int (nI u)), some (.int (nI g)), some (.ref 73)]) (st' := [.ref 73, .ref (σ2.2 73 1), .ref 77]) (σ' := σ2) rfl ?_
          refine am_invv (y := 67) (b := 73) (as := []) (rest := [.ref (σ2.2 73 1), .ref 77]) rfl rfl rfl rfl rfl rfl rfl (Nat.le_of_ble_eq_true rfl) ?_
          refine am_enter' rfl rfl rfl (by omega) (ls := [some (.ref 73)]) rfl (fun d_7 hd_7 => ?_)
          refine am_run 2 (pc' := 4) (ls' := [some (.ref 73)]) (st' := [.int (σ2.1 73 3)]) (σ' := σ2) rfl ?_
          refine am_top (v' := nI s) a32 ?_
          refine am_reti rfl rfl ?_
          show am_G _ M_X9_waits _ 67 [some (.ref 41), some (.int (nI 0)), some (.int (nI u)), some (.int (nI g)), some (.ref 73)] [.int (nI s), .ref (σ2.2 73 1), .ref 77] σ2
          refine am_run 1 (pc' := 68) (ls' := [some (.ref 41), some (.int (nI 0)), some (.int (nI u)), some (.int (nI g)), some (.ref 73)]) (st' := [.int (nI g), .int (nI s), .ref (σ2.2 73 1), .ref 77]) (σ' := σ2) rfl ?_
          refine am_invv (y := 61) (b := 77) (as := [.ref (σ2.2 73 1), .int (nI s), .int (nI g)]) (rest := []) rfl rfl rfl rfl rfl rfl rfl (Nat.le_of_ble_eq_true rfl) ?_
          refine c_waited (by omega) hW hR2 (show r + 1 ≤ n by omega) hro2 hs b1 b2 hg (by omega) o0 o1 ?_
          show am_G _ M_X9_waits _ 71 [some (.ref 41), some (.int (nI 0)), some (.int (nI u)), some (.int (nI g)), some (.ref 73)] [.int (nI (wfs p (r + 1) s w P A g))] σ2
          refine am_reti rfl rfl ?_
          refine ⟨rfl, ?_⟩
          refine am_enter' (M := M_X10_waits) rfl rfl rfl (by omega) (ls := [some (.ref 0), some (.int (nI 0)), some (.int (nI u)), some (.int (nI g)), none]) rfl (fun d2 hd2 => ?_)
          refine am_run 2 (pc' := 2) (ls' := [some (.ref 0), some (.int (nI 0)), some (.int (nI u)), some (.int (nI g)), none]) (st' := [.int (nI 0), .ref 0]) (σ' := σ2) rfl ?_
          refine am_invv (y := 151) (b := 0) (as := [.int (nI 0)]) (rest := []) rfl rfl rfl rfl rfl rfl rfl (Nat.le_of_ble_eq_true rfl) ?_
          refine c_prog0_1 (by omega) (n := n) (by exact hn22) hn1 hn60 ?_
          show am_G _ M_X10_waits _ 5 [some (.ref 0), some (.int (nI 0)), some (.int (nI u)), some (.int (nI g)), none] [.int (nI 1)] σ2
          refine am_if (ty := 8) (tn := 11) rfl (by decide) rfl rfl (fun (h_101 : nI 1 = 0) => ?_) (fun (h_101 : ¬ (nI 1 = 0)) => ?_)
          · exact absurd h_101 (by decide)
          refine am_run 3 (pc' := 16) (ls' := [some (.ref 0), some (.int (nI 0)), some (.int (nI u)), some (.int (nI g)), none]) (st' := [.int (nI 255), .int (nI 0), .int (nI u)]) (σ' := σ2) rfl ?_
          refine am_invs (y := 148) (as := [.int (nI u), .int (nI 0), .int (nI 255)]) (rest := []) rfl rfl rfl rfl rfl rfl (Nat.le_of_ble_eq_true rfl) ?_
          refine c_in1 (by omega) (by omega) (by omega) (by omega) ?_
          show am_G _ M_X10_waits _ 19 [some (.ref 0), some (.int (nI 0)), some (.int (nI u)), some (.int (nI g)), none] [.int (nI 1)] σ2
          refine am_if (ty := 32) (tn := 22) rfl (by decide) rfl rfl (fun (h_102 : nI 1 = 0) => ?_) (fun (h_102 : ¬ (nI 1 = 0)) => ?_)
          · exact absurd h_102 (by decide)
          refine am_run 3 (pc' := 26) (ls' := [some (.ref 0), some (.int (nI 0)), some (.int (nI u)), some (.int (nI g)), none]) (st' := [.int (nI 7), .int (nI 0), .int (nI g)]) (σ' := σ2) rfl ?_
          refine am_invs (y := 148) (as := [.int (nI g), .int (nI 0), .int (nI 7)]) (rest := []) rfl rfl rfl rfl rfl rfl (Nat.le_of_ble_eq_true rfl) ?_
          refine c_in1 (by omega) (by omega) (by omega) (by omega) ?_
          show am_G _ M_X10_waits _ 29 [some (.ref 0), some (.int (nI 0)), some (.int (nI u)), some (.int (nI g)), none] [.int (nI 1)] σ2
          refine am_if (ty := 32) (tn := 35) rfl (by decide) rfl rfl (fun (h_103 : nI 1 = 0) => ?_) (fun (h_103 : ¬ (nI 1 = 0)) => ?_)
          · exact absurd h_103 (by decide)
          refine am_run 5 (pc' := 42) (ls' := [some (.ref 0), some (.int (nI 0)), some (.int (nI u)), some (.int (nI g)), none]) (st' := [.int (nI 0), .ref 17, .int (nI 0), .ref 0]) (σ' := σ2) rfl ?_
          refine am_ialdN (n := 2) (v := nI s) rfl rfl rfl (by decide) b32 (by decide) ?_
          refine am_run 1 (pc' := 44) (ls' := [some (.ref 0), some (.int (nI 0)), some (.int (nI u)), some (.int (nI g)), none]) (st' := [.int (nI u), .int (nI s), .int (nI 0), .ref 0]) (σ' := σ2) rfl ?_
          refine am_invv (y := 229) (b := 0) (as := [.int (nI 0), .int (nI s), .int (nI u)]) (rest := []) rfl rfl rfl rfl rfl rfl rfl (Nat.le_of_ble_eq_true rfl) ?_
          refine c_settles0 (by omega) hM2 hs hv.2 hu hz hw0 (fun σ3 hS i38 i39 i40 i41 i29 => ?_)
          show am_G _ M_X10_waits _ 47 [some (.ref 0), some (.int (nI 0)), some (.int (nI u)), some (.int (nI g)), none] [.int (nI 0)] σ3
          refine am_run 2 (pc' := 51) (ls' := [some (.ref 0), some (.int (nI 0)), some (.int (nI u)), some (.int (nI g)), some (.int (nI 0))]) (st' := [.int (nI 0)]) (σ' := σ3) rfl ?_
          refine am_if (ty := 54) (tn := 65) rfl (by decide) rfl rfl (fun (h_104 : nI 0 = 0) => ?_) (fun (h_104 : ¬ (nI 0 = 0)) => ?_)
          rotate_left
          · exact absurd (by decide) h_104
          refine am_run 2 (pc' := 58) (ls' := [some (.ref 0), some (.int (nI 0)), some (.int (nI u)), some (.int (nI g)), some (.int (nI 0))]) (st' := [.int (σ3.1 0 41)]) (σ' := σ3) rfl ?_
          refine am_top (v' := nI w) i41 ?_
          refine am_run 2 (pc' := 62) (ls' := [some (.ref 0), some (.int (nI 0)), some (.int (nI u)), some (.int (nI g)), some (.int (nI 0))]) (st' := [.int (nI w &&& nI 255)]) (σ' := σ3) rfl ?_
          refine am_top (v' := nI w) (by rw [show nI 255 = nI (256 - 1) from rfl, nx_mask (k := 8) _ rfl, Nat.mod_eq_of_lt (by omega)]) ?_
          refine am_if (ty := 65) (tn := 69) rfl (by decide) rfl rfl (fun (h_105 : nI w = 0) => ?_) (fun (h_105 : ¬ (nI w = 0)) => ?_)
          · have h_105 : w = 0 := (am_n0 (by omega)).mp h_105
            omega
          have h_105 : ¬ (w = 0) := fun z => h_105 ((am_n0 (by omega)).mpr z)
          refine am_run 2 (pc' := 71) (ls' := [some (.ref 0), some (.int (nI 0)), some (.int (nI u)), some (.int (nI g)), some (.int (nI 0))]) (st' := [.int (nI g), .ref 0]) (σ' := σ3) rfl ?_
          refine am_invv (y := 236) (b := 0) (as := [.int (nI g)]) (rest := []) rfl rfl rfl rfl rfl rfl rfl (Nat.le_of_ble_eq_true rfl) ?_
          refine c_waitsFor (by omega) (hM2.keep hS.1) hs (hv.2.resolve_left hs0) hdj0 b1 b2 hg i38 i39 i29 (fun σ4 hWI => ?_)
          show am_G _ M_X10_waits _ 74 [some (.ref 0), some (.int (nI 0)), some (.int (nI u)), some (.int (nI g)), some (.int (nI 0))] [.int (nI (wfs p (r + 1) s (dn 255 (P ||| A)) P A g))] σ4
          refine am_reti rfl rfl ?_
          exact ⟨by rw [← ew], ((hK.KI (Or.inl rfl)).tr (hS.tr hWI.1).KI).inv hI⟩
      · rcases id hz with hzn | ⟨hz0, hzb⟩
        · skip
          refine ⟨-1000002, ?_⟩
          refine am_enter' (M := M_X9_waits) rfl rfl rfl (by omega) (ls := [some (.ref 41), some (.int (nI 0)), some (.int (nI u)), some (.int z), none]) rfl (fun d' hd' => ?_)
          refine am_run 2 (pc' := 2) (ls' := [some (.ref 41), some (.int (nI 0)), some (.int (nI u)), some (.int z), none]) (st' := [.int (nI 0), .ref 41]) (σ' := σ) rfl ?_
          refine am_invv (y := 140) (b := 41) (as := [.int (nI 0)]) (rest := []) rfl rfl rfl rfl rfl rfl rfl (Nat.le_of_ble_eq_true rfl) ?_
          refine c_filled0_1 (by omega) hf ?_
          show am_G _ M_X9_waits _ 5 [some (.ref 41), some (.int (nI 0)), some (.int (nI u)), some (.int z), none] [.ref 73] σ
          refine am_run 4 (pc' := 16) (ls' := [some (.ref 41), some (.int (nI 0)), some (.int (nI u)), some (.int z), some (.ref 73)]) (st' := [.int (nI u)]) (σ' := σ) rfl ?_
          refine am_invs (y := 141) (as := [.int (nI u)]) (rest := []) rfl rfl rfl rfl rfl rfl (Nat.le_of_ble_eq_true rfl) ?_
          refine c_sig1 (by omega) (by omega) ?_
          show am_G _ M_X9_waits _ 19 [some (.ref 41), some (.int (nI 0)), some (.int (nI u)), some (.int z), some (.ref 73)] [.int (nI 1)] σ
          refine am_if (ty := 32) (tn := 22) rfl (by decide) rfl rfl (fun (h_1 : nI 1 = 0) => ?_) (fun (h_1 : ¬ (nI 1 = 0)) => ?_)
          · exact absurd h_1 (by decide)
          refine am_run 1 (pc' := 23) (ls' := [some (.ref 41), some (.int (nI 0)), some (.int (nI u)), some (.int z), some (.ref 73)]) (st' := [.int z]) (σ' := σ) rfl ?_
          refine am_if (ty := 32) (tn := 26) rfl (by decide) rfl rfl (fun (h_2 : z < 0) => ?_) (fun (h_2 : ¬ (z < 0)) => ?_)
          rotate_left
          · exact absurd hzn h_2
          refine am_run 1 (pc' := 34) (ls' := [some (.ref 41), some (.int (nI 0)), some (.int (nI u)), some (.int z), some (.ref 73)]) (st' := [.int (-1000002)]) (σ' := σ) rfl ?_
          refine am_reti rfl rfl ?_
          refine ⟨rfl, ?_⟩
          refine am_enter' (M := M_X10_waits) rfl rfl rfl (by omega) (ls := [some (.ref 0), some (.int (nI 0)), some (.int (nI u)), some (.int z), none]) rfl (fun d2 hd2 => ?_)
          refine am_run 2 (pc' := 2) (ls' := [some (.ref 0), some (.int (nI 0)), some (.int (nI u)), some (.int z), none]) (st' := [.int (nI 0), .ref 0]) (σ' := σ) rfl ?_
          refine am_invv (y := 151) (b := 0) (as := [.int (nI 0)]) (rest := []) rfl rfl rfl rfl rfl rfl rfl (Nat.le_of_ble_eq_true rfl) ?_
          refine c_prog0_1 (by omega) (n := n) (by exact hn2) hn1 hn60 ?_
          show am_G _ M_X10_waits _ 5 [some (.ref 0), some (.int (nI 0)), some (.int (nI u)), some (.int z), none] [.int (nI 1)] σ
          refine am_if (ty := 8) (tn := 11) rfl (by decide) rfl rfl (fun (h_101 : nI 1 = 0) => ?_) (fun (h_101 : ¬ (nI 1 = 0)) => ?_)
          · exact absurd h_101 (by decide)
          refine am_run 3 (pc' := 16) (ls' := [some (.ref 0), some (.int (nI 0)), some (.int (nI u)), some (.int z), none]) (st' := [.int (nI 255), .int (nI 0), .int (nI u)]) (σ' := σ) rfl ?_
          refine am_invs (y := 148) (as := [.int (nI u), .int (nI 0), .int (nI 255)]) (rest := []) rfl rfl rfl rfl rfl rfl (Nat.le_of_ble_eq_true rfl) ?_
          refine c_in1 (by omega) (by omega) (by omega) (by omega) ?_
          show am_G _ M_X10_waits _ 19 [some (.ref 0), some (.int (nI 0)), some (.int (nI u)), some (.int z), none] [.int (nI 1)] σ
          refine am_if (ty := 32) (tn := 22) rfl (by decide) rfl rfl (fun (h_102 : nI 1 = 0) => ?_) (fun (h_102 : ¬ (nI 1 = 0)) => ?_)
          · exact absurd h_102 (by decide)
          refine am_run 3 (pc' := 26) (ls' := [some (.ref 0), some (.int (nI 0)), some (.int (nI u)), some (.int z), none]) (st' := [.int (nI 7), .int (nI 0), .int z]) (σ' := σ) rfl ?_
          refine am_invs (y := 148) (as := [.int z, .int (nI 0), .int (nI 7)]) (rest := []) rfl rfl rfl rfl rfl rfl (Nat.le_of_ble_eq_true rfl) ?_
          refine c_in0 (by omega) hz ?_
          show am_G _ M_X10_waits _ 29 [some (.ref 0), some (.int (nI 0)), some (.int (nI u)), some (.int z), none] [.int (nI 0)] σ
          refine am_if (ty := 32) (tn := 35) rfl (by decide) rfl rfl (fun (h_103 : nI 0 = 0) => ?_) (fun (h_103 : ¬ (nI 0 = 0)) => ?_)
          rotate_left
          · exact absurd (by decide) h_103
          refine am_run 1 (pc' := 34) (ls' := [some (.ref 0), some (.int (nI 0)), some (.int (nI u)), some (.int z), none]) (st' := [.int (-1000002)]) (σ' := σ) rfl ?_
          refine am_reti rfl rfl ?_
          exact ⟨rfl, hI⟩
        · skip
          refine ⟨-1000002, ?_⟩
          refine am_enter' (M := M_X9_waits) rfl rfl rfl (by omega) (ls := [some (.ref 41), some (.int (nI 0)), some (.int (nI u)), some (.int z), none]) rfl (fun d' hd' => ?_)
          refine am_run 2 (pc' := 2) (ls' := [some (.ref 41), some (.int (nI 0)), some (.int (nI u)), some (.int z), none]) (st' := [.int (nI 0), .ref 41]) (σ' := σ) rfl ?_
          refine am_invv (y := 140) (b := 41) (as := [.int (nI 0)]) (rest := []) rfl rfl rfl rfl rfl rfl rfl (Nat.le_of_ble_eq_true rfl) ?_
          refine c_filled0_1 (by omega) hf ?_
          show am_G _ M_X9_waits _ 5 [some (.ref 41), some (.int (nI 0)), some (.int (nI u)), some (.int z), none] [.ref 73] σ
          refine am_run 4 (pc' := 16) (ls' := [some (.ref 41), some (.int (nI 0)), some (.int (nI u)), some (.int z), some (.ref 73)]) (st' := [.int (nI u)]) (σ' := σ) rfl ?_
          refine am_invs (y := 141) (as := [.int (nI u)]) (rest := []) rfl rfl rfl rfl rfl rfl (Nat.le_of_ble_eq_true rfl) ?_
          refine c_sig1 (by omega) (by omega) ?_
          show am_G _ M_X9_waits _ 19 [some (.ref 41), some (.int (nI 0)), some (.int (nI u)), some (.int z), some (.ref 73)] [.int (nI 1)] σ
          refine am_if (ty := 32) (tn := 22) rfl (by decide) rfl rfl (fun (h_1 : nI 1 = 0) => ?_) (fun (h_1 : ¬ (nI 1 = 0)) => ?_)
          · exact absurd h_1 (by decide)
          refine am_run 1 (pc' := 23) (ls' := [some (.ref 41), some (.int (nI 0)), some (.int (nI u)), some (.int z), some (.ref 73)]) (st' := [.int z]) (σ' := σ) rfl ?_
          refine am_if (ty := 32) (tn := 26) rfl (by decide) rfl rfl (fun (h_2 : z < 0) => ?_) (fun (h_2 : ¬ (z < 0)) => ?_)
          · exact absurd h_2 hz0
          refine am_run 2 (pc' := 29) (ls' := [some (.ref 41), some (.int (nI 0)), some (.int (nI u)), some (.int z), some (.ref 73)]) (st' := [.int (nI 8), .int z]) (σ' := σ) rfl ?_
          refine am_ic (ty := 35) (tn := 32) rfl (by decide) rfl rfl (fun (h_3 : z < nI 8) => ?_) (fun (h_3 : ¬ (z < nI 8)) => ?_)
          · exact absurd h_3 (big3 (n := 8) (by decide) (by decide) hzb)
          refine am_run 1 (pc' := 34) (ls' := [some (.ref 41), some (.int (nI 0)), some (.int (nI u)), some (.int z), some (.ref 73)]) (st' := [.int (-1000002)]) (σ' := σ) rfl ?_
          refine am_reti rfl rfl ?_
          refine ⟨rfl, ?_⟩
          refine am_enter' (M := M_X10_waits) rfl rfl rfl (by omega) (ls := [some (.ref 0), some (.int (nI 0)), some (.int (nI u)), some (.int z), none]) rfl (fun d2 hd2 => ?_)
          refine am_run 2 (pc' := 2) (ls' := [some (.ref 0), some (.int (nI 0)), some (.int (nI u)), some (.int z), none]) (st' := [.int (nI 0), .ref 0]) (σ' := σ) rfl ?_
          refine am_invv (y := 151) (b := 0) (as := [.int (nI 0)]) (rest := []) rfl rfl rfl rfl rfl rfl rfl (Nat.le_of_ble_eq_true rfl) ?_
          refine c_prog0_1 (by omega) (n := n) (by exact hn2) hn1 hn60 ?_
          show am_G _ M_X10_waits _ 5 [some (.ref 0), some (.int (nI 0)), some (.int (nI u)), some (.int z), none] [.int (nI 1)] σ
          refine am_if (ty := 8) (tn := 11) rfl (by decide) rfl rfl (fun (h_101 : nI 1 = 0) => ?_) (fun (h_101 : ¬ (nI 1 = 0)) => ?_)
          · exact absurd h_101 (by decide)
          refine am_run 3 (pc' := 16) (ls' := [some (.ref 0), some (.int (nI 0)), some (.int (nI u)), some (.int z), none]) (st' := [.int (nI 255), .int (nI 0), .int (nI u)]) (σ' := σ) rfl ?_
          refine am_invs (y := 148) (as := [.int (nI u), .int (nI 0), .int (nI 255)]) (rest := []) rfl rfl rfl rfl rfl rfl (Nat.le_of_ble_eq_true rfl) ?_
          refine c_in1 (by omega) (by omega) (by omega) (by omega) ?_
          show am_G _ M_X10_waits _ 19 [some (.ref 0), some (.int (nI 0)), some (.int (nI u)), some (.int z), none] [.int (nI 1)] σ
          refine am_if (ty := 32) (tn := 22) rfl (by decide) rfl rfl (fun (h_102 : nI 1 = 0) => ?_) (fun (h_102 : ¬ (nI 1 = 0)) => ?_)
          · exact absurd h_102 (by decide)
          refine am_run 3 (pc' := 26) (ls' := [some (.ref 0), some (.int (nI 0)), some (.int (nI u)), some (.int z), none]) (st' := [.int (nI 7), .int (nI 0), .int z]) (σ' := σ) rfl ?_
          refine am_invs (y := 148) (as := [.int z, .int (nI 0), .int (nI 7)]) (rest := []) rfl rfl rfl rfl rfl rfl (Nat.le_of_ble_eq_true rfl) ?_
          refine c_in0 (by omega) hz ?_
          show am_G _ M_X10_waits _ 29 [some (.ref 0), some (.int (nI 0)), some (.int (nI u)), some (.int z), none] [.int (nI 0)] σ
          refine am_if (ty := 32) (tn := 35) rfl (by decide) rfl rfl (fun (h_103 : nI 0 = 0) => ?_) (fun (h_103 : ¬ (nI 0 = 0)) => ?_)
          rotate_left
          · exact absurd (by decide) h_103
          refine am_run 1 (pc' := 34) (ls' := [some (.ref 0), some (.int (nI 0)), some (.int (nI u)), some (.int z), none]) (st' := [.int (-1000002)]) (σ' := σ) rfl ?_
          refine am_reti rfl rfl ?_
          exact ⟨rfl, hI⟩
    · skip
      refine ⟨-1000002, ?_⟩
      refine am_enter' (M := M_X9_waits) rfl rfl rfl (by omega) (ls := [some (.ref 41), some (.int (nI 0)), some (.int y), some (.int z), none]) rfl (fun d' hd' => ?_)
      refine am_run 2 (pc' := 2) (ls' := [some (.ref 41), some (.int (nI 0)), some (.int y), some (.int z), none]) (st' := [.int (nI 0), .ref 41]) (σ' := σ) rfl ?_
      refine am_invv (y := 140) (b := 41) (as := [.int (nI 0)]) (rest := []) rfl rfl rfl rfl rfl rfl rfl (Nat.le_of_ble_eq_true rfl) ?_
      refine c_filled0_1 (by omega) hf ?_
      show am_G _ M_X9_waits _ 5 [some (.ref 41), some (.int (nI 0)), some (.int y), some (.int z), none] [.ref 73] σ
      refine am_run 4 (pc' := 16) (ls' := [some (.ref 41), some (.int (nI 0)), some (.int y), some (.int z), some (.ref 73)]) (st' := [.int y]) (σ' := σ) rfl ?_
      refine am_invs (y := 141) (as := [.int y]) (rest := []) rfl rfl rfl rfl rfl rfl (Nat.le_of_ble_eq_true rfl) ?_
      refine c_sig0 (by omega) hy ?_
      show am_G _ M_X9_waits _ 19 [some (.ref 41), some (.int (nI 0)), some (.int y), some (.int z), some (.ref 73)] [.int (nI 0)] σ
      refine am_if (ty := 32) (tn := 22) rfl (by decide) rfl rfl (fun (h_1 : nI 0 = 0) => ?_) (fun (h_1 : ¬ (nI 0 = 0)) => ?_)
      rotate_left
      · exact absurd (by decide) h_1
      refine am_run 1 (pc' := 34) (ls' := [some (.ref 41), some (.int (nI 0)), some (.int y), some (.int z), some (.ref 73)]) (st' := [.int (-1000002)]) (σ' := σ) rfl ?_
      refine am_reti rfl rfl ?_
      refine ⟨rfl, ?_⟩
      refine am_enter' (M := M_X10_waits) rfl rfl rfl (by omega) (ls := [some (.ref 0), some (.int (nI 0)), some (.int y), some (.int z), none]) rfl (fun d2 hd2 => ?_)
      refine am_run 2 (pc' := 2) (ls' := [some (.ref 0), some (.int (nI 0)), some (.int y), some (.int z), none]) (st' := [.int (nI 0), .ref 0]) (σ' := σ) rfl ?_
      refine am_invv (y := 151) (b := 0) (as := [.int (nI 0)]) (rest := []) rfl rfl rfl rfl rfl rfl rfl (Nat.le_of_ble_eq_true rfl) ?_
      refine c_prog0_1 (by omega) (n := n) (by exact hn2) hn1 hn60 ?_
      show am_G _ M_X10_waits _ 5 [some (.ref 0), some (.int (nI 0)), some (.int y), some (.int z), none] [.int (nI 1)] σ
      refine am_if (ty := 8) (tn := 11) rfl (by decide) rfl rfl (fun (h_101 : nI 1 = 0) => ?_) (fun (h_101 : ¬ (nI 1 = 0)) => ?_)
      · exact absurd h_101 (by decide)
      refine am_run 3 (pc' := 16) (ls' := [some (.ref 0), some (.int (nI 0)), some (.int y), some (.int z), none]) (st' := [.int (nI 255), .int (nI 0), .int y]) (σ' := σ) rfl ?_
      refine am_invs (y := 148) (as := [.int y, .int (nI 0), .int (nI 255)]) (rest := []) rfl rfl rfl rfl rfl rfl (Nat.le_of_ble_eq_true rfl) ?_
      refine c_in0 (by omega) hy ?_
      show am_G _ M_X10_waits _ 19 [some (.ref 0), some (.int (nI 0)), some (.int y), some (.int z), none] [.int (nI 0)] σ
      refine am_if (ty := 32) (tn := 22) rfl (by decide) rfl rfl (fun (h_102 : nI 0 = 0) => ?_) (fun (h_102 : ¬ (nI 0 = 0)) => ?_)
      rotate_left
      · exact absurd (by decide) h_102
      refine am_run 1 (pc' := 34) (ls' := [some (.ref 0), some (.int (nI 0)), some (.int y), some (.int z), none]) (st' := [.int (-1000002)]) (σ' := σ) rfl ?_
      refine am_reti rfl rfl ?_
      exact ⟨rfl, hI⟩
  · obtain ⟨hf, p, n, r, kk, rk, od, dp, ow, s, m, hP, hH⟩ := hF
    obtain ⟨hn1, hR, hro, hM, hk1, hk2, hkk, hND⟩ := id hP
    obtain ⟨a3, b3, hv, a4, b4, hm, hh⟩ := id hH
    have hW := hM.1.2.1
    have hn60 := hW.1
    have hs := hv.1
    have hrn : r < n := hM.2.1.2.1
    have hn2 := hM.1.2.2.2.1
    rcases i32_in y (k := 255) (by decide) with ⟨u, hu0, rfl⟩ | hy
    · have hu : u < 256 := by omega
      rcases i32_in z (k := 7) (by decide) with ⟨g, hg0, rfl⟩ | hz
      · have hg : g < 8 := by omega
        obtain ⟨b1, b2, b3_, b4_, b5_, b6_⟩ := oc_b (s := s) hW (show r + 1 ≤ n by omega) hu
        have hnv := oc_vs hM s hu
        have hdj0 := oc_ri (s := s) (u := u) hW (show r + 1 ≤ n by omega)
        have hw3 := oc_w p (r + 1) s u
        generalize hz : oc p (r + 1) s u = z0 at b1 b2 b3_ b4_ b5_ b6_ hnv hdj0 hw3
        obtain ⟨P, A, w, c, nx, rd⟩ := z0
        have b1 : P < 256 := b1
        have b2 : A < 256 := b2
        have b3_ : w ≤ 256 := b3_
        have b4_ : c ≤ 6 := b4_
        have b5_ : nx < 1048576 := b5_
        have b6_ : rd ≤ 9 := b6_
        have hnv : VS p r nx := hnv
        have hdj0 : dj P A := hdj0
        have hw3 : w = 0 ∨ w = 256 ∨ (w = dn 255 (P ||| A) ∧ ¬ w = 0 ∧ ¬ s = 0) := hw3
        rcases hw3 with rfl | rfl | ⟨ew, hw0, hs0⟩
        · skip
          refine ⟨nI 0, ?_⟩
          refine am_enter' (M := M_X9_waits) rfl rfl rfl (by omega) (ls := [some (.ref 41), some (.int (nI 1)), some (.int (nI u)), some (.int (nI g)), none]) rfl (fun d' hd' => ?_)
          refine am_run 2 (pc' := 2) (ls' := [some (.ref 41), some (.int (nI 1)), some (.int (nI u)), some (.int (nI g)), none]) (st' := [.int (nI 1), .ref 41]) (σ' := σ) rfl ?_
          refine am_invv (y := 140) (b := 41) (as := [.int (nI 1)]) (rest := []) rfl rfl rfl rfl rfl rfl rfl (Nat.le_of_ble_eq_true rfl) ?_
          refine c_filled1_1 (by omega) hf ?_
          show am_G _ M_X9_waits _ 5 [some (.ref 41), some (.int (nI 1)), some (.int (nI u)), some (.int (nI g)), none] [.ref 75] σ
          refine am_run 4 (pc' := 16) (ls' := [some (.ref 41), some (.int (nI 1)), some (.int (nI u)), some (.int (nI g)), some (.ref 75)]) (st' := [.int (nI u)]) (σ' := σ) rfl ?_
          refine am_invs (y := 141) (as := [.int (nI u)]) (rest := []) rfl rfl rfl rfl rfl rfl (Nat.le_of_ble_eq_true rfl) ?_
          refine c_sig1 (by omega) (by omega) ?_
          show am_G _ M_X9_waits _ 19 [some (.ref 41), some (.int (nI 1)), some (.int (nI u)), some (.int (nI g)), some (.ref 75)] [.int (nI 1)] σ
          refine am_if (ty := 32) (tn := 22) rfl (by decide) rfl rfl (fun (h_1 : nI 1 = 0) => ?_) (fun (h_1 : ¬ (nI 1 = 0)) => ?_)
          · exact absurd h_1 (by decide)
          refine am_run 1 (pc' := 23) (ls' := [some (.ref 41), some (.int (nI 1)), some (.int (nI u)), some (.int (nI g)), some (.ref 75)]) (st' := [.int (nI g)]) (σ' := σ) rfl ?_
          refine am_if (ty := 32) (tn := 26) rfl (by decide) rfl rfl (fun (h_2 : nI g < 0) => ?_) (fun (h_2 : ¬ (nI g < 0)) => ?_)
          · have h_2 : g < 0 := (am_nlt0 (by omega)).mp h_2
            omega
          have h_2 : ¬ (g < 0) := fun z => h_2 ((am_nlt0 (by omega)).mpr z)
          refine am_run 2 (pc' := 29) (ls' := [some (.ref 41), some (.int (nI 1)), some (.int (nI u)), some (.int (nI g)), some (.ref 75)]) (st' := [.int (nI 8), .int (nI g)]) (σ' := σ) rfl ?_
          refine am_ic (ty := 35) (tn := 32) rfl (by decide) rfl rfl (fun (h_3 : nI g < nI 8) => ?_) (fun (h_3 : ¬ (nI g < nI 8)) => ?_)
          rotate_left
          · have h_3 : ¬ (g < 8) := fun z => h_3 ((nI_ltI (by omega) (by omega)).mpr z)
            omega
          have h_3 : g < 8 := (nI_ltI (by omega) (by omega)).mp h_3
          refine am_run 3 (pc' := 41) (ls' := [some (.ref 41), some (.int (nI 1)), some (.int (nI u)), some (.int (nI g)), some (.ref 75)]) (st' := [.ref 75, .ref 77]) (σ' := σ) rfl ?_
          refine am_invv (y := 66) (b := 75) (as := []) (rest := [.ref 77]) rfl rfl rfl rfl rfl rfl rfl (Nat.le_of_ble_eq_true rfl) ?_
          refine am_enter' rfl rfl rfl (by omega) (ls := [some (.ref 75)]) rfl (fun d_4 hd_4 => ?_)
          refine am_run 2 (pc' := 4) (ls' := [some (.ref 75)]) (st' := [.ref (σ.2 75 1)]) (σ' := σ) rfl ?_
          refine am_reta rfl rfl (Or.inr ⟨_, rfl⟩) ?_
          show am_G _ M_X9_waits _ 44 [some (.ref 41), some (.int (nI 1)), some (.int (nI u)), some (.int (nI g)), some (.ref 75)] [.ref (σ.2 75 1), .ref 77] σ
          refine am_run 1 (pc' := 46) (ls' := [some (.ref 41), some (.int (nI 1)), some (.int (nI u)), some (.int (nI g)), some (.ref 75)]) (st' := [.ref 75, .ref (σ.2 75 1), .ref 77]) (σ' := σ) rfl ?_
          refine am_invv (y := 67) (b := 75) (as := []) (rest := [.ref (σ.2 75 1), .ref 77]) rfl rfl rfl rfl rfl rfl rfl (Nat.le_of_ble_eq_true rfl) ?_
          refine am_enter' rfl rfl rfl (by omega) (ls := [some (.ref 75)]) rfl (fun d_5 hd_5 => ?_)
          refine am_run 2 (pc' := 4) (ls' := [some (.ref 75)]) (st' := [.int (σ.1 75 3)]) (σ' := σ) rfl ?_
          refine am_top (v' := nI s) a3 ?_
          refine am_reti rfl rfl ?_
          show am_G _ M_X9_waits _ 49 [some (.ref 41), some (.int (nI 1)), some (.int (nI u)), some (.int (nI g)), some (.ref 75)] [.int (nI s), .ref (σ.2 75 1), .ref 77] σ
          refine am_run 1 (pc' := 50) (ls' := [some (.ref 41), some (.int (nI 1)), some (.int (nI u)), some (.int (nI g)), some (.ref 75)]) (st' := [.int (nI u), .int (nI s), .ref (σ.2 75 1), .ref 77]) (σ' := σ) rfl ?_
          refine am_invv (y := 56) (b := 77) (as := [.ref (σ.2 75 1), .int (nI s), .int (nI u)]) (rest := []) rfl rfl rfl rfl rfl rfl rfl (Nat.le_of_ble_eq_true rfl) ?_
          refine c_determine (by omega) hW hR (show r + 1 ≤ n by omega) hro (Or.inl rfl) hs hu (fun σ2 hK hO => ?_)
          rw [hz] at hO
          obtain ⟨o0, o1, o2, o3, o4⟩ : σ2.1 77 0 = nI (P + 256 * A) ∧ σ2.1 77 1 = nI 0 ∧ σ2.1 77 2 = nI c ∧ σ2.1 77 3 = nI nx ∧ σ2.1 77 4 = nI rd := hO
          have hM2 := hM.keep2 (σ' := σ2) (fun c a => hK.1 c (by omega))
          have b32 : σ2.1 17 1 = nI s := by rw [hK.1 17 (by decide)]; exact b3
          have hn22 : σ2.1 2 1 = nI n := hM2.1.2.2.2.1
          have a32 : σ2.1 75 3 = nI s := by rw [hK.1 75 (by decide)]; exact a3
          have hR2 : TR σ2 (σ2.2 75 1) p n := by rw [hK.2]; exact hK.TR (Or.inl rfl) hR
          have hro2 : ROOT σ2 (σ2.2 75 1) (r + 1) := by
            unfold ROOT
            rw [hK.2, hK.1 _ (by have := hR.t3; unfold T3 at this; omega)]
            exact hro
          show am_G _ M_X9_waits _ 53 [some (.ref 41), some (.int (nI 1)), some (.int (nI u)), some (.int (nI g)), some (.ref 75)] [] σ2
          refine am_run 3 (pc' := 59) (ls' := [some (.ref 41), some (.int (nI 1)), some (.int (nI u)), some (.int (nI g)), some (.ref 75)]) (st' := [.ref 75, .ref 77]) (σ' := σ2) rfl ?_
          refine am_invv (y := 66) (b := 75) (as := []) (rest := [.ref 77]) rfl rfl rfl rfl rfl rfl rfl (Nat.le_of_ble_eq_true rfl) ?_
          refine am_enter' rfl rfl rfl (by omega) (ls := [some (.ref 75)]) rfl (fun d_6 hd_6 => ?_)
          refine am_run 2 (pc' := 4) (ls' := [some (.ref 75)]) (st' := [.ref (σ2.2 75 1)]) (σ' := σ2) rfl ?_
          refine am_reta rfl rfl (Or.inr ⟨_, rfl⟩) ?_
          show am_G _ M_X9_waits _ 62 [some (.ref 41), some (.int (nI 1)), some (.int (nI u)), some (.int (nI g)), some (.ref 75)] [.ref (σ2.2 75 1), .ref 77] σ2
          refine am_run 1 (pc' := 64) (ls' := [some (.ref 41), some (.int (nI 1)), some (.int (nI u)), some (.int (nI g)), some (.ref 75)]) (st' := [.ref 75, .ref (σ2.2 75 1), .ref 77]) (σ' := σ2) rfl ?_
          refine am_invv (y := 67) (b := 75) (as := []) (rest := [.ref (σ2.2 75 1), .ref 77]) rfl rfl rfl rfl rfl rfl rfl (Nat.le_of_ble_eq_true rfl) ?_
          refine am_enter' rfl rfl rfl (by omega) (ls := [some (.ref 75)]) rfl (fun d_7 hd_7 => ?_)
          refine am_run 2 (pc' := 4) (ls' := [some (.ref 75)]) (st' := [.int (σ2.1 75 3)]) (σ' := σ2) rfl ?_
          refine am_top (v' := nI s) a32 ?_
          refine am_reti rfl rfl ?_
          show am_G _ M_X9_waits _ 67 [some (.ref 41), some (.int (nI 1)), some (.int (nI u)), some (.int (nI g)), some (.ref 75)] [.int (nI s), .ref (σ2.2 75 1), .ref 77] σ2
          refine am_run 1 (pc' := 68) (ls' := [some (.ref 41), some (.int (nI 1)), some (.int (nI u)), some (.int (nI g)), some (.ref 75)]) (st' := [.int (nI g), .int (nI s), .ref (σ2.2 75 1), .ref 77]) (σ' := σ2) rfl ?_
          refine am_invv (y := 61) (b := 77) (as := [.ref (σ2.2 75 1), .int (nI s), .int (nI g)]) (rest := []) rfl rfl rfl rfl rfl rfl rfl (Nat.le_of_ble_eq_true rfl) ?_
          refine c_waited (by omega) hW hR2 (show r + 1 ≤ n by omega) hro2 hs b1 b2 hg (by omega) o0 o1 ?_
          show am_G _ M_X9_waits _ 71 [some (.ref 41), some (.int (nI 1)), some (.int (nI u)), some (.int (nI g)), some (.ref 75)] [.int (nI (wfs p (r + 1) s 0 P A g))] σ2
          refine am_reti rfl rfl ?_
          refine ⟨by rw [show wfs p (r + 1) s 0 P A g = 0 from if_neg (by simp)], ?_⟩
          refine am_enter' (M := M_X10_waits) rfl rfl rfl (by omega) (ls := [some (.ref 0), some (.int (nI 1)), some (.int (nI u)), some (.int (nI g)), none]) rfl (fun d2 hd2 => ?_)
          refine am_run 2 (pc' := 2) (ls' := [some (.ref 0), some (.int (nI 1)), some (.int (nI u)), some (.int (nI g)), none]) (st' := [.int (nI 1), .ref 0]) (σ' := σ2) rfl ?_
          refine am_invv (y := 151) (b := 0) (as := [.int (nI 1)]) (rest := []) rfl rfl rfl rfl rfl rfl rfl (Nat.le_of_ble_eq_true rfl) ?_
          refine c_prog1_1 (by omega) (n := n) (by exact hn22) hn1 hn60 ?_
          show am_G _ M_X10_waits _ 5 [some (.ref 0), some (.int (nI 1)), some (.int (nI u)), some (.int (nI g)), none] [.int (nI 1)] σ2
          refine am_if (ty := 8) (tn := 11) rfl (by decide) rfl rfl (fun (h_101 : nI 1 = 0) => ?_) (fun (h_101 : ¬ (nI 1 = 0)) => ?_)
          · exact absurd h_101 (by decide)
          refine am_run 3 (pc' := 16) (ls' := [some (.ref 0), some (.int (nI 1)), some (.int (nI u)), some (.int (nI g)), none]) (st' := [.int (nI 255), .int (nI 0), .int (nI u)]) (σ' := σ2) rfl ?_
          refine am_invs (y := 148) (as := [.int (nI u), .int (nI 0), .int (nI 255)]) (rest := []) rfl rfl rfl rfl rfl rfl (Nat.le_of_ble_eq_true rfl) ?_
          refine c_in1 (by omega) (by omega) (by omega) (by omega) ?_
          show am_G _ M_X10_waits _ 19 [some (.ref 0), some (.int (nI 1)), some (.int (nI u)), some (.int (nI g)), none] [.int (nI 1)] σ2
          refine am_if (ty := 32) (tn := 22) rfl (by decide) rfl rfl (fun (h_102 : nI 1 = 0) => ?_) (fun (h_102 : ¬ (nI 1 = 0)) => ?_)
          · exact absurd h_102 (by decide)
          refine am_run 3 (pc' := 26) (ls' := [some (.ref 0), some (.int (nI 1)), some (.int (nI u)), some (.int (nI g)), none]) (st' := [.int (nI 7), .int (nI 0), .int (nI g)]) (σ' := σ2) rfl ?_
          refine am_invs (y := 148) (as := [.int (nI g), .int (nI 0), .int (nI 7)]) (rest := []) rfl rfl rfl rfl rfl rfl (Nat.le_of_ble_eq_true rfl) ?_
          refine c_in1 (by omega) (by omega) (by omega) (by omega) ?_
          show am_G _ M_X10_waits _ 29 [some (.ref 0), some (.int (nI 1)), some (.int (nI u)), some (.int (nI g)), none] [.int (nI 1)] σ2
          refine am_if (ty := 32) (tn := 35) rfl (by decide) rfl rfl (fun (h_103 : nI 1 = 0) => ?_) (fun (h_103 : ¬ (nI 1 = 0)) => ?_)
          · exact absurd h_103 (by decide)
          refine am_run 5 (pc' := 42) (ls' := [some (.ref 0), some (.int (nI 1)), some (.int (nI u)), some (.int (nI g)), none]) (st' := [.int (nI 1), .ref 17, .int (nI 1), .ref 0]) (σ' := σ2) rfl ?_
          refine am_ialdN (n := 2) (v := nI s) rfl rfl rfl (by decide) b32 (by decide) ?_
          refine am_run 1 (pc' := 44) (ls' := [some (.ref 0), some (.int (nI 1)), some (.int (nI u)), some (.int (nI g)), none]) (st' := [.int (nI u), .int (nI s), .int (nI 1), .ref 0]) (σ' := σ2) rfl ?_
          refine am_invv (y := 229) (b := 0) (as := [.int (nI 1), .int (nI s), .int (nI u)]) (rest := []) rfl rfl rfl rfl rfl rfl rfl (Nat.le_of_ble_eq_true rfl) ?_
          refine c_settles1 (by omega) hM2 hs hv.2 hu hz (fun σ3 hS i38 i39 i40 i41 i42 i43 i44 i29 => ?_)
          show am_G _ M_X10_waits _ 47 [some (.ref 0), some (.int (nI 1)), some (.int (nI u)), some (.int (nI g)), none] [.int (nI 1)] σ3
          refine am_run 2 (pc' := 51) (ls' := [some (.ref 0), some (.int (nI 1)), some (.int (nI u)), some (.int (nI g)), some (.int (nI 1))]) (st' := [.int (nI 1)]) (σ' := σ3) rfl ?_
          refine am_if (ty := 54) (tn := 65) rfl (by decide) rfl rfl (fun (h_104 : nI 1 = 0) => ?_) (fun (h_104 : ¬ (nI 1 = 0)) => ?_)
          · exact absurd h_104 (by decide)
          refine am_run 2 (pc' := 74) (ls' := [some (.ref 0), some (.int (nI 1)), some (.int (nI u)), some (.int (nI g)), some (.int (nI 1))]) (st' := [.int (nI 0)]) (σ' := σ3) rfl ?_
          refine am_reti rfl rfl ?_
          exact ⟨rfl, ((hK.KI (Or.inl rfl)).tr hS.KI).inv hI⟩
        · have hw0 : ¬ (256 : Nat) = 0 := by decide
          have hb : (256 : Nat).testBit g = false := by rw [show (256 : Nat) = 2 ^ 8 from rfl, Nat.testBit_two_pow]; exact decide_eq_false (by omega)
          refine ⟨nI 0, ?_⟩
          refine am_enter' (M := M_X9_waits) rfl rfl rfl (by omega) (ls := [some (.ref 41), some (.int (nI 1)), some (.int (nI u)), some (.int (nI g)), none]) rfl (fun d' hd' => ?_)
          refine am_run 2 (pc' := 2) (ls' := [some (.ref 41), some (.int (nI 1)), some (.int (nI u)), some (.int (nI g)), none]) (st' := [.int (nI 1), .ref 41]) (σ' := σ) rfl ?_
          refine am_invv (y := 140) (b := 41) (as := [.int (nI 1)]) (rest := []) rfl rfl rfl rfl rfl rfl rfl (Nat.le_of_ble_eq_true rfl) ?_
          refine c_filled1_1 (by omega) hf ?_
          show am_G _ M_X9_waits _ 5 [some (.ref 41), some (.int (nI 1)), some (.int (nI u)), some (.int (nI g)), none] [.ref 75] σ
          refine am_run 4 (pc' := 16) (ls' := [some (.ref 41), some (.int (nI 1)), some (.int (nI u)), some (.int (nI g)), some (.ref 75)]) (st' := [.int (nI u)]) (σ' := σ) rfl ?_
          refine am_invs (y := 141) (as := [.int (nI u)]) (rest := []) rfl rfl rfl rfl rfl rfl (Nat.le_of_ble_eq_true rfl) ?_
          refine c_sig1 (by omega) (by omega) ?_
          show am_G _ M_X9_waits _ 19 [some (.ref 41), some (.int (nI 1)), some (.int (nI u)), some (.int (nI g)), some (.ref 75)] [.int (nI 1)] σ
          refine am_if (ty := 32) (tn := 22) rfl (by decide) rfl rfl (fun (h_1 : nI 1 = 0) => ?_) (fun (h_1 : ¬ (nI 1 = 0)) => ?_)
          · exact absurd h_1 (by decide)
          refine am_run 1 (pc' := 23) (ls' := [some (.ref 41), some (.int (nI 1)), some (.int (nI u)), some (.int (nI g)), some (.ref 75)]) (st' := [.int (nI g)]) (σ' := σ) rfl ?_
          refine am_if (ty := 32) (tn := 26) rfl (by decide) rfl rfl (fun (h_2 : nI g < 0) => ?_) (fun (h_2 : ¬ (nI g < 0)) => ?_)
          · have h_2 : g < 0 := (am_nlt0 (by omega)).mp h_2
            omega
          have h_2 : ¬ (g < 0) := fun z => h_2 ((am_nlt0 (by omega)).mpr z)
          refine am_run 2 (pc' := 29) (ls' := [some (.ref 41), some (.int (nI 1)), some (.int (nI u)), some (.int (nI g)), some (.ref 75)]) (st' := [.int (nI 8), .int (nI g)]) (σ' := σ) rfl ?_
          refine am_ic (ty := 35) (tn := 32) rfl (by decide) rfl rfl (fun (h_3 : nI g < nI 8) => ?_) (fun (h_3 : ¬ (nI g < nI 8)) => ?_)
          rotate_left
          · have h_3 : ¬ (g < 8) := fun z => h_3 ((nI_ltI (by omega) (by omega)).mpr z)
            omega
          have h_3 : g < 8 := (nI_ltI (by omega) (by omega)).mp h_3
          refine am_run 3 (pc' := 41) (ls' := [some (.ref 41), some (.int (nI 1)), some (.int (nI u)), some (.int (nI g)), some (.ref 75)]) (st' := [.ref 75, .ref 77]) (σ' := σ) rfl ?_
          refine am_invv (y := 66) (b := 75) (as := []) (rest := [.ref 77]) rfl rfl rfl rfl rfl rfl rfl (Nat.le_of_ble_eq_true rfl) ?_
          refine am_enter' rfl rfl rfl (by omega) (ls := [some (.ref 75)]) rfl (fun d_4 hd_4 => ?_)
          refine am_run 2 (pc' := 4) (ls' := [some (.ref 75)]) (st' := [.ref (σ.2 75 1)]) (σ' := σ) rfl ?_
          refine am_reta rfl rfl (Or.inr ⟨_, rfl⟩) ?_
          show am_G _ M_X9_waits _ 44 [some (.ref 41), some (.int (nI 1)), some (.int (nI u)), some (.int (nI g)), some (.ref 75)] [.ref (σ.2 75 1), .ref 77] σ
          refine am_run 1 (pc' := 46) (ls' := [some (.ref 41), some (.int (nI 1)), some (.int (nI u)), some (.int (nI g)), some (.ref 75)]) (st' := [.ref 75, .ref (σ.2 75 1), .ref 77]) (σ' := σ) rfl ?_
          refine am_invv (y := 67) (b := 75) (as := []) (rest := [.ref (σ.2 75 1), .ref 77]) rfl rfl rfl rfl rfl rfl rfl (Nat.le_of_ble_eq_true rfl) ?_
          refine am_enter' rfl rfl rfl (by omega) (ls := [some (.ref 75)]) rfl (fun d_5 hd_5 => ?_)
          refine am_run 2 (pc' := 4) (ls' := [some (.ref 75)]) (st' := [.int (σ.1 75 3)]) (σ' := σ) rfl ?_
          refine am_top (v' := nI s) a3 ?_
          refine am_reti rfl rfl ?_
          show am_G _ M_X9_waits _ 49 [some (.ref 41), some (.int (nI 1)), some (.int (nI u)), some (.int (nI g)), some (.ref 75)] [.int (nI s), .ref (σ.2 75 1), .ref 77] σ
          refine am_run 1 (pc' := 50) (ls' := [some (.ref 41), some (.int (nI 1)), some (.int (nI u)), some (.int (nI g)), some (.ref 75)]) (st' := [.int (nI u), .int (nI s), .ref (σ.2 75 1), .ref 77]) (σ' := σ) rfl ?_
          refine am_invv (y := 56) (b := 77) (as := [.ref (σ.2 75 1), .int (nI s), .int (nI u)]) (rest := []) rfl rfl rfl rfl rfl rfl rfl (Nat.le_of_ble_eq_true rfl) ?_
          refine c_determine (by omega) hW hR (show r + 1 ≤ n by omega) hro (Or.inl rfl) hs hu (fun σ2 hK hO => ?_)
          rw [hz] at hO
          obtain ⟨o0, o1, o2, o3, o4⟩ : σ2.1 77 0 = nI (P + 256 * A) ∧ σ2.1 77 1 = nI 256 ∧ σ2.1 77 2 = nI c ∧ σ2.1 77 3 = nI nx ∧ σ2.1 77 4 = nI rd := hO
          have hM2 := hM.keep2 (σ' := σ2) (fun c a => hK.1 c (by omega))
          have b32 : σ2.1 17 1 = nI s := by rw [hK.1 17 (by decide)]; exact b3
          have hn22 : σ2.1 2 1 = nI n := hM2.1.2.2.2.1
          have a32 : σ2.1 75 3 = nI s := by rw [hK.1 75 (by decide)]; exact a3
          have hR2 : TR σ2 (σ2.2 75 1) p n := by rw [hK.2]; exact hK.TR (Or.inl rfl) hR
          have hro2 : ROOT σ2 (σ2.2 75 1) (r + 1) := by
            unfold ROOT
            rw [hK.2, hK.1 _ (by have := hR.t3; unfold T3 at this; omega)]
            exact hro
          show am_G _ M_X9_waits _ 53 [some (.ref 41), some (.int (nI 1)), some (.int (nI u)), some (.int (nI g)), some (.ref 75)] [] σ2
          refine am_run 3 (pc' := 59) (ls' := [some (.ref 41), some (.int (nI 1)), some (.int (nI u)), some (.int (nI g)), some (.ref 75)]) (st' := [.ref 75, .ref 77]) (σ' := σ2) rfl ?_
          refine am_invv (y := 66) (b := 75) (as := []) (rest := [.ref 77]) rfl rfl rfl rfl rfl rfl rfl (Nat.le_of_ble_eq_true rfl) ?_
          refine am_enter' rfl rfl rfl (by omega) (ls := [some (.ref 75)]) rfl (fun d_6 hd_6 => ?_)
          refine am_run 2 (pc' := 4) (ls' := [some (.ref 75)]) (st' := [.ref (σ2.2 75 1)]) (σ' := σ2) rfl ?_
          refine am_reta rfl rfl (Or.inr ⟨_, rfl⟩) ?_
          show am_G _ M_X9_waits _ 62 [some (.ref 41), some (.int (nI 1)), some (.int (nI u)), some (.int (nI g)), some (.ref 75)] [.ref (σ2.2 75 1), .ref 77] σ2
          refine am_run 1 (pc' := 64) (ls' := [some (.ref 41), some (.int (nI 1)), some (.int (nI u)), some (.int (nI g)), some (.ref 75)]) (st' := [.ref 75, .ref (σ2.2 75 1), .ref 77]) (σ' := σ2) rfl ?_
          refine am_invv (y := 67) (b := 75) (as := []) (rest := [.ref (σ2.2 75 1), .ref 77]) rfl rfl rfl rfl rfl rfl rfl (Nat.le_of_ble_eq_true rfl) ?_
          refine am_enter' rfl rfl rfl (by omega) (ls := [some (.ref 75)]) rfl (fun d_7 hd_7 => ?_)
          refine am_run 2 (pc' := 4) (ls' := [some (.ref 75)]) (st' := [.int (σ2.1 75 3)]) (σ' := σ2) rfl ?_
          refine am_top (v' := nI s) a32 ?_
          refine am_reti rfl rfl ?_
          show am_G _ M_X9_waits _ 67 [some (.ref 41), some (.int (nI 1)), some (.int (nI u)), some (.int (nI g)), some (.ref 75)] [.int (nI s), .ref (σ2.2 75 1), .ref 77] σ2
          refine am_run 1 (pc' := 68) (ls' := [some (.ref 41), some (.int (nI 1)), some (.int (nI u)), some (.int (nI g)), some (.ref 75)]) (st' := [.int (nI g), .int (nI s), .ref (σ2.2 75 1), .ref 77]) (σ' := σ2) rfl ?_
          refine am_invv (y := 61) (b := 77) (as := [.ref (σ2.2 75 1), .int (nI s), .int (nI g)]) (rest := []) rfl rfl rfl rfl rfl rfl rfl (Nat.le_of_ble_eq_true rfl) ?_
          refine c_waited (by omega) hW hR2 (show r + 1 ≤ n by omega) hro2 hs b1 b2 hg (by omega) o0 o1 ?_
          show am_G _ M_X9_waits _ 71 [some (.ref 41), some (.int (nI 1)), some (.int (nI u)), some (.int (nI g)), some (.ref 75)] [.int (nI (wfs p (r + 1) s 256 P A g))] σ2
          refine am_reti rfl rfl ?_
          refine ⟨by rw [show wfs p (r + 1) s 256 P A g = 0 from if_neg (nfl hb)], ?_⟩
          refine am_enter' (M := M_X10_waits) rfl rfl rfl (by omega) (ls := [some (.ref 0), some (.int (nI 1)), some (.int (nI u)), some (.int (nI g)), none]) rfl (fun d2 hd2 => ?_)
          refine am_run 2 (pc' := 2) (ls' := [some (.ref 0), some (.int (nI 1)), some (.int (nI u)), some (.int (nI g)), none]) (st' := [.int (nI 1), .ref 0]) (σ' := σ2) rfl ?_
          refine am_invv (y := 151) (b := 0) (as := [.int (nI 1)]) (rest := []) rfl rfl rfl rfl rfl rfl rfl (Nat.le_of_ble_eq_true rfl) ?_
          refine c_prog1_1 (by omega) (n := n) (by exact hn22) hn1 hn60 ?_
          show am_G _ M_X10_waits _ 5 [some (.ref 0), some (.int (nI 1)), some (.int (nI u)), some (.int (nI g)), none] [.int (nI 1)] σ2
          refine am_if (ty := 8) (tn := 11) rfl (by decide) rfl rfl (fun (h_101 : nI 1 = 0) => ?_) (fun (h_101 : ¬ (nI 1 = 0)) => ?_)
          · exact absurd h_101 (by decide)
          refine am_run 3 (pc' := 16) (ls' := [some (.ref 0), some (.int (nI 1)), some (.int (nI u)), some (.int (nI g)), none]) (st' := [.int (nI 255), .int (nI 0), .int (nI u)]) (σ' := σ2) rfl ?_
          refine am_invs (y := 148) (as := [.int (nI u), .int (nI 0), .int (nI 255)]) (rest := []) rfl rfl rfl rfl rfl rfl (Nat.le_of_ble_eq_true rfl) ?_
          refine c_in1 (by omega) (by omega) (by omega) (by omega) ?_
          show am_G _ M_X10_waits _ 19 [some (.ref 0), some (.int (nI 1)), some (.int (nI u)), some (.int (nI g)), none] [.int (nI 1)] σ2
          refine am_if (ty := 32) (tn := 22) rfl (by decide) rfl rfl (fun (h_102 : nI 1 = 0) => ?_) (fun (h_102 : ¬ (nI 1 = 0)) => ?_)
          · exact absurd h_102 (by decide)
          refine am_run 3 (pc' := 26) (ls' := [some (.ref 0), some (.int (nI 1)), some (.int (nI u)), some (.int (nI g)), none]) (st' := [.int (nI 7), .int (nI 0), .int (nI g)]) (σ' := σ2) rfl ?_
          refine am_invs (y := 148) (as := [.int (nI g), .int (nI 0), .int (nI 7)]) (rest := []) rfl rfl rfl rfl rfl rfl (Nat.le_of_ble_eq_true rfl) ?_
          refine c_in1 (by omega) (by omega) (by omega) (by omega) ?_
          show am_G _ M_X10_waits _ 29 [some (.ref 0), some (.int (nI 1)), some (.int (nI u)), some (.int (nI g)), none] [.int (nI 1)] σ2
          refine am_if (ty := 32) (tn := 35) rfl (by decide) rfl rfl (fun (h_103 : nI 1 = 0) => ?_) (fun (h_103 : ¬ (nI 1 = 0)) => ?_)
          · exact absurd h_103 (by decide)
          refine am_run 5 (pc' := 42) (ls' := [some (.ref 0), some (.int (nI 1)), some (.int (nI u)), some (.int (nI g)), none]) (st' := [.int (nI 1), .ref 17, .int (nI 1), .ref 0]) (σ' := σ2) rfl ?_
          refine am_ialdN (n := 2) (v := nI s) rfl rfl rfl (by decide) b32 (by decide) ?_
          refine am_run 1 (pc' := 44) (ls' := [some (.ref 0), some (.int (nI 1)), some (.int (nI u)), some (.int (nI g)), none]) (st' := [.int (nI u), .int (nI s), .int (nI 1), .ref 0]) (σ' := σ2) rfl ?_
          refine am_invv (y := 229) (b := 0) (as := [.int (nI 1), .int (nI s), .int (nI u)]) (rest := []) rfl rfl rfl rfl rfl rfl rfl (Nat.le_of_ble_eq_true rfl) ?_
          refine c_settles0 (by omega) hM2 hs hv.2 hu hz hw0 (fun σ3 hS i38 i39 i40 i41 i29 => ?_)
          show am_G _ M_X10_waits _ 47 [some (.ref 0), some (.int (nI 1)), some (.int (nI u)), some (.int (nI g)), none] [.int (nI 0)] σ3
          refine am_run 2 (pc' := 51) (ls' := [some (.ref 0), some (.int (nI 1)), some (.int (nI u)), some (.int (nI g)), some (.int (nI 0))]) (st' := [.int (nI 0)]) (σ' := σ3) rfl ?_
          refine am_if (ty := 54) (tn := 65) rfl (by decide) rfl rfl (fun (h_104 : nI 0 = 0) => ?_) (fun (h_104 : ¬ (nI 0 = 0)) => ?_)
          rotate_left
          · exact absurd (by decide) h_104
          refine am_run 2 (pc' := 58) (ls' := [some (.ref 0), some (.int (nI 1)), some (.int (nI u)), some (.int (nI g)), some (.int (nI 0))]) (st' := [.int (σ3.1 0 41)]) (σ' := σ3) rfl ?_
          refine am_top (v' := nI 256) i41 ?_
          refine am_run 2 (pc' := 62) (ls' := [some (.ref 0), some (.int (nI 1)), some (.int (nI u)), some (.int (nI g)), some (.int (nI 0))]) (st' := [.int (nI 256 &&& nI 255)]) (σ' := σ3) rfl ?_
          refine am_top (v' := nI 0) (by decide) ?_
          refine am_if (ty := 65) (tn := 69) rfl (by decide) rfl rfl (fun (h_105 : nI 0 = 0) => ?_) (fun (h_105 : ¬ (nI 0 = 0)) => ?_)
          rotate_left
          · exact absurd (by decide) h_105
          refine am_run 2 (pc' := 74) (ls' := [some (.ref 0), some (.int (nI 1)), some (.int (nI u)), some (.int (nI g)), some (.int (nI 0))]) (st' := [.int (nI 0)]) (σ' := σ3) rfl ?_
          refine am_reti rfl rfl ?_
          exact ⟨rfl, ((hK.KI (Or.inl rfl)).tr hS.KI).inv hI⟩
        · have hwl : w ≤ 255 := by rw [ew]; exact dn_le _ _
          refine ⟨nI (wfs p (r + 1) s w P A g), ?_⟩
          refine am_enter' (M := M_X9_waits) rfl rfl rfl (by omega) (ls := [some (.ref 41), some (.int (nI 1)), some (.int (nI u)), some (.int (nI g)), none]) rfl (fun d' hd' => ?_)
          refine am_run 2 (pc' := 2) (ls' := [some (.ref 41), some (.int (nI 1)), some (.int (nI u)), some (.int (nI g)), none]) (st' := [.int (nI 1), .ref 41]) (σ' := σ) rfl ?_
          refine am_invv (y := 140) (b := 41) (as := [.int (nI 1)]) (rest := []) rfl rfl rfl rfl rfl rfl rfl (Nat.le_of_ble_eq_true rfl) ?_
          refine c_filled1_1 (by omega) hf ?_
          show am_G _ M_X9_waits _ 5 [some (.ref 41), some (.int (nI 1)), some (.int (nI u)), some (.int (nI g)), none] [.ref 75] σ
          refine am_run 4 (pc' := 16) (ls' := [some (.ref 41), some (.int (nI 1)), some (.int (nI u)), some (.int (nI g)), some (.ref 75)]) (st' := [.int (nI u)]) (σ' := σ) rfl ?_
          refine am_invs (y := 141) (as := [.int (nI u)]) (rest := []) rfl rfl rfl rfl rfl rfl (Nat.le_of_ble_eq_true rfl) ?_
          refine c_sig1 (by omega) (by omega) ?_
          show am_G _ M_X9_waits _ 19 [some (.ref 41), some (.int (nI 1)), some (.int (nI u)), some (.int (nI g)), some (.ref 75)] [.int (nI 1)] σ
          refine am_if (ty := 32) (tn := 22) rfl (by decide) rfl rfl (fun (h_1 : nI 1 = 0) => ?_) (fun (h_1 : ¬ (nI 1 = 0)) => ?_)
          · exact absurd h_1 (by decide)
          refine am_run 1 (pc' := 23) (ls' := [some (.ref 41), some (.int (nI 1)), some (.int (nI u)), some (.int (nI g)), some (.ref 75)]) (st' := [.int (nI g)]) (σ' := σ) rfl ?_
          refine am_if (ty := 32) (tn := 26) rfl (by decide) rfl rfl (fun (h_2 : nI g < 0) => ?_) (fun (h_2 : ¬ (nI g < 0)) => ?_)
          · have h_2 : g < 0 := (am_nlt0 (by omega)).mp h_2
            omega
          have h_2 : ¬ (g < 0) := fun z => h_2 ((am_nlt0 (by omega)).mpr z)
          refine am_run 2 (pc' := 29) (ls' := [some (.ref 41), some (.int (nI 1)), some (.int (nI u)), some (.int (nI g)), some (.ref 75)]) (st' := [.int (nI 8), .int (nI g)]) (σ' := σ) rfl ?_
          refine am_ic (ty := 35) (tn := 32) rfl (by decide) rfl rfl (fun (h_3 : nI g < nI 8) => ?_) (fun (h_3 : ¬ (nI g < nI 8)) => ?_)
          rotate_left
          · have h_3 : ¬ (g < 8) := fun z => h_3 ((nI_ltI (by omega) (by omega)).mpr z)
            omega
          have h_3 : g < 8 := (nI_ltI (by omega) (by omega)).mp h_3
          refine am_run 3 (pc' := 41) (ls' := [some (.ref 41), some (.int (nI 1)), some (.int (nI u)), some (.int (nI g)), some (.ref 75)]) (st' := [.ref 75, .ref 77]) (σ' := σ) rfl ?_
          refine am_invv (y := 66) (b := 75) (as := []) (rest := [.ref 77]) rfl rfl rfl rfl rfl rfl rfl (Nat.le_of_ble_eq_true rfl) ?_
          refine am_enter' rfl rfl rfl (by omega) (ls := [some (.ref 75)]) rfl (fun d_4 hd_4 => ?_)
          refine am_run 2 (pc' := 4) (ls' := [some (.ref 75)]) (st' := [.ref (σ.2 75 1)]) (σ' := σ) rfl ?_
          refine am_reta rfl rfl (Or.inr ⟨_, rfl⟩) ?_
          show am_G _ M_X9_waits _ 44 [some (.ref 41), some (.int (nI 1)), some (.int (nI u)), some (.int (nI g)), some (.ref 75)] [.ref (σ.2 75 1), .ref 77] σ
          refine am_run 1 (pc' := 46) (ls' := [some (.ref 41), some (.int (nI 1)), some (.int (nI u)), some (.int (nI g)), some (.ref 75)]) (st' := [.ref 75, .ref (σ.2 75 1), .ref 77]) (σ' := σ) rfl ?_
          refine am_invv (y := 67) (b := 75) (as := []) (rest := [.ref (σ.2 75 1), .ref 77]) rfl rfl rfl rfl rfl rfl rfl (Nat.le_of_ble_eq_true rfl) ?_
          refine am_enter' rfl rfl rfl (by omega) (ls := [some (.ref 75)]) rfl (fun d_5 hd_5 => ?_)
          refine am_run 2 (pc' := 4) (ls' := [some (.ref 75)]) (st' := [.int (σ.1 75 3)]) (σ' := σ) rfl ?_
          refine am_top (v' := nI s) a3 ?_
          refine am_reti rfl rfl ?_
          show am_G _ M_X9_waits _ 49 [some (.ref 41), some (.int (nI 1)), some (.int (nI u)), some (.int (nI g)), some (.ref 75)] [.int (nI s), .ref (σ.2 75 1), .ref 77] σ
          refine am_run 1 (pc' := 50) (ls' := [some (.ref 41), some (.int (nI 1)), some (.int (nI u)), some (.int (nI g)), some (.ref 75)]) (st' := [.int (nI u), .int (nI s), .ref (σ.2 75 1), .ref 77]) (σ' := σ) rfl ?_
          refine am_invv (y := 56) (b := 77) (as := [.ref (σ.2 75 1), .int (nI s), .int (nI u)]) (rest := []) rfl rfl rfl rfl rfl rfl rfl (Nat.le_of_ble_eq_true rfl) ?_
          refine c_determine (by omega) hW hR (show r + 1 ≤ n by omega) hro (Or.inl rfl) hs hu (fun σ2 hK hO => ?_)
          rw [hz] at hO
          obtain ⟨o0, o1, o2, o3, o4⟩ : σ2.1 77 0 = nI (P + 256 * A) ∧ σ2.1 77 1 = nI w ∧ σ2.1 77 2 = nI c ∧ σ2.1 77 3 = nI nx ∧ σ2.1 77 4 = nI rd := hO
          have hM2 := hM.keep2 (σ' := σ2) (fun c a => hK.1 c (by omega))
          have b32 : σ2.1 17 1 = nI s := by rw [hK.1 17 (by decide)]; exact b3
          have hn22 : σ2.1 2 1 = nI n := hM2.1.2.2.2.1
          have a32 : σ2.1 75 3 = nI s := by rw [hK.1 75 (by decide)]; exact a3
          have hR2 : TR σ2 (σ2.2 75 1) p n := by rw [hK.2]; exact hK.TR (Or.inl rfl) hR
          have hro2 : ROOT σ2 (σ2.2 75 1) (r + 1) := by
            unfold ROOT
            rw [hK.2, hK.1 _ (by have := hR.t3; unfold T3 at this; omega)]
            exact hro
          show am_G _ M_X9_waits _ 53 [some (.ref 41), some (.int (nI 1)), some (.int (nI u)), some (.int (nI g)), some (.ref 75)] [] σ2
          refine am_run 3 (pc' := 59) (ls' := [some (.ref 41), some (.int (nI 1)), some (.int (nI u)), some (.int (nI g)), some (.ref 75)]) (st' := [.ref 75, .ref 77]) (σ' := σ2) rfl ?_
          refine am_invv (y := 66) (b := 75) (as := []) (rest := [.ref 77]) rfl rfl rfl rfl rfl rfl rfl (Nat.le_of_ble_eq_true rfl) ?_
          refine am_enter' rfl rfl rfl (by omega) (ls := [some (.ref 75)]) rfl (fun d_6 hd_6 => ?_)
          refine am_run 2 (pc' := 4) (ls' := [some (.ref 75)]) (st' := [.ref (σ2.2 75 1)]) (σ' := σ2) rfl ?_
          refine am_reta rfl rfl (Or.inr ⟨_, rfl⟩) ?_
          show am_G _ M_X9_waits _ 62 [some (.ref 41), some (.int (nI 1)), some (.int (nI u)), some (.int (nI g)), some (.ref 75)] [.ref (σ2.2 75 1), .ref 77] σ2
          refine am_run 1 (pc' := 64) (ls' := [some (.ref 41), some (.int (nI 1)), some (.int (nI u)), some (.int (nI g)), some (.ref 75)]) (st' := [.ref 75, .ref (σ2.2 75 1), .ref 77]) (σ' := σ2) rfl ?_
          refine am_invv (y := 67) (b := 75) (as := []) (rest := [.ref (σ2.2 75 1), .ref 77]) rfl rfl rfl rfl rfl rfl rfl (Nat.le_of_ble_eq_true rfl) ?_
          refine am_enter' rfl rfl rfl (by omega) (ls := [some (.ref 75)]) rfl (fun d_7 hd_7 => ?_)
          refine am_run 2 (pc' := 4) (ls' := [some (.ref 75)]) (st' := [.int (σ2.1 75 3)]) (σ' := σ2) rfl ?_
          refine am_top (v' := nI s) a32 ?_
          refine am_reti rfl rfl ?_
          show am_G _ M_X9_waits _ 67 [some (.ref 41), some (.int (nI 1)), some (.int (nI u)), some (.int (nI g)), some (.ref 75)] [.int (nI s), .ref (σ2.2 75 1), .ref 77] σ2
          refine am_run 1 (pc' := 68) (ls' := [some (.ref 41), some (.int (nI 1)), some (.int (nI u)), some (.int (nI g)), some (.ref 75)]) (st' := [.int (nI g), .int (nI s), .ref (σ2.2 75 1), .ref 77]) (σ' := σ2) rfl ?_
          refine am_invv (y := 61) (b := 77) (as := [.ref (σ2.2 75 1), .int (nI s), .int (nI g)]) (rest := []) rfl rfl rfl rfl rfl rfl rfl (Nat.le_of_ble_eq_true rfl) ?_
          refine c_waited (by omega) hW hR2 (show r + 1 ≤ n by omega) hro2 hs b1 b2 hg (by omega) o0 o1 ?_
          show am_G _ M_X9_waits _ 71 [some (.ref 41), some (.int (nI 1)), some (.int (nI u)), some (.int (nI g)), some (.ref 75)] [.int (nI (wfs p (r + 1) s w P A g))] σ2
          refine am_reti rfl rfl ?_
          refine ⟨rfl, ?_⟩
          refine am_enter' (M := M_X10_waits) rfl rfl rfl (by omega) (ls := [some (.ref 0), some (.int (nI 1)), some (.int (nI u)), some (.int (nI g)), none]) rfl (fun d2 hd2 => ?_)
          refine am_run 2 (pc' := 2) (ls' := [some (.ref 0), some (.int (nI 1)), some (.int (nI u)), some (.int (nI g)), none]) (st' := [.int (nI 1), .ref 0]) (σ' := σ2) rfl ?_
          refine am_invv (y := 151) (b := 0) (as := [.int (nI 1)]) (rest := []) rfl rfl rfl rfl rfl rfl rfl (Nat.le_of_ble_eq_true rfl) ?_
          refine c_prog1_1 (by omega) (n := n) (by exact hn22) hn1 hn60 ?_
          show am_G _ M_X10_waits _ 5 [some (.ref 0), some (.int (nI 1)), some (.int (nI u)), some (.int (nI g)), none] [.int (nI 1)] σ2
          refine am_if (ty := 8) (tn := 11) rfl (by decide) rfl rfl (fun (h_101 : nI 1 = 0) => ?_) (fun (h_101 : ¬ (nI 1 = 0)) => ?_)
          · exact absurd h_101 (by decide)
          refine am_run 3 (pc' := 16) (ls' := [some (.ref 0), some (.int (nI 1)), some (.int (nI u)), some (.int (nI g)), none]) (st' := [.int (nI 255), .int (nI 0), .int (nI u)]) (σ' := σ2) rfl ?_
          refine am_invs (y := 148) (as := [.int (nI u), .int (nI 0), .int (nI 255)]) (rest := []) rfl rfl rfl rfl rfl rfl (Nat.le_of_ble_eq_true rfl) ?_
          refine c_in1 (by omega) (by omega) (by omega) (by omega) ?_
          show am_G _ M_X10_waits _ 19 [some (.ref 0), some (.int (nI 1)), some (.int (nI u)), some (.int (nI g)), none] [.int (nI 1)] σ2
          refine am_if (ty := 32) (tn := 22) rfl (by decide) rfl rfl (fun (h_102 : nI 1 = 0) => ?_) (fun (h_102 : ¬ (nI 1 = 0)) => ?_)
          · exact absurd h_102 (by decide)
          refine am_run 3 (pc' := 26) (ls' := [some (.ref 0), some (.int (nI 1)), some (.int (nI u)), some (.int (nI g)), none]) (st' := [.int (nI 7), .int (nI 0), .int (nI g)]) (σ' := σ2) rfl ?_
          refine am_invs (y := 148) (as := [.int (nI g), .int (nI 0), .int (nI 7)]) (rest := []) rfl rfl rfl rfl rfl rfl (Nat.le_of_ble_eq_true rfl) ?_
          refine c_in1 (by omega) (by omega) (by omega) (by omega) ?_
          show am_G _ M_X10_waits _ 29 [some (.ref 0), some (.int (nI 1)), some (.int (nI u)), some (.int (nI g)), none] [.int (nI 1)] σ2
          refine am_if (ty := 32) (tn := 35) rfl (by decide) rfl rfl (fun (h_103 : nI 1 = 0) => ?_) (fun (h_103 : ¬ (nI 1 = 0)) => ?_)
          · exact absurd h_103 (by decide)
          refine am_run 5 (pc' := 42) (ls' := [some (.ref 0), some (.int (nI 1)), some (.int (nI u)), some (.int (nI g)), none]) (st' := [.int (nI 1), .ref 17, .int (nI 1), .ref 0]) (σ' := σ2) rfl ?_
          refine am_ialdN (n := 2) (v := nI s) rfl rfl rfl (by decide) b32 (by decide) ?_
          refine am_run 1 (pc' := 44) (ls' := [some (.ref 0), some (.int (nI 1)), some (.int (nI u)), some (.int (nI g)), none]) (st' := [.int (nI u), .int (nI s), .int (nI 1), .ref 0]) (σ' := σ2) rfl ?_
          refine am_invv (y := 229) (b := 0) (as := [.int (nI 1), .int (nI s), .int (nI u)]) (rest := []) rfl rfl rfl rfl rfl rfl rfl (Nat.le_of_ble_eq_true rfl) ?_
          refine c_settles0 (by omega) hM2 hs hv.2 hu hz hw0 (fun σ3 hS i38 i39 i40 i41 i29 => ?_)
          show am_G _ M_X10_waits _ 47 [some (.ref 0), some (.int (nI 1)), some (.int (nI u)), some (.int (nI g)), none] [.int (nI 0)] σ3
          refine am_run 2 (pc' := 51) (ls' := [some (.ref 0), some (.int (nI 1)), some (.int (nI u)), some (.int (nI g)), some (.int (nI 0))]) (st' := [.int (nI 0)]) (σ' := σ3) rfl ?_
          refine am_if (ty := 54) (tn := 65) rfl (by decide) rfl rfl (fun (h_104 : nI 0 = 0) => ?_) (fun (h_104 : ¬ (nI 0 = 0)) => ?_)
          rotate_left
          · exact absurd (by decide) h_104
          refine am_run 2 (pc' := 58) (ls' := [some (.ref 0), some (.int (nI 1)), some (.int (nI u)), some (.int (nI g)), some (.int (nI 0))]) (st' := [.int (σ3.1 0 41)]) (σ' := σ3) rfl ?_
          refine am_top (v' := nI w) i41 ?_
          refine am_run 2 (pc' := 62) (ls' := [some (.ref 0), some (.int (nI 1)), some (.int (nI u)), some (.int (nI g)), some (.int (nI 0))]) (st' := [.int (nI w &&& nI 255)]) (σ' := σ3) rfl ?_
          refine am_top (v' := nI w) (by rw [show nI 255 = nI (256 - 1) from rfl, nx_mask (k := 8) _ rfl, Nat.mod_eq_of_lt (by omega)]) ?_
          refine am_if (ty := 65) (tn := 69) rfl (by decide) rfl rfl (fun (h_105 : nI w = 0) => ?_) (fun (h_105 : ¬ (nI w = 0)) => ?_)
          · have h_105 : w = 0 := (am_n0 (by omega)).mp h_105
            omega
          have h_105 : ¬ (w = 0) := fun z => h_105 ((am_n0 (by omega)).mpr z)
          refine am_run 2 (pc' := 71) (ls' := [some (.ref 0), some (.int (nI 1)), some (.int (nI u)), some (.int (nI g)), some (.int (nI 0))]) (st' := [.int (nI g), .ref 0]) (σ' := σ3) rfl ?_
          refine am_invv (y := 236) (b := 0) (as := [.int (nI g)]) (rest := []) rfl rfl rfl rfl rfl rfl rfl (Nat.le_of_ble_eq_true rfl) ?_
          refine c_waitsFor (by omega) (hM2.keep hS.1) hs (hv.2.resolve_left hs0) hdj0 b1 b2 hg i38 i39 i29 (fun σ4 hWI => ?_)
          show am_G _ M_X10_waits _ 74 [some (.ref 0), some (.int (nI 1)), some (.int (nI u)), some (.int (nI g)), some (.int (nI 0))] [.int (nI (wfs p (r + 1) s (dn 255 (P ||| A)) P A g))] σ4
          refine am_reti rfl rfl ?_
          exact ⟨by rw [← ew], ((hK.KI (Or.inl rfl)).tr (hS.tr hWI.1).KI).inv hI⟩
      · rcases id hz with hzn | ⟨hz0, hzb⟩
        · skip
          refine ⟨-1000002, ?_⟩
          refine am_enter' (M := M_X9_waits) rfl rfl rfl (by omega) (ls := [some (.ref 41), some (.int (nI 1)), some (.int (nI u)), some (.int z), none]) rfl (fun d' hd' => ?_)
          refine am_run 2 (pc' := 2) (ls' := [some (.ref 41), some (.int (nI 1)), some (.int (nI u)), some (.int z), none]) (st' := [.int (nI 1), .ref 41]) (σ' := σ) rfl ?_
          refine am_invv (y := 140) (b := 41) (as := [.int (nI 1)]) (rest := []) rfl rfl rfl rfl rfl rfl rfl (Nat.le_of_ble_eq_true rfl) ?_
          refine c_filled1_1 (by omega) hf ?_
          show am_G _ M_X9_waits _ 5 [some (.ref 41), some (.int (nI 1)), some (.int (nI u)), some (.int z), none] [.ref 75] σ
          refine am_run 4 (pc' := 16) (ls' := [some (.ref 41), some (.int (nI 1)), some (.int (nI u)), some (.int z), some (.ref 75)]) (st' := [.int (nI u)]) (σ' := σ) rfl ?_
          refine am_invs (y := 141) (as := [.int (nI u)]) (rest := []) rfl rfl rfl rfl rfl rfl (Nat.le_of_ble_eq_true rfl) ?_
          refine c_sig1 (by omega) (by omega) ?_
          show am_G _ M_X9_waits _ 19 [some (.ref 41), some (.int (nI 1)), some (.int (nI u)), some (.int z), some (.ref 75)] [.int (nI 1)] σ
          refine am_if (ty := 32) (tn := 22) rfl (by decide) rfl rfl (fun (h_1 : nI 1 = 0) => ?_) (fun (h_1 : ¬ (nI 1 = 0)) => ?_)
          · exact absurd h_1 (by decide)
          refine am_run 1 (pc' := 23) (ls' := [some (.ref 41), some (.int (nI 1)), some (.int (nI u)), some (.int z), some (.ref 75)]) (st' := [.int z]) (σ' := σ) rfl ?_
          refine am_if (ty := 32) (tn := 26) rfl (by decide) rfl rfl (fun (h_2 : z < 0) => ?_) (fun (h_2 : ¬ (z < 0)) => ?_)
          rotate_left
          · exact absurd hzn h_2
          refine am_run 1 (pc' := 34) (ls' := [some (.ref 41), some (.int (nI 1)), some (.int (nI u)), some (.int z), some (.ref 75)]) (st' := [.int (-1000002)]) (σ' := σ) rfl ?_
          refine am_reti rfl rfl ?_
          refine ⟨rfl, ?_⟩
          refine am_enter' (M := M_X10_waits) rfl rfl rfl (by omega) (ls := [some (.ref 0), some (.int (nI 1)), some (.int (nI u)), some (.int z), none]) rfl (fun d2 hd2 => ?_)
          refine am_run 2 (pc' := 2) (ls' := [some (.ref 0), some (.int (nI 1)), some (.int (nI u)), some (.int z), none]) (st' := [.int (nI 1), .ref 0]) (σ' := σ) rfl ?_
          refine am_invv (y := 151) (b := 0) (as := [.int (nI 1)]) (rest := []) rfl rfl rfl rfl rfl rfl rfl (Nat.le_of_ble_eq_true rfl) ?_
          refine c_prog1_1 (by omega) (n := n) (by exact hn2) hn1 hn60 ?_
          show am_G _ M_X10_waits _ 5 [some (.ref 0), some (.int (nI 1)), some (.int (nI u)), some (.int z), none] [.int (nI 1)] σ
          refine am_if (ty := 8) (tn := 11) rfl (by decide) rfl rfl (fun (h_101 : nI 1 = 0) => ?_) (fun (h_101 : ¬ (nI 1 = 0)) => ?_)
          · exact absurd h_101 (by decide)
          refine am_run 3 (pc' := 16) (ls' := [some (.ref 0), some (.int (nI 1)), some (.int (nI u)), some (.int z), none]) (st' := [.int (nI 255), .int (nI 0), .int (nI u)]) (σ' := σ) rfl ?_
          refine am_invs (y := 148) (as := [.int (nI u), .int (nI 0), .int (nI 255)]) (rest := []) rfl rfl rfl rfl rfl rfl (Nat.le_of_ble_eq_true rfl) ?_
          refine c_in1 (by omega) (by omega) (by omega) (by omega) ?_
          show am_G _ M_X10_waits _ 19 [some (.ref 0), some (.int (nI 1)), some (.int (nI u)), some (.int z), none] [.int (nI 1)] σ
          refine am_if (ty := 32) (tn := 22) rfl (by decide) rfl rfl (fun (h_102 : nI 1 = 0) => ?_) (fun (h_102 : ¬ (nI 1 = 0)) => ?_)
          · exact absurd h_102 (by decide)
          refine am_run 3 (pc' := 26) (ls' := [some (.ref 0), some (.int (nI 1)), some (.int (nI u)), some (.int z), none]) (st' := [.int (nI 7), .int (nI 0), .int z]) (σ' := σ) rfl ?_
          refine am_invs (y := 148) (as := [.int z, .int (nI 0), .int (nI 7)]) (rest := []) rfl rfl rfl rfl rfl rfl (Nat.le_of_ble_eq_true rfl) ?_
          refine c_in0 (by omega) hz ?_
          show am_G _ M_X10_waits _ 29 [some (.ref 0), some (.int (nI 1)), some (.int (nI u)), some (.int z), none] [.int (nI 0)] σ
          refine am_if (ty := 32) (tn := 35) rfl (by decide) rfl rfl (fun (h_103 : nI 0 = 0) => ?_) (fun (h_103 : ¬ (nI 0 = 0)) => ?_)
          rotate_left
          · exact absurd (by decide) h_103
          refine am_run 1 (pc' := 34) (ls' := [some (.ref 0), some (.int (nI 1)), some (.int (nI u)), some (.int z), none]) (st' := [.int (-1000002)]) (σ' := σ) rfl ?_
          refine am_reti rfl rfl ?_
          exact ⟨rfl, hI⟩
        · skip
          refine ⟨-1000002, ?_⟩
          refine am_enter' (M := M_X9_waits) rfl rfl rfl (by omega) (ls := [some (.ref 41), some (.int (nI 1)), some (.int (nI u)), some (.int z), none]) rfl (fun d' hd' => ?_)
          refine am_run 2 (pc' := 2) (ls' := [some (.ref 41), some (.int (nI 1)), some (.int (nI u)), some (.int z), none]) (st' := [.int (nI 1), .ref 41]) (σ' := σ) rfl ?_
          refine am_invv (y := 140) (b := 41) (as := [.int (nI 1)]) (rest := []) rfl rfl rfl rfl rfl rfl rfl (Nat.le_of_ble_eq_true rfl) ?_
          refine c_filled1_1 (by omega) hf ?_
          show am_G _ M_X9_waits _ 5 [some (.ref 41), some (.int (nI 1)), some (.int (nI u)), some (.int z), none] [.ref 75] σ
          refine am_run 4 (pc' := 16) (ls' := [some (.ref 41), some (.int (nI 1)), some (.int (nI u)), some (.int z), some (.ref 75)]) (st' := [.int (nI u)]) (σ' := σ) rfl ?_
          refine am_invs (y := 141) (as := [.int (nI u)]) (rest := []) rfl rfl rfl rfl rfl rfl (Nat.le_of_ble_eq_true rfl) ?_
          refine c_sig1 (by omega) (by omega) ?_
          show am_G _ M_X9_waits _ 19 [some (.ref 41), some (.int (nI 1)), some (.int (nI u)), some (.int z), some (.ref 75)] [.int (nI 1)] σ
          refine am_if (ty := 32) (tn := 22) rfl (by decide) rfl rfl (fun (h_1 : nI 1 = 0) => ?_) (fun (h_1 : ¬ (nI 1 = 0)) => ?_)
          · exact absurd h_1 (by decide)
          refine am_run 1 (pc' := 23) (ls' := [some (.ref 41), some (.int (nI 1)), some (.int (nI u)), some (.int z), some (.ref 75)]) (st' := [.int z]) (σ' := σ) rfl ?_
          refine am_if (ty := 32) (tn := 26) rfl (by decide) rfl rfl (fun (h_2 : z < 0) => ?_) (fun (h_2 : ¬ (z < 0)) => ?_)
          · exact absurd h_2 hz0
          refine am_run 2 (pc' := 29) (ls' := [some (.ref 41), some (.int (nI 1)), some (.int (nI u)), some (.int z), some (.ref 75)]) (st' := [.int (nI 8), .int z]) (σ' := σ) rfl ?_
          refine am_ic (ty := 35) (tn := 32) rfl (by decide) rfl rfl (fun (h_3 : z < nI 8) => ?_) (fun (h_3 : ¬ (z < nI 8)) => ?_)
          · exact absurd h_3 (big3 (n := 8) (by decide) (by decide) hzb)
          refine am_run 1 (pc' := 34) (ls' := [some (.ref 41), some (.int (nI 1)), some (.int (nI u)), some (.int z), some (.ref 75)]) (st' := [.int (-1000002)]) (σ' := σ) rfl ?_
          refine am_reti rfl rfl ?_
          refine ⟨rfl, ?_⟩
          refine am_enter' (M := M_X10_waits) rfl rfl rfl (by omega) (ls := [some (.ref 0), some (.int (nI 1)), some (.int (nI u)), some (.int z), none]) rfl (fun d2 hd2 => ?_)
          refine am_run 2 (pc' := 2) (ls' := [some (.ref 0), some (.int (nI 1)), some (.int (nI u)), some (.int z), none]) (st' := [.int (nI 1), .ref 0]) (σ' := σ) rfl ?_
          refine am_invv (y := 151) (b := 0) (as := [.int (nI 1)]) (rest := []) rfl rfl rfl rfl rfl rfl rfl (Nat.le_of_ble_eq_true rfl) ?_
          refine c_prog1_1 (by omega) (n := n) (by exact hn2) hn1 hn60 ?_
          show am_G _ M_X10_waits _ 5 [some (.ref 0), some (.int (nI 1)), some (.int (nI u)), some (.int z), none] [.int (nI 1)] σ
          refine am_if (ty := 8) (tn := 11) rfl (by decide) rfl rfl (fun (h_101 : nI 1 = 0) => ?_) (fun (h_101 : ¬ (nI 1 = 0)) => ?_)
          · exact absurd h_101 (by decide)
          refine am_run 3 (pc' := 16) (ls' := [some (.ref 0), some (.int (nI 1)), some (.int (nI u)), some (.int z), none]) (st' := [.int (nI 255), .int (nI 0), .int (nI u)]) (σ' := σ) rfl ?_
          refine am_invs (y := 148) (as := [.int (nI u), .int (nI 0), .int (nI 255)]) (rest := []) rfl rfl rfl rfl rfl rfl (Nat.le_of_ble_eq_true rfl) ?_
          refine c_in1 (by omega) (by omega) (by omega) (by omega) ?_
          show am_G _ M_X10_waits _ 19 [some (.ref 0), some (.int (nI 1)), some (.int (nI u)), some (.int z), none] [.int (nI 1)] σ
          refine am_if (ty := 32) (tn := 22) rfl (by decide) rfl rfl (fun (h_102 : nI 1 = 0) => ?_) (fun (h_102 : ¬ (nI 1 = 0)) => ?_)
          · exact absurd h_102 (by decide)
          refine am_run 3 (pc' := 26) (ls' := [some (.ref 0), some (.int (nI 1)), some (.int (nI u)), some (.int z), none]) (st' := [.int (nI 7), .int (nI 0), .int z]) (σ' := σ) rfl ?_
          refine am_invs (y := 148) (as := [.int z, .int (nI 0), .int (nI 7)]) (rest := []) rfl rfl rfl rfl rfl rfl (Nat.le_of_ble_eq_true rfl) ?_
          refine c_in0 (by omega) hz ?_
          show am_G _ M_X10_waits _ 29 [some (.ref 0), some (.int (nI 1)), some (.int (nI u)), some (.int z), none] [.int (nI 0)] σ
          refine am_if (ty := 32) (tn := 35) rfl (by decide) rfl rfl (fun (h_103 : nI 0 = 0) => ?_) (fun (h_103 : ¬ (nI 0 = 0)) => ?_)
          rotate_left
          · exact absurd (by decide) h_103
          refine am_run 1 (pc' := 34) (ls' := [some (.ref 0), some (.int (nI 1)), some (.int (nI u)), some (.int z), none]) (st' := [.int (-1000002)]) (σ' := σ) rfl ?_
          refine am_reti rfl rfl ?_
          exact ⟨rfl, hI⟩
    · skip
      refine ⟨-1000002, ?_⟩
      refine am_enter' (M := M_X9_waits) rfl rfl rfl (by omega) (ls := [some (.ref 41), some (.int (nI 1)), some (.int y), some (.int z), none]) rfl (fun d' hd' => ?_)
      refine am_run 2 (pc' := 2) (ls' := [some (.ref 41), some (.int (nI 1)), some (.int y), some (.int z), none]) (st' := [.int (nI 1), .ref 41]) (σ' := σ) rfl ?_
      refine am_invv (y := 140) (b := 41) (as := [.int (nI 1)]) (rest := []) rfl rfl rfl rfl rfl rfl rfl (Nat.le_of_ble_eq_true rfl) ?_
      refine c_filled1_1 (by omega) hf ?_
      show am_G _ M_X9_waits _ 5 [some (.ref 41), some (.int (nI 1)), some (.int y), some (.int z), none] [.ref 75] σ
      refine am_run 4 (pc' := 16) (ls' := [some (.ref 41), some (.int (nI 1)), some (.int y), some (.int z), some (.ref 75)]) (st' := [.int y]) (σ' := σ) rfl ?_
      refine am_invs (y := 141) (as := [.int y]) (rest := []) rfl rfl rfl rfl rfl rfl (Nat.le_of_ble_eq_true rfl) ?_
      refine c_sig0 (by omega) hy ?_
      show am_G _ M_X9_waits _ 19 [some (.ref 41), some (.int (nI 1)), some (.int y), some (.int z), some (.ref 75)] [.int (nI 0)] σ
      refine am_if (ty := 32) (tn := 22) rfl (by decide) rfl rfl (fun (h_1 : nI 0 = 0) => ?_) (fun (h_1 : ¬ (nI 0 = 0)) => ?_)
      rotate_left
      · exact absurd (by decide) h_1
      refine am_run 1 (pc' := 34) (ls' := [some (.ref 41), some (.int (nI 1)), some (.int y), some (.int z), some (.ref 75)]) (st' := [.int (-1000002)]) (σ' := σ) rfl ?_
      refine am_reti rfl rfl ?_
      refine ⟨rfl, ?_⟩
      refine am_enter' (M := M_X10_waits) rfl rfl rfl (by omega) (ls := [some (.ref 0), some (.int (nI 1)), some (.int y), some (.int z), none]) rfl (fun d2 hd2 => ?_)
      refine am_run 2 (pc' := 2) (ls' := [some (.ref 0), some (.int (nI 1)), some (.int y), some (.int z), none]) (st' := [.int (nI 1), .ref 0]) (σ' := σ) rfl ?_
      refine am_invv (y := 151) (b := 0) (as := [.int (nI 1)]) (rest := []) rfl rfl rfl rfl rfl rfl rfl (Nat.le_of_ble_eq_true rfl) ?_
      refine c_prog1_1 (by omega) (n := n) (by exact hn2) hn1 hn60 ?_
      show am_G _ M_X10_waits _ 5 [some (.ref 0), some (.int (nI 1)), some (.int y), some (.int z), none] [.int (nI 1)] σ
      refine am_if (ty := 8) (tn := 11) rfl (by decide) rfl rfl (fun (h_101 : nI 1 = 0) => ?_) (fun (h_101 : ¬ (nI 1 = 0)) => ?_)
      · exact absurd h_101 (by decide)
      refine am_run 3 (pc' := 16) (ls' := [some (.ref 0), some (.int (nI 1)), some (.int y), some (.int z), none]) (st' := [.int (nI 255), .int (nI 0), .int y]) (σ' := σ) rfl ?_
      refine am_invs (y := 148) (as := [.int y, .int (nI 0), .int (nI 255)]) (rest := []) rfl rfl rfl rfl rfl rfl (Nat.le_of_ble_eq_true rfl) ?_
      refine c_in0 (by omega) hy ?_
      show am_G _ M_X10_waits _ 19 [some (.ref 0), some (.int (nI 1)), some (.int y), some (.int z), none] [.int (nI 0)] σ
      refine am_if (ty := 32) (tn := 22) rfl (by decide) rfl rfl (fun (h_102 : nI 0 = 0) => ?_) (fun (h_102 : ¬ (nI 0 = 0)) => ?_)
      rotate_left
      · exact absurd (by decide) h_102
      refine am_run 1 (pc' := 34) (ls' := [some (.ref 0), some (.int (nI 1)), some (.int y), some (.int z), none]) (st' := [.int (-1000002)]) (σ' := σ) rfl ?_
      refine am_reti rfl rfl ?_
      exact ⟨rfl, hI⟩

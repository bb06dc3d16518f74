section Settles
variable {σ : am_M} {j s u n r : Nat} {p : Pg} {rk od dp : Nat → Nat} {ow : Nat → Nat → Nat}
theorem c_settles1 {d : Nat} (hd : 18 ≤ d) (hM : MI σ j p n r rk od dp ow) (hs : s ≤ 1048576) (hv : s = 0 ∨ s = ST ∨ lv p (r + 1) s = true) (hu : u < 256) {P A c nx rd : Nat} (hz : oc p (r + 1) s u = (P, A, 0, c, nx, rd)) {Q : am_Q} (hq : ∀ σ', KS σ σ' → σ'.1 0 38 = nI j → σ'.1 0 39 = nI s → σ'.1 0 40 = nI rd → σ'.1 0 41 = nI 0 → σ'.1 0 42 = nI P → σ'.1 0 43 = nI c → σ'.1 0 44 = nI nx → (∀ g, g < 8 → σ'.1 29 g = nI (sts (P, A) g)) → Q (some (.int (nI 1))) σ') : am_C d 229 [.ref 0, .int (nI j), .int (nI s), .int (nI u)] σ Q :=
  c_settles hd hM hs hv hu (fun σ' h => by
    rw [hz] at h ⊢
    obtain ⟨h1, h2, h3, h4, h5, h6, h7⟩ := h
    obtain ⟨g1, g2, g3⟩ := h6 rfl
    exact hq σ' h1 h2 h3 h4 h5 g1 g2 g3 h7)
theorem c_settles0 {d : Nat} (hd : 18 ≤ d) (hM : MI σ j p n r rk od dp ow) (hs : s ≤ 1048576) (hv : s = 0 ∨ s = ST ∨ lv p (r + 1) s = true) (hu : u < 256) {P A w c nx rd : Nat} (hz : oc p (r + 1) s u = (P, A, w, c, nx, rd)) (hw : ¬ w = 0) {Q : am_Q} (hq : ∀ σ', KS σ σ' → σ'.1 0 38 = nI j → σ'.1 0 39 = nI s → σ'.1 0 40 = nI rd → σ'.1 0 41 = nI w → (∀ g, g < 8 → σ'.1 29 g = nI (sts (P, A) g)) → Q (some (.int (nI 0))) σ') : am_C d 229 [.ref 0, .int (nI j), .int (nI s), .int (nI u)] σ Q :=
  c_settles hd hM hs hv hu (fun σ' h => by
    rw [hz] at h ⊢
    obtain ⟨h1, h2, h3, h4, h5, h6, h7⟩ := h
    have e : (if (P, A, w, c, nx, rd).2.2.1 = 0 then 1 else 0) = 0 := if_neg hw
    rw [e]
    exact hq σ' h1 h2 h3 h4 h5 h7)
end Settles
theorem dj_and {a b : Nat} (h : a &&& b = 0) : dj a b := fun i q => by
  have := congrArg (fun t => Nat.testBit t i) h
  simp only [Nat.testBit_and, Nat.zero_testBit, q.1, q.2] at this
  cases this
set_option maxRecDepth 10000 in
set_option maxHeartbeats 2000000 in
theorem pr_would {d : Nat} (hd : 600 ≤ d) {σ : am_M} (hI : Inv σ) (x y z : Int32) : PR d 130 234 [.int x, .int y, .int z] σ := by
  rcases pl_cases hI x with hN | ⟨rfl, hF⟩ | ⟨rfl, hF⟩
  · refine ⟨-1000001, ?_⟩
    refine am_enter' (M := M_X9_would) rfl rfl rfl (by omega) (ls := [some (.ref 41), some (.int x), some (.int y), some (.int z), none]) rfl (fun d' hd' => ?_)
    refine am_run 2 (pc' := 2) (ls' := [some (.ref 41), some (.int x), some (.int y), some (.int z), none]) (st' := [.int x, .ref 41]) (σ' := σ) rfl ?_
    refine am_invv (y := 140) (b := 41) (as := [.int x]) (rest := []) rfl rfl rfl rfl rfl rfl rfl (Nat.le_of_ble_eq_true rfl) ?_
    refine c_nf (by omega) hN ?_
    show am_G _ M_X9_would _ 5 [some (.ref 41), some (.int x), some (.int y), some (.int z), none] [.null] σ
    refine am_run 4 (pc' := 14) (ls' := [some (.ref 41), some (.int x), some (.int y), some (.int z), some (.null)]) (st' := [.int (-1000001)]) (σ' := σ) rfl ?_
    refine am_reti rfl rfl ?_
    refine ⟨rfl, ?_⟩
    refine am_enter' (M := M_X10_would) rfl rfl rfl (by omega) (ls := [some (.ref 0), some (.int x), some (.int y), some (.int z), none]) rfl (fun d2 hd2 => ?_)
    refine am_run 2 (pc' := 2) (ls' := [some (.ref 0), some (.int x), some (.int y), some (.int z), none]) (st' := [.int x, .ref 0]) (σ' := σ) rfl ?_
    refine am_invv (y := 151) (b := 0) (as := [.int x]) (rest := []) rfl rfl rfl rfl rfl rfl rfl (Nat.le_of_ble_eq_true rfl) ?_
    refine c_np (by omega) hN ?_
    show am_G _ M_X10_would _ 5 [some (.ref 0), some (.int x), some (.int y), some (.int z), none] [.int (nI 0)] σ
    refine am_if (ty := 8) (tn := 11) rfl (by decide) rfl rfl (fun (h_101 : nI 0 = 0) => ?_) (fun (h_101 : ¬ (nI 0 = 0)) => ?_)
    rotate_left
    · exact absurd (by decide) h_101
    refine am_run 1 (pc' := 10) (ls' := [some (.ref 0), some (.int x), some (.int y), some (.int z), none]) (st' := [.int (-1000001)]) (σ' := σ) rfl ?_
    refine am_reti rfl rfl ?_
    exact ⟨rfl, hI⟩
  · obtain ⟨hf, p, n, r, kk, rk, od, dp, ow, s, m, hP, hH⟩ := hF
    obtain ⟨hn1, hR, hro, hM, hk1, hk2, hkk, hND⟩ := id hP
    obtain ⟨a3, b3, hv, a4, b4, hm, hh⟩ := id hH
    have hW := hM.1.2.1
    have hn60 := hW.1
    have hs := hv.1
    have hrn : r < n := hM.2.1.2.1
    have hn2 := hM.1.2.2.2.1
    rcases i32_in y (k := 255) (by decide) with ⟨u, hu0, rfl⟩ | hy
    · have hu : u < 256 := by omega
      rcases i32_in z (k := 4) (by decide) with ⟨u2, hu2, rfl⟩ | hz
      · skip
        obtain ⟨b1, b2, b3_, b4_, b5_, b6_⟩ := oc_b (s := s) hW (show r + 1 ≤ n by omega) hu
        have hnv := oc_vs hM s hu
        generalize hz : oc p (r + 1) s u = z0 at b1 b2 b3_ b4_ b5_ b6_ hnv
        obtain ⟨P, A, w, c, nx, rd⟩ := z0
        have b1 : P < 256 := b1
        have b2 : A < 256 := b2
        have b3_ : w ≤ 256 := b3_
        have b4_ : c ≤ 6 := b4_
        have b5_ : nx < 1048576 := b5_
        have b6_ : rd ≤ 9 := b6_
        have hnv : VS p r nx := hnv
        rcases (show u2 = 0 ∨ u2 = 1 ∨ u2 = 2 ∨ u2 = 3 ∨ u2 = 4 by omega) with rfl | rfl | rfl | rfl | rfl
        · by_cases hw0 : w = 0
          · subst hw0
            refine ⟨nI P, ?_⟩
            refine am_enter' (M := M_X9_would) rfl rfl rfl (by omega) (ls := [some (.ref 41), some (.int (nI 0)), some (.int (nI u)), some (.int (nI 0)), none]) rfl (fun d' hd' => ?_)
            refine am_run 2 (pc' := 2) (ls' := [some (.ref 41), some (.int (nI 0)), some (.int (nI u)), some (.int (nI 0)), none]) (st' := [.int (nI 0), .ref 41]) (σ' := σ) rfl ?_
            refine am_invv (y := 140) (b := 41) (as := [.int (nI 0)]) (rest := []) rfl rfl rfl rfl rfl rfl rfl (Nat.le_of_ble_eq_true rfl) ?_
            refine c_filled0_1 (by omega) hf ?_
            show am_G _ M_X9_would _ 5 [some (.ref 41), some (.int (nI 0)), some (.int (nI u)), some (.int (nI 0)), none] [.ref 73] σ
            refine am_run 4 (pc' := 16) (ls' := [some (.ref 41), some (.int (nI 0)), some (.int (nI u)), some (.int (nI 0)), some (.ref 73)]) (st' := [.int (nI u)]) (σ' := σ) rfl ?_
            refine am_invs (y := 141) (as := [.int (nI u)]) (rest := []) rfl rfl rfl rfl rfl rfl (Nat.le_of_ble_eq_true rfl) ?_
            refine c_sig1 (by omega) (by omega) ?_
            show am_G _ M_X9_would _ 19 [some (.ref 41), some (.int (nI 0)), some (.int (nI u)), some (.int (nI 0)), some (.ref 73)] [.int (nI 1)] σ
            refine am_if (ty := 31) (tn := 22) rfl (by decide) rfl rfl (fun (h_1 : nI 1 = 0) => ?_) (fun (h_1 : ¬ (nI 1 = 0)) => ?_)
            · exact absurd h_1 (by decide)
            refine am_run 1 (pc' := 23) (ls' := [some (.ref 41), some (.int (nI 0)), some (.int (nI u)), some (.int (nI 0)), some (.ref 73)]) (st' := [.int (nI 0)]) (σ' := σ) rfl ?_
            refine am_if (ty := 31) (tn := 26) rfl (by decide) rfl rfl (fun (h_2 : nI 0 < 0) => ?_) (fun (h_2 : ¬ (nI 0 < 0)) => ?_)
            · exact absurd h_2 (by decide)
            refine am_run 2 (pc' := 28) (ls' := [some (.ref 41), some (.int (nI 0)), some (.int (nI u)), some (.int (nI 0)), some (.ref 73)]) (st' := [.int (nI 4), .int (nI 0)]) (σ' := σ) rfl ?_
            refine am_ic (ty := 31) (tn := 34) rfl (by decide) rfl rfl (fun (h_3 : nI 4 < nI 0) => ?_) (fun (h_3 : ¬ (nI 4 < nI 0)) => ?_)
            · exact absurd h_3 (by decide)
            refine am_run 3 (pc' := 40) (ls' := [some (.ref 41), some (.int (nI 0)), some (.int (nI u)), some (.int (nI 0)), some (.ref 73)]) (st' := [.ref 73, .ref 77]) (σ' := σ) rfl ?_
            refine am_invv (y := 66) (b := 73) (as := []) (rest := [.ref 77]) rfl rfl rfl rfl rfl rfl rfl (Nat.le_of_ble_eq_true rfl) ?_
            refine am_enter' rfl rfl rfl (by omega) (ls := [some (.ref 73)]) rfl (fun d_4 hd_4 => ?_)
            refine am_run 2 (pc' := 4) (ls' := [some (.ref 73)]) (st' := [.ref (σ.2 73 1)]) (σ' := σ) rfl ?_
            refine am_reta rfl rfl (Or.inr ⟨_, rfl⟩) ?_
            show am_G _ M_X9_would _ 43 [some (.ref 41), some (.int (nI 0)), some (.int (nI u)), some (.int (nI 0)), some (.ref 73)] [.ref (σ.2 73 1), .ref 77] σ
            refine am_run 1 (pc' := 45) (ls' := [some (.ref 41), some (.int (nI 0)), some (.int (nI u)), some (.int (nI 0)), some (.ref 73)]) (st' := [.ref 73, .ref (σ.2 73 1), .ref 77]) (σ' := σ) rfl ?_
            refine am_invv (y := 67) (b := 73) (as := []) (rest := [.ref (σ.2 73 1), .ref 77]) rfl rfl rfl rfl rfl rfl rfl (Nat.le_of_ble_eq_true rfl) ?_
            refine am_enter' rfl rfl rfl (by omega) (ls := [some (.ref 73)]) rfl (fun d_5 hd_5 => ?_)
            refine am_run 2 (pc' := 4) (ls' := [some (.ref 73)]) (st' := [.int (σ.1 73 3)]) (σ' := σ) rfl ?_
            refine am_top (v' := nI s) a3 ?_
            refine am_reti rfl rfl ?_
            show am_G _ M_X9_would _ 48 [some (.ref 41), some (.int (nI 0)), some (.int (nI u)), some (.int (nI 0)), some (.ref 73)] [.int (nI s), .ref (σ.2 73 1), .ref 77] σ
            refine am_run 1 (pc' := 49) (ls' := [some (.ref 41), some (.int (nI 0)), some (.int (nI u)), some (.int (nI 0)), some (.ref 73)]) (st' := [.int (nI u), .int (nI s), .ref (σ.2 73 1), .ref 77]) (σ' := σ) rfl ?_
            refine am_invv (y := 56) (b := 77) (as := [.ref (σ.2 73 1), .int (nI s), .int (nI u)]) (rest := []) rfl rfl rfl rfl rfl rfl rfl (Nat.le_of_ble_eq_true rfl) ?_
            refine c_determine (by omega) hW hR (show r + 1 ≤ n by omega) hro (Or.inl rfl) hs hu (fun σ2 hK hO => ?_)
            rw [hz] at hO
            obtain ⟨o0, o1, o2, o3, o4⟩ : σ2.1 77 0 = nI (P + 256 * A) ∧ σ2.1 77 1 = nI 0 ∧ σ2.1 77 2 = nI c ∧ σ2.1 77 3 = nI nx ∧ σ2.1 77 4 = nI rd := hO
            have hM2 := hM.keep2 (σ' := σ2) (fun c a => hK.1 c (by omega))
            have b32 : σ2.1 17 0 = nI s := by rw [hK.1 17 (by decide)]; exact b3
            have hn22 : σ2.1 2 0 = nI n := hM2.1.2.2.2.1
            show am_G _ M_X9_would _ 52 [some (.ref 41), some (.int (nI 0)), some (.int (nI u)), some (.int (nI 0)), some (.ref 73)] [] σ2
            refine am_run 2 (pc' := 54) (ls' := [some (.ref 41), some (.int (nI 0)), some (.int (nI u)), some (.int (nI 0)), some (.ref 73)]) (st' := [.int (nI 1), .int (nI 0)]) (σ' := σ2) rfl ?_
            refine am_ic (ty := 57) (tn := 65) rfl (by decide) rfl rfl (fun (h_6 : nI 0 = nI 1) => ?_) (fun (h_6 : ¬ (nI 0 = nI 1)) => ?_)
            · exact absurd h_6 (by decide)
            refine am_run 2 (pc' := 67) (ls' := [some (.ref 41), some (.int (nI 0)), some (.int (nI u)), some (.int (nI 0)), some (.ref 73)]) (st' := [.int (nI 4), .int (nI 0)]) (σ' := σ2) rfl ?_
            refine am_ic (ty := 70) (tn := 78) rfl (by decide) rfl rfl (fun (h_7 : nI 0 = nI 4) => ?_) (fun (h_7 : ¬ (nI 0 = nI 4)) => ?_)
            · exact absurd h_7 (by decide)
            refine am_run 2 (pc' := 82) (ls' := [some (.ref 41), some (.int (nI 0)), some (.int (nI u)), some (.int (nI 0)), some (.ref 73)]) (st' := [.ref 77]) (σ' := σ2) rfl ?_
            refine am_invv (y := 52) (b := 77) (as := []) (rest := []) rfl rfl rfl rfl rfl rfl rfl (Nat.le_of_ble_eq_true rfl) ?_
            refine am_enter' rfl rfl rfl (by omega) (ls := [some (.ref 77)]) rfl (fun d_8 hd_8 => ?_)
            refine am_run 2 (pc' := 4) (ls' := [some (.ref 77)]) (st' := [.int (σ2.1 77 1)]) (σ' := σ2) rfl ?_
            refine am_top (v' := nI 0) o1 ?_
            refine am_if (ty := 11) (tn := 7) rfl (by decide) rfl rfl (fun (h_9 : nI 0 = 0) => ?_) (fun (h_9 : ¬ (nI 0 = 0)) => ?_)
            rotate_left
            · exact absurd (by decide) h_9
            refine am_run 1 (pc' := 12) (ls' := [some (.ref 77)]) (st' := [.int (nI 0)]) (σ' := σ2) rfl ?_
            refine am_retz rfl rfl (by decide) ?_
            show am_G _ M_X9_would _ 85 [some (.ref 41), some (.int (nI 0)), some (.int (nI u)), some (.int (nI 0)), some (.ref 73)] [.int (nI 0)] σ2
            refine am_if (ty := 91) (tn := 88) rfl (by decide) rfl rfl (fun (h_10 : nI 0 = 0) => ?_) (fun (h_10 : ¬ (nI 0 = 0)) => ?_)
            rotate_left
            · exact absurd (by decide) h_10
            refine am_run 1 (pc' := 92) (ls' := [some (.ref 41), some (.int (nI 0)), some (.int (nI u)), some (.int (nI 0)), some (.ref 73)]) (st' := [.int (nI 0)]) (σ' := σ2) rfl ?_
            refine am_if (ty := 95) (tn := 103) rfl (by decide) rfl rfl (fun (h_11 : nI 0 = 0) => ?_) (fun (h_11 : ¬ (nI 0 = 0)) => ?_)
            rotate_left
            · exact absurd (by decide) h_11
            refine am_run 2 (pc' := 99) (ls' := [some (.ref 41), some (.int (nI 0)), some (.int (nI u)), some (.int (nI 0)), some (.ref 73)]) (st' := [.ref 77]) (σ' := σ2) rfl ?_
            refine am_invv (y := 50) (b := 77) (as := []) (rest := []) rfl rfl rfl rfl rfl rfl rfl (Nat.le_of_ble_eq_true rfl) ?_
            refine c_o_present (by omega) (Or.inl rfl) b1 o0 ?_
            show am_G _ M_X9_would _ 102 [some (.ref 41), some (.int (nI 0)), some (.int (nI u)), some (.int (nI 0)), some (.ref 73)] [.int (nI P)] σ2
            refine am_reti rfl rfl ?_
            refine ⟨rfl, ?_⟩
            refine am_enter' (M := M_X10_would) rfl rfl rfl (by omega) (ls := [some (.ref 0), some (.int (nI 0)), some (.int (nI u)), some (.int (nI 0)), none]) rfl (fun d2 hd2 => ?_)
            refine am_run 2 (pc' := 2) (ls' := [some (.ref 0), some (.int (nI 0)), some (.int (nI u)), some (.int (nI 0)), none]) (st' := [.int (nI 0), .ref 0]) (σ' := σ2) rfl ?_
            refine am_invv (y := 151) (b := 0) (as := [.int (nI 0)]) (rest := []) rfl rfl rfl rfl rfl rfl rfl (Nat.le_of_ble_eq_true rfl) ?_
            refine c_prog0_1 (by omega) (n := n) (by exact hn22) hn1 hn60 ?_
            show am_G _ M_X10_would _ 5 [some (.ref 0), some (.int (nI 0)), some (.int (nI u)), some (.int (nI 0)), none] [.int (nI 1)] σ2
            refine am_if (ty := 8) (tn := 11) rfl (by decide) rfl rfl (fun (h_101 : nI 1 = 0) => ?_) (fun (h_101 : ¬ (nI 1 = 0)) => ?_)
            · exact absurd h_101 (by decide)
            refine am_run 3 (pc' := 16) (ls' := [some (.ref 0), some (.int (nI 0)), some (.int (nI u)), some (.int (nI 0)), none]) (st' := [.int (nI 255), .int (nI 0), .int (nI u)]) (σ' := σ2) rfl ?_
            refine am_invs (y := 148) (as := [.int (nI u), .int (nI 0), .int (nI 255)]) (rest := []) rfl rfl rfl rfl rfl rfl (Nat.le_of_ble_eq_true rfl) ?_
            refine c_in1 (by omega) (by omega) (by omega) (by omega) ?_
            show am_G _ M_X10_would _ 19 [some (.ref 0), some (.int (nI 0)), some (.int (nI u)), some (.int (nI 0)), none] [.int (nI 1)] σ2
            refine am_if (ty := 31) (tn := 22) rfl (by decide) rfl rfl (fun (h_102 : nI 1 = 0) => ?_) (fun (h_102 : ¬ (nI 1 = 0)) => ?_)
            · exact absurd h_102 (by decide)
            refine am_run 3 (pc' := 25) (ls' := [some (.ref 0), some (.int (nI 0)), some (.int (nI u)), some (.int (nI 0)), none]) (st' := [.int (nI 4), .int (nI 0), .int (nI 0)]) (σ' := σ2) rfl ?_
            refine am_invs (y := 148) (as := [.int (nI 0), .int (nI 0), .int (nI 4)]) (rest := []) rfl rfl rfl rfl rfl rfl (Nat.le_of_ble_eq_true rfl) ?_
            refine c_in1 (by omega) (by omega) (by omega) (by omega) ?_
            show am_G _ M_X10_would _ 28 [some (.ref 0), some (.int (nI 0)), some (.int (nI u)), some (.int (nI 0)), none] [.int (nI 1)] σ2
            refine am_if (ty := 31) (tn := 34) rfl (by decide) rfl rfl (fun (h_103 : nI 1 = 0) => ?_) (fun (h_103 : ¬ (nI 1 = 0)) => ?_)
            · exact absurd h_103 (by decide)
            refine am_run 5 (pc' := 41) (ls' := [some (.ref 0), some (.int (nI 0)), some (.int (nI u)), some (.int (nI 0)), none]) (st' := [.int (nI 0), .ref 17, .int (nI 0), .ref 0]) (σ' := σ2) rfl ?_
            refine am_ialdN (n := 2) (v := nI s) rfl rfl rfl (by decide) b32 (by decide) ?_
            refine am_run 1 (pc' := 43) (ls' := [some (.ref 0), some (.int (nI 0)), some (.int (nI u)), some (.int (nI 0)), none]) (st' := [.int (nI u), .int (nI s), .int (nI 0), .ref 0]) (σ' := σ2) rfl ?_
            refine am_invv (y := 229) (b := 0) (as := [.int (nI 0), .int (nI s), .int (nI u)]) (rest := []) rfl rfl rfl rfl rfl rfl rfl (Nat.le_of_ble_eq_true rfl) ?_
            refine c_settles1 (by omega) hM2 hs hv.2 hu hz (fun σ3 hS i38 i39 i40 i41 i42 i43 i44 i29 => ?_)
            show am_G _ M_X10_would _ 46 [some (.ref 0), some (.int (nI 0)), some (.int (nI u)), some (.int (nI 0)), none] [.int (nI 1)] σ3
            refine am_run 3 (pc' := 50) (ls' := [some (.ref 0), some (.int (nI 0)), some (.int (nI u)), some (.int (nI 0)), some (.int (nI 1))]) (st' := [.int (nI 1), .int (nI 0)]) (σ' := σ3) rfl ?_
            refine am_ic (ty := 53) (tn := 58) rfl (by decide) rfl rfl (fun (h_104 : nI 0 = nI 1) => ?_) (fun (h_104 : ¬ (nI 0 = nI 1)) => ?_)
            · exact absurd h_104 (by decide)
            refine am_run 2 (pc' := 60) (ls' := [some (.ref 0), some (.int (nI 0)), some (.int (nI u)), some (.int (nI 0)), some (.int (nI 1))]) (st' := [.int (nI 4), .int (nI 0)]) (σ' := σ3) rfl ?_
            refine am_ic (ty := 63) (tn := 68) rfl (by decide) rfl rfl (fun (h_105 : nI 0 = nI 4) => ?_) (fun (h_105 : ¬ (nI 0 = nI 4)) => ?_)
            · exact absurd h_105 (by decide)
            refine am_run 1 (pc' := 70) (ls' := [some (.ref 0), some (.int (nI 0)), some (.int (nI u)), some (.int (nI 0)), some (.int (nI 1))]) (st' := [.int (nI 1)]) (σ' := σ3) rfl ?_
            refine am_if (ty := 73) (tn := 77) rfl (by decide) rfl rfl (fun (h_106 : nI 1 = 0) => ?_) (fun (h_106 : ¬ (nI 1 = 0)) => ?_)
            · exact absurd h_106 (by decide)
            refine am_run 1 (pc' := 78) (ls' := [some (.ref 0), some (.int (nI 0)), some (.int (nI u)), some (.int (nI 0)), some (.int (nI 1))]) (st' := [.int (nI 0)]) (σ' := σ3) rfl ?_
            refine am_if (ty := 81) (tn := 88) rfl (by decide) rfl rfl (fun (h_107 : nI 0 = 0) => ?_) (fun (h_107 : ¬ (nI 0 = 0)) => ?_)
            rotate_left
            · exact absurd (by decide) h_107
            refine am_run 2 (pc' := 85) (ls' := [some (.ref 0), some (.int (nI 0)), some (.int (nI u)), some (.int (nI 0)), some (.int (nI 1))]) (st' := [.int (σ3.1 0 42)]) (σ' := σ3) rfl ?_
            refine am_top (v' := nI P) i42 ?_
            refine am_run 1 (pc' := 104) (ls' := [some (.ref 0), some (.int (nI 0)), some (.int (nI u)), some (.int (nI 0)), some (.int (nI 1))]) (st' := [.int (nI P)]) (σ' := σ3) rfl ?_
            refine am_reti rfl rfl ?_
            exact ⟨rfl, ((hK.KI (Or.inl rfl)).tr hS.KI).inv hI⟩
          · skip
            refine ⟨-1000003, ?_⟩
            refine am_enter' (M := M_X9_would) rfl rfl rfl (by omega) (ls := [some (.ref 41), some (.int (nI 0)), some (.int (nI u)), some (.int (nI 0)), none]) rfl (fun d' hd' => ?_)
            refine am_run 2 (pc' := 2) (ls' := [some (.ref 41), some (.int (nI 0)), some (.int (nI u)), some (.int (nI 0)), none]) (st' := [.int (nI 0), .ref 41]) (σ' := σ) rfl ?_
            refine am_invv (y := 140) (b := 41) (as := [.int (nI 0)]) (rest := []) rfl rfl rfl rfl rfl rfl rfl (Nat.le_of_ble_eq_true rfl) ?_
            refine c_filled0_1 (by omega) hf ?_
            show am_G _ M_X9_would _ 5 [some (.ref 41), some (.int (nI 0)), some (.int (nI u)), some (.int (nI 0)), none] [.ref 73] σ
            refine am_run 4 (pc' := 16) (ls' := [some (.ref 41), some (.int (nI 0)), some (.int (nI u)), some (.int (nI 0)), some (.ref 73)]) (st' := [.int (nI u)]) (σ' := σ) rfl ?_
            refine am_invs (y := 141) (as := [.int (nI u)]) (rest := []) rfl rfl rfl rfl rfl rfl (Nat.le_of_ble_eq_true rfl) ?_
            refine c_sig1 (by omega) (by omega) ?_
            show am_G _ M_X9_would _ 19 [some (.ref 41), some (.int (nI 0)), some (.int (nI u)), some (.int (nI 0)), some (.ref 73)] [.int (nI 1)] σ
            refine am_if (ty := 31) (tn := 22) rfl (by decide) rfl rfl (fun (h_1 : nI 1 = 0) => ?_) (fun (h_1 : ¬ (nI 1 = 0)) => ?_)
            · exact absurd h_1 (by decide)
            refine am_run 1 (pc' := 23) (ls' := [some (.ref 41), some (.int (nI 0)), some (.int (nI u)), some (.int (nI 0)), some (.ref 73)]) (st' := [.int (nI 0)]) (σ' := σ) rfl ?_
            refine am_if (ty := 31) (tn := 26) rfl (by decide) rfl rfl (fun (h_2 : nI 0 < 0) => ?_) (fun (h_2 : ¬ (nI 0 < 0)) => ?_)
            · exact absurd h_2 (by decide)
            refine am_run 2 (pc' := 28) (ls' := [some (.ref 41), some (.int (nI 0)), some (.int (nI u)), some (.int (nI 0)), some (.ref 73)]) (st' := [.int (nI 4), .int (nI 0)]) (σ' := σ) rfl ?_
            refine am_ic (ty := 31) (tn := 34) rfl (by decide) rfl rfl (fun (h_3 : nI 4 < nI 0) => ?_) (fun (h_3 : ¬ (nI 4 < nI 0)) => ?_)
            · exact absurd h_3 (by decide)
            refine am_run 3 (pc' := 40) (ls' := [some (.ref 41), some (.int (nI 0)), some (.int (nI u)), some (.int (nI 0)), some (.ref 73)]) (st' := [.ref 73, .ref 77]) (σ' := σ) rfl ?_
            refine am_invv (y := 66) (b := 73) (as := []) (rest := [.ref 77]) rfl rfl rfl rfl rfl rfl rfl (Nat.le_of_ble_eq_true rfl) ?_
            refine am_enter' rfl rfl rfl (by omega) (ls := [some (.ref 73)]) rfl (fun d_4 hd_4 => ?_)
            refine am_run 2 (pc' := 4) (ls' := [some (.ref 73)]) (st' := [.ref (σ.2 73 1)]) (σ' := σ) rfl ?_
            refine am_reta rfl rfl (Or.inr ⟨_, rfl⟩) ?_
            show am_G _ M_X9_would _ 43 [some (.ref 41), some (.int (nI 0)), some (.int (nI u)), some (.int (nI 0)), some (.ref 73)] [.ref (σ.2 73 1), .ref 77] σ
            refine am_run 1 (pc' := 45) (ls' := [some (.ref 41), some (.int (nI 0)), some (.int (nI u)), some (.int (nI 0)), some (.ref 73)]) (st' := [.ref 73, .ref (σ.2 73 1), .ref 77]) (σ' := σ) rfl ?_
            refine am_invv (y := 67) (b := 73) (as := []) (rest := [.ref (σ.2 73 1), .ref 77]) rfl rfl rfl rfl rfl rfl rfl (Nat.le_of_ble_eq_true rfl) ?_
            refine am_enter' rfl rfl rfl (by omega) (ls := [some (.ref 73)]) rfl (fun d_5 hd_5 => ?_)
            refine am_run 2 (pc' := 4) (ls' := [some (.ref 73)]) (st' := [.int (σ.1 73 3)]) (σ' := σ) rfl ?_
            refine am_top (v' := nI s) a3 ?_
            refine am_reti rfl rfl ?_
            show am_G _ M_X9_would _ 48 [some (.ref 41), some (.int (nI 0)), some (.int (nI u)), some (.int (nI 0)), some (.ref 73)] [.int (nI s), .ref (σ.2 73 1), .ref 77] σ
            refine am_run 1 (pc' := 49) (ls' := [some (.ref 41), some (.int (nI 0)), some (.int (nI u)), some (.int (nI 0)), some (.ref 73)]) (st' := [.int (nI u), .int (nI s), .ref (σ.2 73 1), .ref 77]) (σ' := σ) rfl ?_
            refine am_invv (y := 56) (b := 77) (as := [.ref (σ.2 73 1), .int (nI s), .int (nI u)]) (rest := []) rfl rfl rfl rfl rfl rfl rfl (Nat.le_of_ble_eq_true rfl) ?_
            refine c_determine (by omega) hW hR (show r + 1 ≤ n by omega) hro (Or.inl rfl) hs hu (fun σ2 hK hO => ?_)
            rw [hz] at hO
            obtain ⟨o0, o1, o2, o3, o4⟩ : σ2.1 77 0 = nI (P + 256 * A) ∧ σ2.1 77 1 = nI w ∧ σ2.1 77 2 = nI c ∧ σ2.1 77 3 = nI nx ∧ σ2.1 77 4 = nI rd := hO
            have hM2 := hM.keep2 (σ' := σ2) (fun c a => hK.1 c (by omega))
            have b32 : σ2.1 17 0 = nI s := by rw [hK.1 17 (by decide)]; exact b3
            have hn22 : σ2.1 2 0 = nI n := hM2.1.2.2.2.1
            show am_G _ M_X9_would _ 52 [some (.ref 41), some (.int (nI 0)), some (.int (nI u)), some (.int (nI 0)), some (.ref 73)] [] σ2
            refine am_run 2 (pc' := 54) (ls' := [some (.ref 41), some (.int (nI 0)), some (.int (nI u)), some (.int (nI 0)), some (.ref 73)]) (st' := [.int (nI 1), .int (nI 0)]) (σ' := σ2) rfl ?_
            refine am_ic (ty := 57) (tn := 65) rfl (by decide) rfl rfl (fun (h_6 : nI 0 = nI 1) => ?_) (fun (h_6 : ¬ (nI 0 = nI 1)) => ?_)
            · exact absurd h_6 (by decide)
            refine am_run 2 (pc' := 67) (ls' := [some (.ref 41), some (.int (nI 0)), some (.int (nI u)), some (.int (nI 0)), some (.ref 73)]) (st' := [.int (nI 4), .int (nI 0)]) (σ' := σ2) rfl ?_
            refine am_ic (ty := 70) (tn := 78) rfl (by decide) rfl rfl (fun (h_7 : nI 0 = nI 4) => ?_) (fun (h_7 : ¬ (nI 0 = nI 4)) => ?_)
            · exact absurd h_7 (by decide)
            refine am_run 2 (pc' := 82) (ls' := [some (.ref 41), some (.int (nI 0)), some (.int (nI u)), some (.int (nI 0)), some (.ref 73)]) (st' := [.ref 77]) (σ' := σ2) rfl ?_
            refine am_invv (y := 52) (b := 77) (as := []) (rest := []) rfl rfl rfl rfl rfl rfl rfl (Nat.le_of_ble_eq_true rfl) ?_
            refine am_enter' rfl rfl rfl (by omega) (ls := [some (.ref 77)]) rfl (fun d_8 hd_8 => ?_)
            refine am_run 2 (pc' := 4) (ls' := [some (.ref 77)]) (st' := [.int (σ2.1 77 1)]) (σ' := σ2) rfl ?_
            refine am_top (v' := nI w) o1 ?_
            refine am_if (ty := 11) (tn := 7) rfl (by decide) rfl rfl (fun (h_9 : nI w = 0) => ?_) (fun (h_9 : ¬ (nI w = 0)) => ?_)
            · have h_9 : w = 0 := (am_n0 (by omega)).mp h_9
              omega
            have h_9 : ¬ (w = 0) := fun z => h_9 ((am_n0 (by omega)).mpr z)
            refine am_run 2 (pc' := 12) (ls' := [some (.ref 77)]) (st' := [.int (nI 1)]) (σ' := σ2) rfl ?_
            refine am_retz rfl rfl (by decide) ?_
            show am_G _ M_X9_would _ 85 [some (.ref 41), some (.int (nI 0)), some (.int (nI u)), some (.int (nI 0)), some (.ref 73)] [.int (nI 1)] σ2
            refine am_if (ty := 91) (tn := 88) rfl (by decide) rfl rfl (fun (h_10 : nI 1 = 0) => ?_) (fun (h_10 : ¬ (nI 1 = 0)) => ?_)
            · exact absurd h_10 (by decide)
            refine am_run 1 (pc' := 90) (ls' := [some (.ref 41), some (.int (nI 0)), some (.int (nI u)), some (.int (nI 0)), some (.ref 73)]) (st' := [.int (-1000003)]) (σ' := σ2) rfl ?_
            refine am_reti rfl rfl ?_
            refine ⟨rfl, ?_⟩
            refine am_enter' (M := M_X10_would) rfl rfl rfl (by omega) (ls := [some (.ref 0), some (.int (nI 0)), some (.int (nI u)), some (.int (nI 0)), none]) rfl (fun d2 hd2 => ?_)
            refine am_run 2 (pc' := 2) (ls' := [some (.ref 0), some (.int (nI 0)), some (.int (nI u)), some (.int (nI 0)), none]) (st' := [.int (nI 0), .ref 0]) (σ' := σ2) rfl ?_
            refine am_invv (y := 151) (b := 0) (as := [.int (nI 0)]) (rest := []) rfl rfl rfl rfl rfl rfl rfl (Nat.le_of_ble_eq_true rfl) ?_
            refine c_prog0_1 (by omega) (n := n) (by exact hn22) hn1 hn60 ?_
            show am_G _ M_X10_would _ 5 [some (.ref 0), some (.int (nI 0)), some (.int (nI u)), some (.int (nI 0)), none] [.int (nI 1)] σ2
            refine am_if (ty := 8) (tn := 11) rfl (by decide) rfl rfl (fun (h_101 : nI 1 = 0) => ?_) (fun (h_101 : ¬ (nI 1 = 0)) => ?_)
            · exact absurd h_101 (by decide)
            refine am_run 3 (pc' := 16) (ls' := [some (.ref 0), some (.int (nI 0)), some (.int (nI u)), some (.int (nI 0)), none]) (st' := [.int (nI 255), .int (nI 0), .int (nI u)]) (σ' := σ2) rfl ?_
            refine am_invs (y := 148) (as := [.int (nI u), .int (nI 0), .int (nI 255)]) (rest := []) rfl rfl rfl rfl rfl rfl (Nat.le_of_ble_eq_true rfl) ?_
            refine c_in1 (by omega) (by omega) (by omega) (by omega) ?_
            show am_G _ M_X10_would _ 19 [some (.ref 0), some (.int (nI 0)), some (.int (nI u)), some (.int (nI 0)), none] [.int (nI 1)] σ2
            refine am_if (ty := 31) (tn := 22) rfl (by decide) rfl rfl (fun (h_102 : nI 1 = 0) => ?_) (fun (h_102 : ¬ (nI 1 = 0)) => ?_)
            · exact absurd h_102 (by decide)
            refine am_run 3 (pc' := 25) (ls' := [some (.ref 0), some (.int (nI 0)), some (.int (nI u)), some (.int (nI 0)), none]) (st' := [.int (nI 4), .int (nI 0), .int (nI 0)]) (σ' := σ2) rfl ?_
            refine am_invs (y := 148) (as := [.int (nI 0), .int (nI 0), .int (nI 4)]) (rest := []) rfl rfl rfl rfl rfl rfl (Nat.le_of_ble_eq_true rfl) ?_
            refine c_in1 (by omega) (by omega) (by omega) (by omega) ?_
            show am_G _ M_X10_would _ 28 [some (.ref 0), some (.int (nI 0)), some (.int (nI u)), some (.int (nI 0)), none] [.int (nI 1)] σ2
            refine am_if (ty := 31) (tn := 34) rfl (by decide) rfl rfl (fun (h_103 : nI 1 = 0) => ?_) (fun (h_103 : ¬ (nI 1 = 0)) => ?_)
            · exact absurd h_103 (by decide)
            refine am_run 5 (pc' := 41) (ls' := [some (.ref 0), some (.int (nI 0)), some (.int (nI u)), some (.int (nI 0)), none]) (st' := [.int (nI 0), .ref 17, .int (nI 0), .ref 0]) (σ' := σ2) rfl ?_
            refine am_ialdN (n := 2) (v := nI s) rfl rfl rfl (by decide) b32 (by decide) ?_
            refine am_run 1 (pc' := 43) (ls' := [some (.ref 0), some (.int (nI 0)), some (.int (nI u)), some (.int (nI 0)), none]) (st' := [.int (nI u), .int (nI s), .int (nI 0), .ref 0]) (σ' := σ2) rfl ?_
            refine am_invv (y := 229) (b := 0) (as := [.int (nI 0), .int (nI s), .int (nI u)]) (rest := []) rfl rfl rfl rfl rfl rfl rfl (Nat.le_of_ble_eq_true rfl) ?_
            refine c_settles0 (by omega) hM2 hs hv.2 hu hz hw0 (fun σ3 hS i38 i39 i40 i41 i29 => ?_)
            show am_G _ M_X10_would _ 46 [some (.ref 0), some (.int (nI 0)), some (.int (nI u)), some (.int (nI 0)), none] [.int (nI 0)] σ3
            refine am_run 3 (pc' := 50) (ls' := [some (.ref 0), some (.int (nI 0)), some (.int (nI u)), some (.int (nI 0)), some (.int (nI 0))]) (st' := [.int (nI 1), .int (nI 0)]) (σ' := σ3) rfl ?_
            refine am_ic (ty := 53) (tn := 58) rfl (by decide) rfl rfl (fun (h_104 : nI 0 = nI 1) => ?_) (fun (h_104 : ¬ (nI 0 = nI 1)) => ?_)
            · exact absurd h_104 (by decide)
            refine am_run 2 (pc' := 60) (ls' := [some (.ref 0), some (.int (nI 0)), some (.int (nI u)), some (.int (nI 0)), some (.int (nI 0))]) (st' := [.int (nI 4), .int (nI 0)]) (σ' := σ3) rfl ?_
            refine am_ic (ty := 63) (tn := 68) rfl (by decide) rfl rfl (fun (h_105 : nI 0 = nI 4) => ?_) (fun (h_105 : ¬ (nI 0 = nI 4)) => ?_)
            · exact absurd h_105 (by decide)
            refine am_run 1 (pc' := 70) (ls' := [some (.ref 0), some (.int (nI 0)), some (.int (nI u)), some (.int (nI 0)), some (.int (nI 0))]) (st' := [.int (nI 0)]) (σ' := σ3) rfl ?_
            refine am_if (ty := 73) (tn := 77) rfl (by decide) rfl rfl (fun (h_106 : nI 0 = 0) => ?_) (fun (h_106 : ¬ (nI 0 = 0)) => ?_)
            rotate_left
            · exact absurd (by decide) h_106
            refine am_run 1 (pc' := 76) (ls' := [some (.ref 0), some (.int (nI 0)), some (.int (nI u)), some (.int (nI 0)), some (.int (nI 0))]) (st' := [.int (-1000003)]) (σ' := σ3) rfl ?_
            refine am_reti rfl rfl ?_
            exact ⟨rfl, ((hK.KI (Or.inl rfl)).tr hS.KI).inv hI⟩
        · by_cases hw0 : w = 0
          · subst hw0
            refine ⟨nI 0, ?_⟩
            refine am_enter' (M := M_X9_would) rfl rfl rfl (by omega) (ls := [some (.ref 41), some (.int (nI 0)), some (.int (nI u)), some (.int (nI 1)), none]) rfl (fun d' hd' => ?_)
            refine am_run 2 (pc' := 2) (ls' := [some (.ref 41), some (.int (nI 0)), some (.int (nI u)), some (.int (nI 1)), none]) (st' := [.int (nI 0), .ref 41]) (σ' := σ) rfl ?_
            refine am_invv (y := 140) (b := 41) (as := [.int (nI 0)]) (rest := []) rfl rfl rfl rfl rfl rfl rfl (Nat.le_of_ble_eq_true rfl) ?_
            refine c_filled0_1 (by omega) hf ?_
            show am_G _ M_X9_would _ 5 [some (.ref 41), some (.int (nI 0)), some (.int (nI u)), some (.int (nI 1)), none] [.ref 73] σ
            refine am_run 4 (pc' := 16) (ls' := [some (.ref 41), some (.int (nI 0)), some (.int (nI u)), some (.int (nI 1)), some (.ref 73)]) (st' := [.int (nI u)]) (σ' := σ) rfl ?_
            refine am_invs (y := 141) (as := [.int (nI u)]) (rest := []) rfl rfl rfl rfl rfl rfl (Nat.le_of_ble_eq_true rfl) ?_
            refine c_sig1 (by omega) (by omega) ?_
            show am_G _ M_X9_would _ 19 [some (.ref 41), some (.int (nI 0)), some (.int (nI u)), some (.int (nI 1)), some (.ref 73)] [.int (nI 1)] σ
            refine am_if (ty := 31) (tn := 22) rfl (by decide) rfl rfl (fun (h_1 : nI 1 = 0) => ?_) (fun (h_1 : ¬ (nI 1 = 0)) => ?_)
            · exact absurd h_1 (by decide)
            refine am_run 1 (pc' := 23) (ls' := [some (.ref 41), some (.int (nI 0)), some (.int (nI u)), some (.int (nI 1)), some (.ref 73)]) (st' := [.int (nI 1)]) (σ' := σ) rfl ?_
            refine am_if (ty := 31) (tn := 26) rfl (by decide) rfl rfl (fun (h_2 : nI 1 < 0) => ?_) (fun (h_2 : ¬ (nI 1 < 0)) => ?_)
            · exact absurd h_2 (by decide)
            refine am_run 2 (pc' := 28) (ls' := [some (.ref 41), some (.int (nI 0)), some (.int (nI u)), some (.int (nI 1)), some (.ref 73)]) (st' := [.int (nI 4), .int (nI 1)]) (σ' := σ) rfl ?_
            refine am_ic (ty := 31) (tn := 34) rfl (by decide) rfl rfl (fun (h_3 : nI 4 < nI 1) => ?_) (fun (h_3 : ¬ (nI 4 < nI 1)) => ?_)
            · exact absurd h_3 (by decide)
            refine am_run 3 (pc' := 40) (ls' := [some (.ref 41), some (.int (nI 0)), some (.int (nI u)), some (.int (nI 1)), some (.ref 73)]) (st' := [.ref 73, .ref 77]) (σ' := σ) rfl ?_
            refine am_invv (y := 66) (b := 73) (as := []) (rest := [.ref 77]) rfl rfl rfl rfl rfl rfl rfl (Nat.le_of_ble_eq_true rfl) ?_
            refine am_enter' rfl rfl rfl (by omega) (ls := [some (.ref 73)]) rfl (fun d_4 hd_4 => ?_)
            refine am_run 2 (pc' := 4) (ls' := [some (.ref 73)]) (st' := [.ref (σ.2 73 1)]) (σ' := σ) rfl ?_
            refine am_reta rfl rfl (Or.inr ⟨_, rfl⟩) ?_
            show am_G _ M_X9_would _ 43 [some (.ref 41), some (.int (nI 0)), some (.int (nI u)), some (.int (nI 1)), some (.ref 73)] [.ref (σ.2 73 1), .ref 77] σ
            refine am_run 1 (pc' := 45) (ls' := [some (.ref 41), some (.int (nI 0)), some (.int (nI u)), some (.int (nI 1)), some (.ref 73)]) (st' := [.ref 73, .ref (σ.2 73 1), .ref 77]) (σ' := σ) rfl ?_
            refine am_invv (y := 67) (b := 73) (as := []) (rest := [.ref (σ.2 73 1), .ref 77]) rfl rfl rfl rfl rfl rfl rfl (Nat.le_of_ble_eq_true rfl) ?_
            refine am_enter' rfl rfl rfl (by omega) (ls := [some (.ref 73)]) rfl (fun d_5 hd_5 => ?_)
            refine am_run 2 (pc' := 4) (ls' := [some (.ref 73)]) (st' := [.int (σ.1 73 3)]) (σ' := σ) rfl ?_
            refine am_top (v' := nI s) a3 ?_
            refine am_reti rfl rfl ?_
            show am_G _ M_X9_would _ 48 [some (.ref 41), some (.int (nI 0)), some (.int (nI u)), some (.int (nI 1)), some (.ref 73)] [.int (nI s), .ref (σ.2 73 1), .ref 77] σ
            refine am_run 1 (pc' := 49) (ls' := [some (.ref 41), some (.int (nI 0)), some (.int (nI u)), some (.int (nI 1)), some (.ref 73)]) (st' := [.int (nI u), .int (nI s), .ref (σ.2 73 1), .ref 77]) (σ' := σ) rfl ?_
            refine am_invv (y := 56) (b := 77) (as := [.ref (σ.2 73 1), .int (nI s), .int (nI u)]) (rest := []) rfl rfl rfl rfl rfl rfl rfl (Nat.le_of_ble_eq_true rfl) ?_
            refine c_determine (by omega) hW hR (show r + 1 ≤ n by omega) hro (Or.inl rfl) hs hu (fun σ2 hK hO => ?_)
            rw [hz] at hO
            obtain ⟨o0, o1, o2, o3, o4⟩ : σ2.1 77 0 = nI (P + 256 * A) ∧ σ2.1 77 1 = nI 0 ∧ σ2.1 77 2 = nI c ∧ σ2.1 77 3 = nI nx ∧ σ2.1 77 4 = nI rd := hO
            have hM2 := hM.keep2 (σ' := σ2) (fun c a => hK.1 c (by omega))
            have b32 : σ2.1 17 0 = nI s := by rw [hK.1 17 (by decide)]; exact b3
            have hn22 : σ2.1 2 0 = nI n := hM2.1.2.2.2.1
            show am_G _ M_X9_would _ 52 [some (.ref 41), some (.int (nI 0)), some (.int (nI u)), some (.int (nI 1)), some (.ref 73)] [] σ2
            refine am_run 2 (pc' := 54) (ls' := [some (.ref 41), some (.int (nI 0)), some (.int (nI u)), some (.int (nI 1)), some (.ref 73)]) (st' := [.int (nI 1), .int (nI 1)]) (σ' := σ2) rfl ?_
            refine am_ic (ty := 57) (tn := 65) rfl (by decide) rfl rfl (fun (h_6 : nI 1 = nI 1) => ?_) (fun (h_6 : ¬ (nI 1 = nI 1)) => ?_)
            rotate_left
            · exact absurd (by decide) h_6
            refine am_run 2 (pc' := 61) (ls' := [some (.ref 41), some (.int (nI 0)), some (.int (nI u)), some (.int (nI 1)), some (.ref 73)]) (st' := [.ref 77]) (σ' := σ2) rfl ?_
            refine am_invv (y := 51) (b := 77) (as := []) (rest := []) rfl rfl rfl rfl rfl rfl rfl (Nat.le_of_ble_eq_true rfl) ?_
            refine am_enter' rfl rfl rfl (by omega) (ls := [some (.ref 77)]) rfl (fun d_7 hd_7 => ?_)
            refine am_run 2 (pc' := 4) (ls' := [some (.ref 77)]) (st' := [.int (σ2.1 77 1)]) (σ' := σ2) rfl ?_
            refine am_top (v' := nI 0) o1 ?_
            refine am_reti rfl rfl ?_
            show am_G _ M_X9_would _ 64 [some (.ref 41), some (.int (nI 0)), some (.int (nI u)), some (.int (nI 1)), some (.ref 73)] [.int (nI 0)] σ2
            refine am_reti rfl rfl ?_
            refine ⟨rfl, ?_⟩
            refine am_enter' (M := M_X10_would) rfl rfl rfl (by omega) (ls := [some (.ref 0), some (.int (nI 0)), some (.int (nI u)), some (.int (nI 1)), none]) rfl (fun d2 hd2 => ?_)
            refine am_run 2 (pc' := 2) (ls' := [some (.ref 0), some (.int (nI 0)), some (.int (nI u)), some (.int (nI 1)), none]) (st' := [.int (nI 0), .ref 0]) (σ' := σ2) rfl ?_
            refine am_invv (y := 151) (b := 0) (as := [.int (nI 0)]) (rest := []) rfl rfl rfl rfl rfl rfl rfl (Nat.le_of_ble_eq_true rfl) ?_
            refine c_prog0_1 (by omega) (n := n) (by exact hn22) hn1 hn60 ?_
            show am_G _ M_X10_would _ 5 [some (.ref 0), some (.int (nI 0)), some (.int (nI u)), some (.int (nI 1)), none] [.int (nI 1)] σ2
            refine am_if (ty := 8) (tn := 11) rfl (by decide) rfl rfl (fun (h_101 : nI 1 = 0) => ?_) (fun (h_101 : ¬ (nI 1 = 0)) => ?_)
            · exact absurd h_101 (by decide)
            refine am_run 3 (pc' := 16) (ls' := [some (.ref 0), some (.int (nI 0)), some (.int (nI u)), some (.int (nI 1)), none]) (st' := [.int (nI 255), .int (nI 0), .int (nI u)]) (σ' := σ2) rfl ?_
            refine am_invs (y := 148) (as := [.int (nI u), .int (nI 0), .int (nI 255)]) (rest := []) rfl rfl rfl rfl rfl rfl (Nat.le_of_ble_eq_true rfl) ?_
            refine c_in1 (by omega) (by omega) (by omega) (by omega) ?_
            show am_G _ M_X10_would _ 19 [some (.ref 0), some (.int (nI 0)), some (.int (nI u)), some (.int (nI 1)), none] [.int (nI 1)] σ2
            refine am_if (ty := 31) (tn := 22) rfl (by decide) rfl rfl (fun (h_102 : nI 1 = 0) => ?_) (fun (h_102 : ¬ (nI 1 = 0)) => ?_)
            · exact absurd h_102 (by decide)
            refine am_run 3 (pc' := 25) (ls' := [some (.ref 0), some (.int (nI 0)), some (.int (nI u)), some (.int (nI 1)), none]) (st' := [.int (nI 4), .int (nI 0), .int (nI 1)]) (σ' := σ2) rfl ?_
            refine am_invs (y := 148) (as := [.int (nI 1), .int (nI 0), .int (nI 4)]) (rest := []) rfl rfl rfl rfl rfl rfl (Nat.le_of_ble_eq_true rfl) ?_
            refine c_in1 (by omega) (by omega) (by omega) (by omega) ?_
            show am_G _ M_X10_would _ 28 [some (.ref 0), some (.int (nI 0)), some (.int (nI u)), some (.int (nI 1)), none] [.int (nI 1)] σ2
            refine am_if (ty := 31) (tn := 34) rfl (by decide) rfl rfl (fun (h_103 : nI 1 = 0) => ?_) (fun (h_103 : ¬ (nI 1 = 0)) => ?_)
            · exact absurd h_103 (by decide)
            refine am_run 5 (pc' := 41) (ls' := [some (.ref 0), some (.int (nI 0)), some (.int (nI u)), some (.int (nI 1)), none]) (st' := [.int (nI 0), .ref 17, .int (nI 0), .ref 0]) (σ' := σ2) rfl ?_
            refine am_ialdN (n := 2) (v := nI s) rfl rfl rfl (by decide) b32 (by decide) ?_
            refine am_run 1 (pc' := 43) (ls' := [some (.ref 0), some (.int (nI 0)), some (.int (nI u)), some (.int (nI 1)), none]) (st' := [.int (nI u), .int (nI s), .int (nI 0), .ref 0]) (σ' := σ2) rfl ?_
            refine am_invv (y := 229) (b := 0) (as := [.int (nI 0), .int (nI s), .int (nI u)]) (rest := []) rfl rfl rfl rfl rfl rfl rfl (Nat.le_of_ble_eq_true rfl) ?_
            refine c_settles1 (by omega) hM2 hs hv.2 hu hz (fun σ3 hS i38 i39 i40 i41 i42 i43 i44 i29 => ?_)
            show am_G _ M_X10_would _ 46 [some (.ref 0), some (.int (nI 0)), some (.int (nI u)), some (.int (nI 1)), none] [.int (nI 1)] σ3
            refine am_run 3 (pc' := 50) (ls' := [some (.ref 0), some (.int (nI 0)), some (.int (nI u)), some (.int (nI 1)), some (.int (nI 1))]) (st' := [.int (nI 1), .int (nI 1)]) (σ' := σ3) rfl ?_
            refine am_ic (ty := 53) (tn := 58) rfl (by decide) rfl rfl (fun (h_104 : nI 1 = nI 1) => ?_) (fun (h_104 : ¬ (nI 1 = nI 1)) => ?_)
            rotate_left
            · exact absurd (by decide) h_104
            refine am_run 2 (pc' := 57) (ls' := [some (.ref 0), some (.int (nI 0)), some (.int (nI u)), some (.int (nI 1)), some (.int (nI 1))]) (st' := [.int (σ3.1 0 41)]) (σ' := σ3) rfl ?_
            refine am_top (v' := nI 0) i41 ?_
            refine am_reti rfl rfl ?_
            exact ⟨rfl, ((hK.KI (Or.inl rfl)).tr hS.KI).inv hI⟩
          · skip
            refine ⟨nI w, ?_⟩
            refine am_enter' (M := M_X9_would) rfl rfl rfl (by omega) (ls := [some (.ref 41), some (.int (nI 0)), some (.int (nI u)), some (.int (nI 1)), none]) rfl (fun d' hd' => ?_)
            refine am_run 2 (pc' := 2) (ls' := [some (.ref 41), some (.int (nI 0)), some (.int (nI u)), some (.int (nI 1)), none]) (st' := [.int (nI 0), .ref 41]) (σ' := σ) rfl ?_
            refine am_invv (y := 140) (b := 41) (as := [.int (nI 0)]) (rest := []) rfl rfl rfl rfl rfl rfl rfl (Nat.le_of_ble_eq_true rfl) ?_
            refine c_filled0_1 (by omega) hf ?_
            show am_G _ M_X9_would _ 5 [some (.ref 41), some (.int (nI 0)), some (.int (nI u)), some (.int (nI 1)), none] [.ref 73] σ
            refine am_run 4 (pc' := 16) (ls' := [some (.ref 41), some (.int (nI 0)), some (.int (nI u)), some (.int (nI 1)), some (.ref 73)]) (st' := [.int (nI u)]) (σ' := σ) rfl ?_
            refine am_invs (y := 141) (as := [.int (nI u)]) (rest := []) rfl rfl rfl rfl rfl rfl (Nat.le_of_ble_eq_true rfl) ?_
            refine c_sig1 (by omega) (by omega) ?_
            show am_G _ M_X9_would _ 19 [some (.ref 41), some (.int (nI 0)), some (.int (nI u)), some (.int (nI 1)), some (.ref 73)] [.int (nI 1)] σ
            refine am_if (ty := 31) (tn := 22) rfl (by decide) rfl rfl (fun (h_1 : nI 1 = 0) => ?_) (fun (h_1 : ¬ (nI 1 = 0)) => ?_)
            · exact absurd h_1 (by decide)
            refine am_run 1 (pc' := 23) (ls' := [some (.ref 41), some (.int (nI 0)), some (.int (nI u)), some (.int (nI 1)), some (.ref 73)]) (st' := [.int (nI 1)]) (σ' := σ) rfl ?_
            refine am_if (ty := 31) (tn := 26) rfl (by decide) rfl rfl (fun (h_2 : nI 1 < 0) => ?_) (fun (h_2 : ¬ (nI 1 < 0)) => ?_)
            · exact absurd h_2 (by decide)
            refine am_run 2 (pc' := 28) (ls' := [some (.ref 41), some (.int (nI 0)), some (.int (nI u)), some (.int (nI 1)), some (.ref 73)]) (st' := [.int (nI 4), .int (nI 1)]) (σ' := σ) rfl ?_
            refine am_ic (ty := 31) (tn := 34) rfl (by decide) rfl rfl (fun (h_3 : nI 4 < nI 1) => ?_) (fun (h_3 : ¬ (nI 4 < nI 1)) => ?_)
            · exact absurd h_3 (by decide)
            refine am_run 3 (pc' := 40) (ls' := [some (.ref 41), some (.int (nI 0)), some (.int (nI u)), some (.int (nI 1)), some (.ref 73)]) (st' := [.ref 73, .ref 77]) (σ' := σ) rfl ?_
            refine am_invv (y := 66) (b := 73) (as := []) (rest := [.ref 77]) rfl rfl rfl rfl rfl rfl rfl (Nat.le_of_ble_eq_true rfl) ?_
            refine am_enter' rfl rfl rfl (by omega) (ls := [some (.ref 73)]) rfl (fun d_4 hd_4 => ?_)
            refine am_run 2 (pc' := 4) (ls' := [some (.ref 73)]) (st' := [.ref (σ.2 73 1)]) (σ' := σ) rfl ?_
            refine am_reta rfl rfl (Or.inr ⟨_, rfl⟩) ?_
            show am_G _ M_X9_would _ 43 [some (.ref 41), some (.int (nI 0)), some (.int (nI u)), some (.int (nI 1)), some (.ref 73)] [.ref (σ.2 73 1), .ref 77] σ
            refine am_run 1 (pc' := 45) (ls' := [some (.ref 41), some (.int (nI 0)), some (.int (nI u)), some (.int (nI 1)), some (.ref 73)]) (st' := [.ref 73, .ref (σ.2 73 1), .ref 77]) (σ' := σ) rfl ?_
            refine am_invv (y := 67) (b := 73) (as := []) (rest := [.ref (σ.2 73 1), .ref 77]) rfl rfl rfl rfl rfl rfl rfl (Nat.le_of_ble_eq_true rfl) ?_
            refine am_enter' rfl rfl rfl (by omega) (ls := [some (.ref 73)]) rfl (fun d_5 hd_5 => ?_)
            refine am_run 2 (pc' := 4) (ls' := [some (.ref 73)]) (st' := [.int (σ.1 73 3)]) (σ' := σ) rfl ?_
            refine am_top (v' := nI s) a3 ?_
            refine am_reti rfl rfl ?_
            show am_G _ M_X9_would _ 48 [some (.ref 41), some (.int (nI 0)), some (.int (nI u)), some (.int (nI 1)), some (.ref 73)] [.int (nI s), .ref (σ.2 73 1), .ref 77] σ
            refine am_run 1 (pc' := 49) (ls' := [some (.ref 41), some (.int (nI 0)), some (.int (nI u)), some (.int (nI 1)), some (.ref 73)]) (st' := [.int (nI u), .int (nI s), .ref (σ.2 73 1), .ref 77]) (σ' := σ) rfl ?_
            refine am_invv (y := 56) (b := 77) (as := [.ref (σ.2 73 1), .int (nI s), .int (nI u)]) (rest := []) rfl rfl rfl rfl rfl rfl rfl (Nat.le_of_ble_eq_true rfl) ?_
            refine c_determine (by omega) hW hR (show r + 1 ≤ n by omega) hro (Or.inl rfl) hs hu (fun σ2 hK hO => ?_)
            rw [hz] at hO
            obtain ⟨o0, o1, o2, o3, o4⟩ : σ2.1 77 0 = nI (P + 256 * A) ∧ σ2.1 77 1 = nI w ∧ σ2.1 77 2 = nI c ∧ σ2.1 77 3 = nI nx ∧ σ2.1 77 4 = nI rd := hO
            have hM2 := hM.keep2 (σ' := σ2) (fun c a => hK.1 c (by omega))
            have b32 : σ2.1 17 0 = nI s := by rw [hK.1 17 (by decide)]; exact b3
            have hn22 : σ2.1 2 0 = nI n := hM2.1.2.2.2.1
            show am_G _ M_X9_would _ 52 [some (.ref 41), some (.int (nI 0)), some (.int (nI u)), some (.int (nI 1)), some (.ref 73)] [] σ2
            refine am_run 2 (pc' := 54) (ls' := [some (.ref 41), some (.int (nI 0)), some (.int (nI u)), some (.int (nI 1)), some (.ref 73)]) (st' := [.int (nI 1), .int (nI 1)]) (σ' := σ2) rfl ?_
            refine am_ic (ty := 57) (tn := 65) rfl (by decide) rfl rfl (fun (h_6 : nI 1 = nI 1) => ?_) (fun (h_6 : ¬ (nI 1 = nI 1)) => ?_)
            rotate_left
            · exact absurd (by decide) h_6
            refine am_run 2 (pc' := 61) (ls' := [some (.ref 41), some (.int (nI 0)), some (.int (nI u)), some (.int (nI 1)), some (.ref 73)]) (st' := [.ref 77]) (σ' := σ2) rfl ?_
            refine am_invv (y := 51) (b := 77) (as := []) (rest := []) rfl rfl rfl rfl rfl rfl rfl (Nat.le_of_ble_eq_true rfl) ?_
            refine am_enter' rfl rfl rfl (by omega) (ls := [some (.ref 77)]) rfl (fun d_7 hd_7 => ?_)
            refine am_run 2 (pc' := 4) (ls' := [some (.ref 77)]) (st' := [.int (σ2.1 77 1)]) (σ' := σ2) rfl ?_
            refine am_top (v' := nI w) o1 ?_
            refine am_reti rfl rfl ?_
            show am_G _ M_X9_would _ 64 [some (.ref 41), some (.int (nI 0)), some (.int (nI u)), some (.int (nI 1)), some (.ref 73)] [.int (nI w)] σ2
            refine am_reti rfl rfl ?_
            refine ⟨rfl, ?_⟩
            refine am_enter' (M := M_X10_would) rfl rfl rfl (by omega) (ls := [some (.ref 0), some (.int (nI 0)), some (.int (nI u)), some (.int (nI 1)), none]) rfl (fun d2 hd2 => ?_)
            refine am_run 2 (pc' := 2) (ls' := [some (.ref 0), some (.int (nI 0)), some (.int (nI u)), some (.int (nI 1)), none]) (st' := [.int (nI 0), .ref 0]) (σ' := σ2) rfl ?_
            refine am_invv (y := 151) (b := 0) (as := [.int (nI 0)]) (rest := []) rfl rfl rfl rfl rfl rfl rfl (Nat.le_of_ble_eq_true rfl) ?_
            refine c_prog0_1 (by omega) (n := n) (by exact hn22) hn1 hn60 ?_
            show am_G _ M_X10_would _ 5 [some (.ref 0), some (.int (nI 0)), some (.int (nI u)), some (.int (nI 1)), none] [.int (nI 1)] σ2
            refine am_if (ty := 8) (tn := 11) rfl (by decide) rfl rfl (fun (h_101 : nI 1 = 0) => ?_) (fun (h_101 : ¬ (nI 1 = 0)) => ?_)
            · exact absurd h_101 (by decide)
            refine am_run 3 (pc' := 16) (ls' := [some (.ref 0), some (.int (nI 0)), some (.int (nI u)), some (.int (nI 1)), none]) (st' := [.int (nI 255), .int (nI 0), .int (nI u)]) (σ' := σ2) rfl ?_
            refine am_invs (y := 148) (as := [.int (nI u), .int (nI 0), .int (nI 255)]) (rest := []) rfl rfl rfl rfl rfl rfl (Nat.le_of_ble_eq_true rfl) ?_
            refine c_in1 (by omega) (by omega) (by omega) (by omega) ?_
            show am_G _ M_X10_would _ 19 [some (.ref 0), some (.int (nI 0)), some (.int (nI u)), some (.int (nI 1)), none] [.int (nI 1)] σ2
            refine am_if (ty := 31) (tn := 22) rfl (by decide) rfl rfl (fun (h_102 : nI 1 = 0) => ?_) (fun (h_102 : ¬ (nI 1 = 0)) => ?_)
            · exact absurd h_102 (by decide)
            refine am_run 3 (pc' := 25) (ls' := [some (.ref 0), some (.int (nI 0)), some (.int (nI u)), some (.int (nI 1)), none]) (st' := [.int (nI 4), .int (nI 0), .int (nI 1)]) (σ' := σ2) rfl ?_
            refine am_invs (y := 148) (as := [.int (nI 1), .int (nI 0), .int (nI 4)]) (rest := []) rfl rfl rfl rfl rfl rfl (Nat.le_of_ble_eq_true rfl) ?_
            refine c_in1 (by omega) (by omega) (by omega) (by omega) ?_
            show am_G _ M_X10_would _ 28 [some (.ref 0), some (.int (nI 0)), some (.int (nI u)), some (.int (nI 1)), none] [.int (nI 1)] σ2
            refine am_if (ty := 31) (tn := 34) rfl (by decide) rfl rfl (fun (h_103 : nI 1 = 0) => ?_) (fun (h_103 : ¬ (nI 1 = 0)) => ?_)
            · exact absurd h_103 (by decide)
            refine am_run 5 (pc' := 41) (ls' := [some (.ref 0), some (.int (nI 0)), some (.int (nI u)), some (.int (nI 1)), none]) (st' := [.int (nI 0), .ref 17, .int (nI 0), .ref 0]) (σ' := σ2) rfl ?_
            refine am_ialdN (n := 2) (v := nI s) rfl rfl rfl (by decide) b32 (by decide) ?_
            refine am_run 1 (pc' := 43) (ls' := [some (.ref 0), some (.int (nI 0)), some (.int (nI u)), some (.int (nI 1)), none]) (st' := [.int (nI u), .int (nI s), .int (nI 0), .ref 0]) (σ' := σ2) rfl ?_
            refine am_invv (y := 229) (b := 0) (as := [.int (nI 0), .int (nI s), .int (nI u)]) (rest := []) rfl rfl rfl rfl rfl rfl rfl (Nat.le_of_ble_eq_true rfl) ?_
            refine c_settles0 (by omega) hM2 hs hv.2 hu hz hw0 (fun σ3 hS i38 i39 i40 i41 i29 => ?_)
            show am_G _ M_X10_would _ 46 [some (.ref 0), some (.int (nI 0)), some (.int (nI u)), some (.int (nI 1)), none] [.int (nI 0)] σ3
            refine am_run 3 (pc' := 50) (ls' := [some (.ref 0), some (.int (nI 0)), some (.int (nI u)), some (.int (nI 1)), some (.int (nI 0))]) (st' := [.int (nI 1), .int (nI 1)]) (σ' := σ3) rfl ?_
            refine am_ic (ty := 53) (tn := 58) rfl (by decide) rfl rfl (fun (h_104 : nI 1 = nI 1) => ?_) (fun (h_104 : ¬ (nI 1 = nI 1)) => ?_)
            rotate_left
            · exact absurd (by decide) h_104
            refine am_run 2 (pc' := 57) (ls' := [some (.ref 0), some (.int (nI 0)), some (.int (nI u)), some (.int (nI 1)), some (.int (nI 0))]) (st' := [.int (σ3.1 0 41)]) (σ' := σ3) rfl ?_
            refine am_top (v' := nI w) i41 ?_
            refine am_reti rfl rfl ?_
            exact ⟨rfl, ((hK.KI (Or.inl rfl)).tr hS.KI).inv hI⟩
        · by_cases hw0 : w = 0
          · subst hw0
            refine ⟨nI c, ?_⟩
            refine am_enter' (M := M_X9_would) rfl rfl rfl (by omega) (ls := [some (.ref 41), some (.int (nI 0)), some (.int (nI u)), some (.int (nI 2)), none]) rfl (fun d' hd' => ?_)
            refine am_run 2 (pc' := 2) (ls' := [some (.ref 41), some (.int (nI 0)), some (.int (nI u)), some (.int (nI 2)), none]) (st' := [.int (nI 0), .ref 41]) (σ' := σ) rfl ?_
            refine am_invv (y := 140) (b := 41) (as := [.int (nI 0)]) (rest := []) rfl rfl rfl rfl rfl rfl rfl (Nat.le_of_ble_eq_true rfl) ?_
            refine c_filled0_1 (by omega) hf ?_
            show am_G _ M_X9_would _ 5 [some (.ref 41), some (.int (nI 0)), some (.int (nI u)), some (.int (nI 2)), none] [.ref 73] σ
            refine am_run 4 (pc' := 16) (ls' := [some (.ref 41), some (.int (nI 0)), some (.int (nI u)), some (.int (nI 2)), some (.ref 73)]) (st' := [.int (nI u)]) (σ' := σ) rfl ?_
            refine am_invs (y := 141) (as := [.int (nI u)]) (rest := []) rfl rfl rfl rfl rfl rfl (Nat.le_of_ble_eq_true rfl) ?_
            refine c_sig1 (by omega) (by omega) ?_
            show am_G _ M_X9_would _ 19 [some (.ref 41), some (.int (nI 0)), some (.int (nI u)), some (.int (nI 2)), some (.ref 73)] [.int (nI 1)] σ
            refine am_if (ty := 31) (tn := 22) rfl (by decide) rfl rfl (fun (h_1 : nI 1 = 0) => ?_) (fun (h_1 : ¬ (nI 1 = 0)) => ?_)
            · exact absurd h_1 (by decide)
            refine am_run 1 (pc' := 23) (ls' := [some (.ref 41), some (.int (nI 0)), some (.int (nI u)), some (.int (nI 2)), some (.ref 73)]) (st' := [.int (nI 2)]) (σ' := σ) rfl ?_
            refine am_if (ty := 31) (tn := 26) rfl (by decide) rfl rfl (fun (h_2 : nI 2 < 0) => ?_) (fun (h_2 : ¬ (nI 2 < 0)) => ?_)
            · exact absurd h_2 (by decide)
            refine am_run 2 (pc' := 28) (ls' := [some (.ref 41), some (.int (nI 0)), some (.int (nI u)), some (.int (nI 2)), some (.ref 73)]) (st' := [.int (nI 4), .int (nI 2)]) (σ' := σ) rfl ?_
            refine am_ic (ty := 31) (tn := 34) rfl (by decide) rfl rfl (fun (h_3 : nI 4 < nI 2) => ?_) (fun (h_3 : ¬ (nI 4 < nI 2)) => ?_)
            · exact absurd h_3 (by decide)
            refine am_run 3 (pc' := 40) (ls' := [some (.ref 41), some (.int (nI 0)), some (.int (nI u)), some (.int (nI 2)), some (.ref 73)]) (st' := [.ref 73, .ref 77]) (σ' := σ) rfl ?_
            refine am_invv (y := 66) (b := 73) (as := []) (rest := [.ref 77]) rfl rfl rfl rfl rfl rfl rfl (Nat.le_of_ble_eq_true rfl) ?_
            refine am_enter' rfl rfl rfl (by omega) (ls := [some (.ref 73)]) rfl (fun d_4 hd_4 => ?_)
            refine am_run 2 (pc' := 4) (ls' := [some (.ref 73)]) (st' := [.ref (σ.2 73 1)]) (σ' := σ) rfl ?_
            refine am_reta rfl rfl (Or.inr ⟨_, rfl⟩) ?_
            show am_G _ M_X9_would _ 43 [some (.ref 41), some (.int (nI 0)), some (.int (nI u)), some (.int (nI 2)), some (.ref 73)] [.ref (σ.2 73 1), .ref 77] σ
            refine am_run 1 (pc' := 45) (ls' := [some (.ref 41), some (.int (nI 0)), some (.int (nI u)), some (.int (nI 2)), some (.ref 73)]) (st' := [.ref 73, .ref (σ.2 73 1), .ref 77]) (σ' := σ) rfl ?_
            refine am_invv (y := 67) (b := 73) (as := []) (rest := [.ref (σ.2 73 1), .ref 77]) rfl rfl rfl rfl rfl rfl rfl (Nat.le_of_ble_eq_true rfl) ?_
            refine am_enter' rfl rfl rfl (by omega) (ls := [some (.ref 73)]) rfl (fun d_5 hd_5 => ?_)
            refine am_run 2 (pc' := 4) (ls' := [some (.ref 73)]) (st' := [.int (σ.1 73 3)]) (σ' := σ) rfl ?_
            refine am_top (v' := nI s) a3 ?_
            refine am_reti rfl rfl ?_
            show am_G _ M_X9_would _ 48 [some (.ref 41), some (.int (nI 0)), some (.int (nI u)), some (.int (nI 2)), some (.ref 73)] [.int (nI s), .ref (σ.2 73 1), .ref 77] σ
            refine am_run 1 (pc' := 49) (ls' := [some (.ref 41), some (.int (nI 0)), some (.int (nI u)), some (.int (nI 2)), some (.ref 73)]) (st' := [.int (nI u), .int (nI s), .ref (σ.2 73 1), .ref 77]) (σ' := σ) rfl ?_
            refine am_invv (y := 56) (b := 77) (as := [.ref (σ.2 73 1), .int (nI s), .int (nI u)]) (rest := []) rfl rfl rfl rfl rfl rfl rfl (Nat.le_of_ble_eq_true rfl) ?_
            refine c_determine (by omega) hW hR (show r + 1 ≤ n by omega) hro (Or.inl rfl) hs hu (fun σ2 hK hO => ?_)
            rw [hz] at hO
            obtain ⟨o0, o1, o2, o3, o4⟩ : σ2.1 77 0 = nI (P + 256 * A) ∧ σ2.1 77 1 = nI 0 ∧ σ2.1 77 2 = nI c ∧ σ2.1 77 3 = nI nx ∧ σ2.1 77 4 = nI rd := hO
            have hM2 := hM.keep2 (σ' := σ2) (fun c a => hK.1 c (by omega))
            have b32 : σ2.1 17 0 = nI s := by rw [hK.1 17 (by decide)]; exact b3
            have hn22 : σ2.1 2 0 = nI n := hM2.1.2.2.2.1
            show am_G _ M_X9_would _ 52 [some (.ref 41), some (.int (nI 0)), some (.int (nI u)), some (.int (nI 2)), some (.ref 73)] [] σ2
            refine am_run 2 (pc' := 54) (ls' := [some (.ref 41), some (.int (nI 0)), some (.int (nI u)), some (.int (nI 2)), some (.ref 73)]) (st' := [.int (nI 1), .int (nI 2)]) (σ' := σ2) rfl ?_
            refine am_ic (ty := 57) (tn := 65) rfl (by decide) rfl rfl (fun (h_6 : nI 2 = nI 1) => ?_) (fun (h_6 : ¬ (nI 2 = nI 1)) => ?_)
            · exact absurd h_6 (by decide)
            refine am_run 2 (pc' := 67) (ls' := [some (.ref 41), some (.int (nI 0)), some (.int (nI u)), some (.int (nI 2)), some (.ref 73)]) (st' := [.int (nI 4), .int (nI 2)]) (σ' := σ2) rfl ?_
            refine am_ic (ty := 70) (tn := 78) rfl (by decide) rfl rfl (fun (h_7 : nI 2 = nI 4) => ?_) (fun (h_7 : ¬ (nI 2 = nI 4)) => ?_)
            · exact absurd h_7 (by decide)
            refine am_run 2 (pc' := 82) (ls' := [some (.ref 41), some (.int (nI 0)), some (.int (nI u)), some (.int (nI 2)), some (.ref 73)]) (st' := [.ref 77]) (σ' := σ2) rfl ?_
            refine am_invv (y := 52) (b := 77) (as := []) (rest := []) rfl rfl rfl rfl rfl rfl rfl (Nat.le_of_ble_eq_true rfl) ?_
            refine am_enter' rfl rfl rfl (by omega) (ls := [some (.ref 77)]) rfl (fun d_8 hd_8 => ?_)
            refine am_run 2 (pc' := 4) (ls' := [some (.ref 77)]) (st' := [.int (σ2.1 77 1)]) (σ' := σ2) rfl ?_
            refine am_top (v' := nI 0) o1 ?_
            refine am_if (ty := 11) (tn := 7) rfl (by decide) rfl rfl (fun (h_9 : nI 0 = 0) => ?_) (fun (h_9 : ¬ (nI 0 = 0)) => ?_)
            rotate_left
            · exact absurd (by decide) h_9
            refine am_run 1 (pc' := 12) (ls' := [some (.ref 77)]) (st' := [.int (nI 0)]) (σ' := σ2) rfl ?_
            refine am_retz rfl rfl (by decide) ?_
            show am_G _ M_X9_would _ 85 [some (.ref 41), some (.int (nI 0)), some (.int (nI u)), some (.int (nI 2)), some (.ref 73)] [.int (nI 0)] σ2
            refine am_if (ty := 91) (tn := 88) rfl (by decide) rfl rfl (fun (h_10 : nI 0 = 0) => ?_) (fun (h_10 : ¬ (nI 0 = 0)) => ?_)
            rotate_left
            · exact absurd (by decide) h_10
            refine am_run 1 (pc' := 92) (ls' := [some (.ref 41), some (.int (nI 0)), some (.int (nI u)), some (.int (nI 2)), some (.ref 73)]) (st' := [.int (nI 2)]) (σ' := σ2) rfl ?_
            refine am_if (ty := 95) (tn := 103) rfl (by decide) rfl rfl (fun (h_11 : nI 2 = 0) => ?_) (fun (h_11 : ¬ (nI 2 = 0)) => ?_)
            · exact absurd h_11 (by decide)
            refine am_run 2 (pc' := 105) (ls' := [some (.ref 41), some (.int (nI 0)), some (.int (nI u)), some (.int (nI 2)), some (.ref 73)]) (st' := [.int (nI 2), .int (nI 2)]) (σ' := σ2) rfl ?_
            refine am_ic (ty := 108) (tn := 118) rfl (by decide) rfl rfl (fun (h_12 : nI 2 = nI 2) => ?_) (fun (h_12 : ¬ (nI 2 = nI 2)) => ?_)
            rotate_left
            · exact absurd (by decide) h_12
            refine am_run 2 (pc' := 112) (ls' := [some (.ref 41), some (.int (nI 0)), some (.int (nI u)), some (.int (nI 2)), some (.ref 73)]) (st' := [.ref 77]) (σ' := σ2) rfl ?_
            refine am_invv (y := 53) (b := 77) (as := []) (rest := []) rfl rfl rfl rfl rfl rfl rfl (Nat.le_of_ble_eq_true rfl) ?_
            refine am_enter' rfl rfl rfl (by omega) (ls := [some (.ref 77)]) rfl (fun d_13 hd_13 => ?_)
            refine am_run 2 (pc' := 4) (ls' := [some (.ref 77)]) (st' := [.int (σ2.1 77 2)]) (σ' := σ2) rfl ?_
            refine am_top (v' := nI c) o2 ?_
            refine am_reti rfl rfl ?_
            show am_G _ M_X9_would _ 115 [some (.ref 41), some (.int (nI 0)), some (.int (nI u)), some (.int (nI 2)), some (.ref 73)] [.int (nI c)] σ2
            refine am_run 1 (pc' := 125) (ls' := [some (.ref 41), some (.int (nI 0)), some (.int (nI u)), some (.int (nI 2)), some (.ref 73)]) (st' := [.int (nI c)]) (σ' := σ2) rfl ?_
            refine am_reti rfl rfl ?_
            refine ⟨rfl, ?_⟩
            refine am_enter' (M := M_X10_would) rfl rfl rfl (by omega) (ls := [some (.ref 0), some (.int (nI 0)), some (.int (nI u)), some (.int (nI 2)), none]) rfl (fun d2 hd2 => ?_)
            refine am_run 2 (pc' := 2) (ls' := [some (.ref 0), some (.int (nI 0)), some (.int (nI u)), some (.int (nI 2)), none]) (st' := [.int (nI 0), .ref 0]) (σ' := σ2) rfl ?_
            refine am_invv (y := 151) (b := 0) (as := [.int (nI 0)]) (rest := []) rfl rfl rfl rfl rfl rfl rfl (Nat.le_of_ble_eq_true rfl) ?_
            refine c_prog0_1 (by omega) (n := n) (by exact hn22) hn1 hn60 ?_
            show am_G _ M_X10_would _ 5 [some (.ref 0), some (.int (nI 0)), some (.int (nI u)), some (.int (nI 2)), none] [.int (nI 1)] σ2
            refine am_if (ty := 8) (tn := 11) rfl (by decide) rfl rfl (fun (h_101 : nI 1 = 0) => ?_) (fun (h_101 : ¬ (nI 1 = 0)) => ?_)
            · exact absurd h_101 (by decide)
            refine am_run 3 (pc' := 16) (ls' := [some (.ref 0), some (.int (nI 0)), some (.int (nI u)), some (.int (nI 2)), none]) (st' := [.int (nI 255), .int (nI 0), .int (nI u)]) (σ' := σ2) rfl ?_
            refine am_invs (y := 148) (as := [.int (nI u), .int (nI 0), .int (nI 255)]) (rest := []) rfl rfl rfl rfl rfl rfl (Nat.le_of_ble_eq_true rfl) ?_
            refine c_in1 (by omega) (by omega) (by omega) (by omega) ?_
            show am_G _ M_X10_would _ 19 [some (.ref 0), some (.int (nI 0)), some (.int (nI u)), some (.int (nI 2)), none] [.int (nI 1)] σ2
            refine am_if (ty := 31) (tn := 22) rfl (by decide) rfl rfl (fun (h_102 : nI 1 = 0) => ?_) (fun (h_102 : ¬ (nI 1 = 0)) => ?_)
            · exact absurd h_102 (by decide)
            refine am_run 3 (pc' := 25) (ls' := [some (.ref 0), some (.int (nI 0)), some (.int (nI u)), some (.int (nI 2)), none]) (st' := [.int (nI 4), .int (nI 0), .int (nI 2)]) (σ' := σ2) rfl ?_
            refine am_invs (y := 148) (as := [.int (nI 2), .int (nI 0), .int (nI 4)]) (rest := []) rfl rfl rfl rfl rfl rfl (Nat.le_of_ble_eq_true rfl) ?_
            refine c_in1 (by omega) (by omega) (by omega) (by omega) ?_
            show am_G _ M_X10_would _ 28 [some (.ref 0), some (.int (nI 0)), some (.int (nI u)), some (.int (nI 2)), none] [.int (nI 1)] σ2
            refine am_if (ty := 31) (tn := 34) rfl (by decide) rfl rfl (fun (h_103 : nI 1 = 0) => ?_) (fun (h_103 : ¬ (nI 1 = 0)) => ?_)
            · exact absurd h_103 (by decide)
            refine am_run 5 (pc' := 41) (ls' := [some (.ref 0), some (.int (nI 0)), some (.int (nI u)), some (.int (nI 2)), none]) (st' := [.int (nI 0), .ref 17, .int (nI 0), .ref 0]) (σ' := σ2) rfl ?_
            refine am_ialdN (n := 2) (v := nI s) rfl rfl rfl (by decide) b32 (by decide) ?_
            refine am_run 1 (pc' := 43) (ls' := [some (.ref 0), some (.int (nI 0)), some (.int (nI u)), some (.int (nI 2)), none]) (st' := [.int (nI u), .int (nI s), .int (nI 0), .ref 0]) (σ' := σ2) rfl ?_
            refine am_invv (y := 229) (b := 0) (as := [.int (nI 0), .int (nI s), .int (nI u)]) (rest := []) rfl rfl rfl rfl rfl rfl rfl (Nat.le_of_ble_eq_true rfl) ?_
            refine c_settles1 (by omega) hM2 hs hv.2 hu hz (fun σ3 hS i38 i39 i40 i41 i42 i43 i44 i29 => ?_)
            show am_G _ M_X10_would _ 46 [some (.ref 0), some (.int (nI 0)), some (.int (nI u)), some (.int (nI 2)), none] [.int (nI 1)] σ3
            refine am_run 3 (pc' := 50) (ls' := [some (.ref 0), some (.int (nI 0)), some (.int (nI u)), some (.int (nI 2)), some (.int (nI 1))]) (st' := [.int (nI 1), .int (nI 2)]) (σ' := σ3) rfl ?_
            refine am_ic (ty := 53) (tn := 58) rfl (by decide) rfl rfl (fun (h_104 : nI 2 = nI 1) => ?_) (fun (h_104 : ¬ (nI 2 = nI 1)) => ?_)
            · exact absurd h_104 (by decide)
            refine am_run 2 (pc' := 60) (ls' := [some (.ref 0), some (.int (nI 0)), some (.int (nI u)), some (.int (nI 2)), some (.int (nI 1))]) (st' := [.int (nI 4), .int (nI 2)]) (σ' := σ3) rfl ?_
            refine am_ic (ty := 63) (tn := 68) rfl (by decide) rfl rfl (fun (h_105 : nI 2 = nI 4) => ?_) (fun (h_105 : ¬ (nI 2 = nI 4)) => ?_)
            · exact absurd h_105 (by decide)
            refine am_run 1 (pc' := 70) (ls' := [some (.ref 0), some (.int (nI 0)), some (.int (nI u)), some (.int (nI 2)), some (.int (nI 1))]) (st' := [.int (nI 1)]) (σ' := σ3) rfl ?_
            refine am_if (ty := 73) (tn := 77) rfl (by decide) rfl rfl (fun (h_106 : nI 1 = 0) => ?_) (fun (h_106 : ¬ (nI 1 = 0)) => ?_)
            · exact absurd h_106 (by decide)
            refine am_run 1 (pc' := 78) (ls' := [some (.ref 0), some (.int (nI 0)), some (.int (nI u)), some (.int (nI 2)), some (.int (nI 1))]) (st' := [.int (nI 2)]) (σ' := σ3) rfl ?_
            refine am_if (ty := 81) (tn := 88) rfl (by decide) rfl rfl (fun (h_107 : nI 2 = 0) => ?_) (fun (h_107 : ¬ (nI 2 = 0)) => ?_)
            · exact absurd h_107 (by decide)
            refine am_run 2 (pc' := 90) (ls' := [some (.ref 0), some (.int (nI 0)), some (.int (nI u)), some (.int (nI 2)), some (.int (nI 1))]) (st' := [.int (nI 2), .int (nI 2)]) (σ' := σ3) rfl ?_
            refine am_ic (ty := 93) (tn := 100) rfl (by decide) rfl rfl (fun (h_108 : nI 2 = nI 2) => ?_) (fun (h_108 : ¬ (nI 2 = nI 2)) => ?_)
            rotate_left
            · exact absurd (by decide) h_108
            refine am_run 2 (pc' := 97) (ls' := [some (.ref 0), some (.int (nI 0)), some (.int (nI u)), some (.int (nI 2)), some (.int (nI 1))]) (st' := [.int (σ3.1 0 43)]) (σ' := σ3) rfl ?_
            refine am_top (v' := nI c) i43 ?_
            refine am_run 1 (pc' := 104) (ls' := [some (.ref 0), some (.int (nI 0)), some (.int (nI u)), some (.int (nI 2)), some (.int (nI 1))]) (st' := [.int (nI c)]) (σ' := σ3) rfl ?_
            refine am_reti rfl rfl ?_
            exact ⟨rfl, ((hK.KI (Or.inl rfl)).tr hS.KI).inv hI⟩
          · skip
            refine ⟨-1000003, ?_⟩
            refine am_enter' (M := M_X9_would) rfl rfl rfl (by omega) (ls := [some (.ref 41), some (.int (nI 0)), some (.int (nI u)), some (.int (nI 2)), none]) rfl (fun d' hd' => ?_)
            refine am_run 2 (pc' := 2) (ls' := [some (.ref 41), some (.int (nI 0)), some (.int (nI u)), some (.int (nI 2)), none]) (st' := [.int (nI 0), .ref 41]) (σ' := σ) rfl ?_
            refine am_invv (y := 140) (b := 41) (as := [.int (nI 0)]) (rest := []) rfl rfl rfl rfl rfl rfl rfl (Nat.le_of_ble_eq_true rfl) ?_
            refine c_filled0_1 (by omega) hf ?_
            show am_G _ M_X9_would _ 5 [some (.ref 41), some (.int (nI 0)), some (.int (nI u)), some (.int (nI 2)), none] [.ref 73] σ
            refine am_run 4 (pc' := 16) (ls' := [some (.ref 41), some (.int (nI 0)), some (.int (nI u)), some (.int (nI 2)), some (.ref 73)]) (st' := [.int (nI u)]) (σ' := σ) rfl ?_
            refine am_invs (y := 141) (as := [.int (nI u)]) (rest := []) rfl rfl rfl rfl rfl rfl (Nat.le_of_ble_eq_true rfl) ?_
            refine c_sig1 (by omega) (by omega) ?_
            show am_G _ M_X9_would _ 19 [some (.ref 41), some (.int (nI 0)), some (.int (nI u)), some (.int (nI 2)), some (.ref 73)] [.int (nI 1)] σ
            refine am_if (ty := 31) (tn := 22) rfl (by decide) rfl rfl (fun (h_1 : nI 1 = 0) => ?_) (fun (h_1 : ¬ (nI 1 = 0)) => ?_)
            · exact absurd h_1 (by decide)
            refine am_run 1 (pc' := 23) (ls' := [some (.ref 41), some (.int (nI 0)), some (.int (nI u)), some (.int (nI 2)), some (.ref 73)]) (st' := [.int (nI 2)]) (σ' := σ) rfl ?_
            refine am_if (ty := 31) (tn := 26) rfl (by decide) rfl rfl (fun (h_2 : nI 2 < 0) => ?_) (fun (h_2 : ¬ (nI 2 < 0)) => ?_)
            · exact absurd h_2 (by decide)
            refine am_run 2 (pc' := 28) (ls' := [some (.ref 41), some (.int (nI 0)), some (.int (nI u)), some (.int (nI 2)), some (.ref 73)]) (st' := [.int (nI 4), .int (nI 2)]) (σ' := σ) rfl ?_
            refine am_ic (ty := 31) (tn := 34) rfl (by decide) rfl rfl (fun (h_3 : nI 4 < nI 2) => ?_) (fun (h_3 : ¬ (nI 4 < nI 2)) => ?_)
            · exact absurd h_3 (by decide)
            refine am_run 3 (pc' := 40) (ls' := [some (.ref 41), some (.int (nI 0)), some (.int (nI u)), some (.int (nI 2)), some (.ref 73)]) (st' := [.ref 73, .ref 77]) (σ' := σ) rfl ?_
            refine am_invv (y := 66) (b := 73) (as := []) (rest := [.ref 77]) rfl rfl rfl rfl rfl rfl rfl (Nat.le_of_ble_eq_true rfl) ?_
            refine am_enter' rfl rfl rfl (by omega) (ls := [some (.ref 73)]) rfl (fun d_4 hd_4 => ?_)
            refine am_run 2 (pc' := 4) (ls' := [some (.ref 73)]) (st' := [.ref (σ.2 73 1)]) (σ' := σ) rfl ?_
            refine am_reta rfl rfl (Or.inr ⟨_, rfl⟩) ?_
            show am_G _ M_X9_would _ 43 [some (.ref 41), some (.int (nI 0)), some (.int (nI u)), some (.int (nI 2)), some (.ref 73)] [.ref (σ.2 73 1), .ref 77] σ
            refine am_run 1 (pc' := 45) (ls' := [some (.ref 41), some (.int (nI 0)), some (.int (nI u)), some (.int (nI 2)), some (.ref 73)]) (st' := [.ref 73, .ref (σ.2 73 1), .ref 77]) (σ' := σ) rfl ?_
            refine am_invv (y := 67) (b := 73) (as := []) (rest := [.ref (σ.2 73 1), .ref 77]) rfl rfl rfl rfl rfl rfl rfl (Nat.le_of_ble_eq_true rfl) ?_
            refine am_enter' rfl rfl rfl (by omega) (ls := [some (.ref 73)]) rfl (fun d_5 hd_5 => ?_)
            refine am_run 2 (pc' := 4) (ls' := [some (.ref 73)]) (st' := [.int (σ.1 73 3)]) (σ' := σ) rfl ?_
            refine am_top (v' := nI s) a3 ?_
            refine am_reti rfl rfl ?_
            show am_G _ M_X9_would _ 48 [some (.ref 41), some (.int (nI 0)), some (.int (nI u)), some (.int (nI 2)), some (.ref 73)] [.int (nI s), .ref (σ.2 73 1), .ref 77] σ
            refine am_run 1 (pc' := 49) (ls' := [some (.ref 41), some (.int (nI 0)), some (.int (nI u)), some (.int (nI 2)), some (.ref 73)]) (st' := [.int (nI u), .int (nI s), .ref (σ.2 73 1), .ref 77]) (σ' := σ) rfl ?_
            refine am_invv (y := 56) (b := 77) (as := [.ref (σ.2 73 1), .int (nI s), .int (nI u)]) (rest := []) rfl rfl rfl rfl rfl rfl rfl (Nat.le_of_ble_eq_true rfl) ?_
            refine c_determine (by omega) hW hR (show r + 1 ≤ n by omega) hro (Or.inl rfl) hs hu (fun σ2 hK hO => ?_)
            rw [hz] at hO
            obtain ⟨o0, o1, o2, o3, o4⟩ : σ2.1 77 0 = nI (P + 256 * A) ∧ σ2.1 77 1 = nI w ∧ σ2.1 77 2 = nI c ∧ σ2.1 77 3 = nI nx ∧ σ2.1 77 4 = nI rd := hO
            have hM2 := hM.keep2 (σ' := σ2) (fun c a => hK.1 c (by omega))
            have b32 : σ2.1 17 0 = nI s := by rw [hK.1 17 (by decide)]; exact b3
            have hn22 : σ2.1 2 0 = nI n := hM2.1.2.2.2.1
            show am_G _ M_X9_would _ 52 [some (.ref 41), some (.int (nI 0)), some (.int (nI u)), some (.int (nI 2)), some (.ref 73)] [] σ2
            refine am_run 2 (pc' := 54) (ls' := [some (.ref 41), some (.int (nI 0)), some (.int (nI u)), some (.int (nI 2)), some (.ref 73)]) (st' := [.int (nI 1), .int (nI 2)]) (σ' := σ2) rfl ?_
            refine am_ic (ty := 57) (tn := 65) rfl (by decide) rfl rfl (fun (h_6 : nI 2 = nI 1) => ?_) (fun (h_6 : ¬ (nI 2 = nI 1)) => ?_)
            · exact absurd h_6 (by decide)
            refine am_run 2 (pc' := 67) (ls' := [some (.ref 41), some (.int (nI 0)), some (.int (nI u)), some (.int (nI 2)), some (.ref 73)]) (st' := [.int (nI 4), .int (nI 2)]) (σ' := σ2) rfl ?_
            refine am_ic (ty := 70) (tn := 78) rfl (by decide) rfl rfl (fun (h_7 : nI 2 = nI 4) => ?_) (fun (h_7 : ¬ (nI 2 = nI 4)) => ?_)
            · exact absurd h_7 (by decide)
            refine am_run 2 (pc' := 82) (ls' := [some (.ref 41), some (.int (nI 0)), some (.int (nI u)), some (.int (nI 2)), some (.ref 73)]) (st' := [.ref 77]) (σ' := σ2) rfl ?_
            refine am_invv (y := 52) (b := 77) (as := []) (rest := []) rfl rfl rfl rfl rfl rfl rfl (Nat.le_of_ble_eq_true rfl) ?_
            refine am_enter' rfl rfl rfl (by omega) (ls := [some (.ref 77)]) rfl (fun d_8 hd_8 => ?_)
            refine am_run 2 (pc' := 4) (ls' := [some (.ref 77)]) (st' := [.int (σ2.1 77 1)]) (σ' := σ2) rfl ?_
            refine am_top (v' := nI w) o1 ?_
            refine am_if (ty := 11) (tn := 7) rfl (by decide) rfl rfl (fun (h_9 : nI w = 0) => ?_) (fun (h_9 : ¬ (nI w = 0)) => ?_)
            · have h_9 : w = 0 := (am_n0 (by omega)).mp h_9
              omega
            have h_9 : ¬ (w = 0) := fun z => h_9 ((am_n0 (by omega)).mpr z)
            refine am_run 2 (pc' := 12) (ls' := [some (.ref 77)]) (st' := [.int (nI 1)]) (σ' := σ2) rfl ?_
            refine am_retz rfl rfl (by decide) ?_
            show am_G _ M_X9_would _ 85 [some (.ref 41), some (.int (nI 0)), some (.int (nI u)), some (.int (nI 2)), some (.ref 73)] [.int (nI 1)] σ2
            refine am_if (ty := 91) (tn := 88) rfl (by decide) rfl rfl (fun (h_10 : nI 1 = 0) => ?_) (fun (h_10 : ¬ (nI 1 = 0)) => ?_)
            · exact absurd h_10 (by decide)
            refine am_run 1 (pc' := 90) (ls' := [some (.ref 41), some (.int (nI 0)), some (.int (nI u)), some (.int (nI 2)), some (.ref 73)]) (st' := [.int (-1000003)]) (σ' := σ2) rfl ?_
            refine am_reti rfl rfl ?_
            refine ⟨rfl, ?_⟩
            refine am_enter' (M := M_X10_would) rfl rfl rfl (by omega) (ls := [some (.ref 0), some (.int (nI 0)), some (.int (nI u)), some (.int (nI 2)), none]) rfl (fun d2 hd2 => ?_)
            refine am_run 2 (pc' := 2) (ls' := [some (.ref 0), some (.int (nI 0)), some (.int (nI u)), some (.int (nI 2)), none]) (st' := [.int (nI 0), .ref 0]) (σ' := σ2) rfl ?_
            refine am_invv (y := 151) (b := 0) (as := [.int (nI 0)]) (rest := []) rfl rfl rfl rfl rfl rfl rfl (Nat.le_of_ble_eq_true rfl) ?_
            refine c_prog0_1 (by omega) (n := n) (by exact hn22) hn1 hn60 ?_
            show am_G _ M_X10_would _ 5 [some (.ref 0), some (.int (nI 0)), some (.int (nI u)), some (.int (nI 2)), none] [.int (nI 1)] σ2
            refine am_if (ty := 8) (tn := 11) rfl (by decide) rfl rfl (fun (h_101 : nI 1 = 0) => ?_) (fun (h_101 : ¬ (nI 1 = 0)) => ?_)
            · exact absurd h_101 (by decide)
            refine am_run 3 (pc' := 16) (ls' := [some (.ref 0), some (.int (nI 0)), some (.int (nI u)), some (.int (nI 2)), none]) (st' := [.int (nI 255), .int (nI 0), .int (nI u)]) (σ' := σ2) rfl ?_
            refine am_invs (y := 148) (as := [.int (nI u), .int (nI 0), .int (nI 255)]) (rest := []) rfl rfl rfl rfl rfl rfl (Nat.le_of_ble_eq_true rfl) ?_
            refine c_in1 (by omega) (by omega) (by omega) (by omega) ?_
            show am_G _ M_X10_would _ 19 [some (.ref 0), some (.int (nI 0)), some (.int (nI u)), some (.int (nI 2)), none] [.int (nI 1)] σ2
            refine am_if (ty := 31) (tn := 22) rfl (by decide) rfl rfl (fun (h_102 : nI 1 = 0) => ?_) (fun (h_102 : ¬ (nI 1 = 0)) => ?_)
            · exact absurd h_102 (by decide)
            refine am_run 3 (pc' := 25) (ls' := [some (.ref 0), some (.int (nI 0)), some (.int (nI u)), some (.int (nI 2)), none]) (st' := [.int (nI 4), .int (nI 0), .int (nI 2)]) (σ' := σ2) rfl ?_
            refine am_invs (y := 148) (as := [.int (nI 2), .int (nI 0), .int (nI 4)]) (rest := []) rfl rfl rfl rfl rfl rfl (Nat.le_of_ble_eq_true rfl) ?_
            refine c_in1 (by omega) (by omega) (by omega) (by omega) ?_
            show am_G _ M_X10_would _ 28 [some (.ref 0), some (.int (nI 0)), some (.int (nI u)), some (.int (nI 2)), none] [.int (nI 1)] σ2
            refine am_if (ty := 31) (tn := 34) rfl (by decide) rfl rfl (fun (h_103 : nI 1 = 0) => ?_) (fun (h_103 : ¬ (nI 1 = 0)) => ?_)
            · exact absurd h_103 (by decide)
            refine am_run 5 (pc' := 41) (ls' := [some (.ref 0), some (.int (nI 0)), some (.int (nI u)), some (.int (nI 2)), none]) (st' := [.int (nI 0), .ref 17, .int (nI 0), .ref 0]) (σ' := σ2) rfl ?_
            refine am_ialdN (n := 2) (v := nI s) rfl rfl rfl (by decide) b32 (by decide) ?_
            refine am_run 1 (pc' := 43) (ls' := [some (.ref 0), some (.int (nI 0)), some (.int (nI u)), some (.int (nI 2)), none]) (st' := [.int (nI u), .int (nI s), .int (nI 0), .ref 0]) (σ' := σ2) rfl ?_
            refine am_invv (y := 229) (b := 0) (as := [.int (nI 0), .int (nI s), .int (nI u)]) (rest := []) rfl rfl rfl rfl rfl rfl rfl (Nat.le_of_ble_eq_true rfl) ?_
            refine c_settles0 (by omega) hM2 hs hv.2 hu hz hw0 (fun σ3 hS i38 i39 i40 i41 i29 => ?_)
            show am_G _ M_X10_would _ 46 [some (.ref 0), some (.int (nI 0)), some (.int (nI u)), some (.int (nI 2)), none] [.int (nI 0)] σ3
            refine am_run 3 (pc' := 50) (ls' := [some (.ref 0), some (.int (nI 0)), some (.int (nI u)), some (.int (nI 2)), some (.int (nI 0))]) (st' := [.int (nI 1), .int (nI 2)]) (σ' := σ3) rfl ?_
            refine am_ic (ty := 53) (tn := 58) rfl (by decide) rfl rfl (fun (h_104 : nI 2 = nI 1) => ?_) (fun (h_104 : ¬ (nI 2 = nI 1)) => ?_)
            · exact absurd h_104 (by decide)
            refine am_run 2 (pc' := 60) (ls' := [some (.ref 0), some (.int (nI 0)), some (.int (nI u)), some (.int (nI 2)), some (.int (nI 0))]) (st' := [.int (nI 4), .int (nI 2)]) (σ' := σ3) rfl ?_
            refine am_ic (ty := 63) (tn := 68) rfl (by decide) rfl rfl (fun (h_105 : nI 2 = nI 4) => ?_) (fun (h_105 : ¬ (nI 2 = nI 4)) => ?_)
            · exact absurd h_105 (by decide)
            refine am_run 1 (pc' := 70) (ls' := [some (.ref 0), some (.int (nI 0)), some (.int (nI u)), some (.int (nI 2)), some (.int (nI 0))]) (st' := [.int (nI 0)]) (σ' := σ3) rfl ?_
            refine am_if (ty := 73) (tn := 77) rfl (by decide) rfl rfl (fun (h_106 : nI 0 = 0) => ?_) (fun (h_106 : ¬ (nI 0 = 0)) => ?_)
            rotate_left
            · exact absurd (by decide) h_106
            refine am_run 1 (pc' := 76) (ls' := [some (.ref 0), some (.int (nI 0)), some (.int (nI u)), some (.int (nI 2)), some (.int (nI 0))]) (st' := [.int (-1000003)]) (σ' := σ3) rfl ?_
            refine am_reti rfl rfl ?_
            exact ⟨rfl, ((hK.KI (Or.inl rfl)).tr hS.KI).inv hI⟩
        · by_cases hw0 : w = 0
          · subst hw0
            refine ⟨nI nx, ?_⟩
            refine am_enter' (M := M_X9_would) rfl rfl rfl (by omega) (ls := [some (.ref 41), some (.int (nI 0)), some (.int (nI u)), some (.int (nI 3)), none]) rfl (fun d' hd' => ?_)
            refine am_run 2 (pc' := 2) (ls' := [some (.ref 41), some (.int (nI 0)), some (.int (nI u)), some (.int (nI 3)), none]) (st' := [.int (nI 0), .ref 41]) (σ' := σ) rfl ?_
            refine am_invv (y := 140) (b := 41) (as := [.int (nI 0)]) (rest := []) rfl rfl rfl rfl rfl rfl rfl (Nat.le_of_ble_eq_true rfl) ?_
            refine c_filled0_1 (by omega) hf ?_
            show am_G _ M_X9_would _ 5 [some (.ref 41), some (.int (nI 0)), some (.int (nI u)), some (.int (nI 3)), none] [.ref 73] σ
            refine am_run 4 (pc' := 16) (ls' := [some (.ref 41), some (.int (nI 0)), some (.int (nI u)), some (.int (nI 3)), some (.ref 73)]) (st' := [.int (nI u)]) (σ' := σ) rfl ?_
            refine am_invs (y := 141) (as := [.int (nI u)]) (rest := []) rfl rfl rfl rfl rfl rfl (Nat.le_of_ble_eq_true rfl) ?_
            refine c_sig1 (by omega) (by omega) ?_
            show am_G _ M_X9_would _ 19 [some (.ref 41), some (.int (nI 0)), some (.int (nI u)), some (.int (nI 3)), some (.ref 73)] [.int (nI 1)] σ
            refine am_if (ty := 31) (tn := 22) rfl (by decide) rfl rfl (fun (h_1 : nI 1 = 0) => ?_) (fun (h_1 : ¬ (nI 1 = 0)) => ?_)
            · exact absurd h_1 (by decide)
            refine am_run 1 (pc' := 23) (ls' := [some (.ref 41), some (.int (nI 0)), some (.int (nI u)), some (.int (nI 3)), some (.ref 73)]) (st' := [.int (nI 3)]) (σ' := σ) rfl ?_
            refine am_if (ty := 31) (tn := 26) rfl (by decide) rfl rfl (fun (h_2 : nI 3 < 0) => ?_) (fun (h_2 : ¬ (nI 3 < 0)) => ?_)
            · exact absurd h_2 (by decide)
            refine am_run 2 (pc' := 28) (ls' := [some (.ref 41), some (.int (nI 0)), some (.int (nI u)), some (.int (nI 3)), some (.ref 73)]) (st' := [.int (nI 4), .int (nI 3)]) (σ' := σ) rfl ?_
            refine am_ic (ty := 31) (tn := 34) rfl (by decide) rfl rfl (fun (h_3 : nI 4 < nI 3) => ?_) (fun (h_3 : ¬ (nI 4 < nI 3)) => ?_)
            · exact absurd h_3 (by decide)
            refine am_run 3 (pc' := 40) (ls' := [some (.ref 41), some (.int (nI 0)), some (.int (nI u)), some (.int (nI 3)), some (.ref 73)]) (st' := [.ref 73, .ref 77]) (σ' := σ) rfl ?_
            refine am_invv (y := 66) (b := 73) (as := []) (rest := [.ref 77]) rfl rfl rfl rfl rfl rfl rfl (Nat.le_of_ble_eq_true rfl) ?_
            refine am_enter' rfl rfl rfl (by omega) (ls := [some (.ref 73)]) rfl (fun d_4 hd_4 => ?_)
            refine am_run 2 (pc' := 4) (ls' := [some (.ref 73)]) (st' := [.ref (σ.2 73 1)]) (σ' := σ) rfl ?_
            refine am_reta rfl rfl (Or.inr ⟨_, rfl⟩) ?_
            show am_G _ M_X9_would _ 43 [some (.ref 41), some (.int (nI 0)), some (.int (nI u)), some (.int (nI 3)), some (.ref 73)] [.ref (σ.2 73 1), .ref 77] σ
            refine am_run 1 (pc' := 45) (ls' := [some (.ref 41), some (.int (nI 0)), some (.int (nI u)), some (.int (nI 3)), some (.ref 73)]) (st' := [.ref 73, .ref (σ.2 73 1), .ref 77]) (σ' := σ) rfl ?_
            refine am_invv (y := 67) (b := 73) (as := []) (rest := [.ref (σ.2 73 1), .ref 77]) rfl rfl rfl rfl rfl rfl rfl (Nat.le_of_ble_eq_true rfl) ?_
            refine am_enter' rfl rfl rfl (by omega) (ls := [some (.ref 73)]) rfl (fun d_5 hd_5 => ?_)
            refine am_run 2 (pc' := 4) (ls' := [some (.ref 73)]) (st' := [.int (σ.1 73 3)]) (σ' := σ) rfl ?_
            refine am_top (v' := nI s) a3 ?_
            refine am_reti rfl rfl ?_
            show am_G _ M_X9_would _ 48 [some (.ref 41), some (.int (nI 0)), some (.int (nI u)), some (.int (nI 3)), some (.ref 73)] [.int (nI s), .ref (σ.2 73 1), .ref 77] σ
            refine am_run 1 (pc' := 49) (ls' := [some (.ref 41), some (.int (nI 0)), some (.int (nI u)), some (.int (nI 3)), some (.ref 73)]) (st' := [.int (nI u), .int (nI s), .ref (σ.2 73 1), .ref 77]) (σ' := σ) rfl ?_
            refine am_invv (y := 56) (b := 77) (as := [.ref (σ.2 73 1), .int (nI s), .int (nI u)]) (rest := []) rfl rfl rfl rfl rfl rfl rfl (Nat.le_of_ble_eq_true rfl) ?_
            refine c_determine (by omega) hW hR (show r + 1 ≤ n by omega) hro (Or.inl rfl) hs hu (fun σ2 hK hO => ?_)
            rw [hz] at hO
            obtain ⟨o0, o1, o2, o3, o4⟩ : σ2.1 77 0 = nI (P + 256 * A) ∧ σ2.1 77 1 = nI 0 ∧ σ2.1 77 2 = nI c ∧ σ2.1 77 3 = nI nx ∧ σ2.1 77 4 = nI rd := hO
            have hM2 := hM.keep2 (σ' := σ2) (fun c a => hK.1 c (by omega))
            have b32 : σ2.1 17 0 = nI s := by rw [hK.1 17 (by decide)]; exact b3
            have hn22 : σ2.1 2 0 = nI n := hM2.1.2.2.2.1
            show am_G _ M_X9_would _ 52 [some (.ref 41), some (.int (nI 0)), some (.int (nI u)), some (.int (nI 3)), some (.ref 73)] [] σ2
            refine am_run 2 (pc' := 54) (ls' := [some (.ref 41), some (.int (nI 0)), some (.int (nI u)), some (.int (nI 3)), some (.ref 73)]) (st' := [.int (nI 1), .int (nI 3)]) (σ' := σ2) rfl ?_
            refine am_ic (ty := 57) (tn := 65) rfl (by decide) rfl rfl (fun (h_6 : nI 3 = nI 1) => ?_) (fun (h_6 : ¬ (nI 3 = nI 1)) => ?_)
            · exact absurd h_6 (by decide)
            refine am_run 2 (pc' := 67) (ls' := [some (.ref 41), some (.int (nI 0)), some (.int (nI u)), some (.int (nI 3)), some (.ref 73)]) (st' := [.int (nI 4), .int (nI 3)]) (σ' := σ2) rfl ?_
            refine am_ic (ty := 70) (tn := 78) rfl (by decide) rfl rfl (fun (h_7 : nI 3 = nI 4) => ?_) (fun (h_7 : ¬ (nI 3 = nI 4)) => ?_)
            · exact absurd h_7 (by decide)
            refine am_run 2 (pc' := 82) (ls' := [some (.ref 41), some (.int (nI 0)), some (.int (nI u)), some (.int (nI 3)), some (.ref 73)]) (st' := [.ref 77]) (σ' := σ2) rfl ?_
            refine am_invv (y := 52) (b := 77) (as := []) (rest := []) rfl rfl rfl rfl rfl rfl rfl (Nat.le_of_ble_eq_true rfl) ?_
            refine am_enter' rfl rfl rfl (by omega) (ls := [some (.ref 77)]) rfl (fun d_8 hd_8 => ?_)
            refine am_run 2 (pc' := 4) (ls' := [some (.ref 77)]) (st' := [.int (σ2.1 77 1)]) (σ' := σ2) rfl ?_
            refine am_top (v' := nI 0) o1 ?_
            refine am_if (ty := 11) (tn := 7) rfl (by decide) rfl rfl (fun (h_9 : nI 0 = 0) => ?_) (fun (h_9 : ¬ (nI 0 = 0)) => ?_)
            rotate_left
            · exact absurd (by decide) h_9
            refine am_run 1 (pc' := 12) (ls' := [some (.ref 77)]) (st' := [.int (nI 0)]) (σ' := σ2) rfl ?_
            refine am_retz rfl rfl (by decide) ?_
            show am_G _ M_X9_would _ 85 [some (.ref 41), some (.int (nI 0)), some (.int (nI u)), some (.int (nI 3)), some (.ref 73)] [.int (nI 0)] σ2
            refine am_if (ty := 91) (tn := 88) rfl (by decide) rfl rfl (fun (h_10 : nI 0 = 0) => ?_) (fun (h_10 : ¬ (nI 0 = 0)) => ?_)
            rotate_left
            · exact absurd (by decide) h_10
            refine am_run 1 (pc' := 92) (ls' := [some (.ref 41), some (.int (nI 0)), some (.int (nI u)), some (.int (nI 3)), some (.ref 73)]) (st' := [.int (nI 3)]) (σ' := σ2) rfl ?_
            refine am_if (ty := 95) (tn := 103) rfl (by decide) rfl rfl (fun (h_11 : nI 3 = 0) => ?_) (fun (h_11 : ¬ (nI 3 = 0)) => ?_)
            · exact absurd h_11 (by decide)
            refine am_run 2 (pc' := 105) (ls' := [some (.ref 41), some (.int (nI 0)), some (.int (nI u)), some (.int (nI 3)), some (.ref 73)]) (st' := [.int (nI 2), .int (nI 3)]) (σ' := σ2) rfl ?_
            refine am_ic (ty := 108) (tn := 118) rfl (by decide) rfl rfl (fun (h_12 : nI 3 = nI 2) => ?_) (fun (h_12 : ¬ (nI 3 = nI 2)) => ?_)
            · exact absurd h_12 (by decide)
            refine am_run 2 (pc' := 122) (ls' := [some (.ref 41), some (.int (nI 0)), some (.int (nI u)), some (.int (nI 3)), some (.ref 73)]) (st' := [.ref 77]) (σ' := σ2) rfl ?_
            refine am_invv (y := 54) (b := 77) (as := []) (rest := []) rfl rfl rfl rfl rfl rfl rfl (Nat.le_of_ble_eq_true rfl) ?_
            refine am_enter' rfl rfl rfl (by omega) (ls := [some (.ref 77)]) rfl (fun d_13 hd_13 => ?_)
            refine am_run 2 (pc' := 4) (ls' := [some (.ref 77)]) (st' := [.int (σ2.1 77 3)]) (σ' := σ2) rfl ?_
            refine am_top (v' := nI nx) o3 ?_
            refine am_reti rfl rfl ?_
            show am_G _ M_X9_would _ 125 [some (.ref 41), some (.int (nI 0)), some (.int (nI u)), some (.int (nI 3)), some (.ref 73)] [.int (nI nx)] σ2
            refine am_reti rfl rfl ?_
            refine ⟨rfl, ?_⟩
            refine am_enter' (M := M_X10_would) rfl rfl rfl (by omega) (ls := [some (.ref 0), some (.int (nI 0)), some (.int (nI u)), some (.int (nI 3)), none]) rfl (fun d2 hd2 => ?_)
            refine am_run 2 (pc' := 2) (ls' := [some (.ref 0), some (.int (nI 0)), some (.int (nI u)), some (.int (nI 3)), none]) (st' := [.int (nI 0), .ref 0]) (σ' := σ2) rfl ?_
            refine am_invv (y := 151) (b := 0) (as := [.int (nI 0)]) (rest := []) rfl rfl rfl rfl rfl rfl rfl (Nat.le_of_ble_eq_true rfl) ?_
            refine c_prog0_1 (by omega) (n := n) (by exact hn22) hn1 hn60 ?_
            show am_G _ M_X10_would _ 5 [some (.ref 0), some (.int (nI 0)), some (.int (nI u)), some (.int (nI 3)), none] [.int (nI 1)] σ2
            refine am_if (ty := 8) (tn := 11) rfl (by decide) rfl rfl (fun (h_101 : nI 1 = 0) => ?_) (fun (h_101 : ¬ (nI 1 = 0)) => ?_)
            · exact absurd h_101 (by decide)
            refine am_run 3 (pc' := 16) (ls' := [some (.ref 0), some (.int (nI 0)), some (.int (nI u)), some (.int (nI 3)), none]) (st' := [.int (nI 255), .int (nI 0), .int (nI u)]) (σ' := σ2) rfl ?_
            refine am_invs (y := 148) (as := [.int (nI u), .int (nI 0), .int (nI 255)]) (rest := []) rfl rfl rfl rfl rfl rfl (Nat.le_of_ble_eq_true rfl) ?_
            refine c_in1 (by omega) (by omega) (by omega) (by omega) ?_
            show am_G _ M_X10_would _ 19 [some (.ref 0), some (.int (nI 0)), some (.int (nI u)), some (.int (nI 3)), none] [.int (nI 1)] σ2
            refine am_if (ty := 31) (tn := 22) rfl (by decide) rfl rfl (fun (h_102 : nI 1 = 0) => ?_) (fun (h_102 : ¬ (nI 1 = 0)) => ?_)
            · exact absurd h_102 (by decide)
            refine am_run 3 (pc' := 25) (ls' := [some (.ref 0), some (.int (nI 0)), some (.int (nI u)), some (.int (nI 3)), none]) (st' := [.int (nI 4), .int (nI 0), .int (nI 3)]) (σ' := σ2) rfl ?_
            refine am_invs (y := 148) (as := [.int (nI 3), .int (nI 0), .int (nI 4)]) (rest := []) rfl rfl rfl rfl rfl rfl (Nat.le_of_ble_eq_true rfl) ?_
            refine c_in1 (by omega) (by omega) (by omega) (by omega) ?_
            show am_G _ M_X10_would _ 28 [some (.ref 0), some (.int (nI 0)), some (.int (nI u)), some (.int (nI 3)), none] [.int (nI 1)] σ2
            refine am_if (ty := 31) (tn := 34) rfl (by decide) rfl rfl (fun (h_103 : nI 1 = 0) => ?_) (fun (h_103 : ¬ (nI 1 = 0)) => ?_)
            · exact absurd h_103 (by decide)
            refine am_run 5 (pc' := 41) (ls' := [some (.ref 0), some (.int (nI 0)), some (.int (nI u)), some (.int (nI 3)), none]) (st' := [.int (nI 0), .ref 17, .int (nI 0), .ref 0]) (σ' := σ2) rfl ?_
            refine am_ialdN (n := 2) (v := nI s) rfl rfl rfl (by decide) b32 (by decide) ?_
            refine am_run 1 (pc' := 43) (ls' := [some (.ref 0), some (.int (nI 0)), some (.int (nI u)), some (.int (nI 3)), none]) (st' := [.int (nI u), .int (nI s), .int (nI 0), .ref 0]) (σ' := σ2) rfl ?_
            refine am_invv (y := 229) (b := 0) (as := [.int (nI 0), .int (nI s), .int (nI u)]) (rest := []) rfl rfl rfl rfl rfl rfl rfl (Nat.le_of_ble_eq_true rfl) ?_
            refine c_settles1 (by omega) hM2 hs hv.2 hu hz (fun σ3 hS i38 i39 i40 i41 i42 i43 i44 i29 => ?_)
            show am_G _ M_X10_would _ 46 [some (.ref 0), some (.int (nI 0)), some (.int (nI u)), some (.int (nI 3)), none] [.int (nI 1)] σ3
            refine am_run 3 (pc' := 50) (ls' := [some (.ref 0), some (.int (nI 0)), some (.int (nI u)), some (.int (nI 3)), some (.int (nI 1))]) (st' := [.int (nI 1), .int (nI 3)]) (σ' := σ3) rfl ?_
            refine am_ic (ty := 53) (tn := 58) rfl (by decide) rfl rfl (fun (h_104 : nI 3 = nI 1) => ?_) (fun (h_104 : ¬ (nI 3 = nI 1)) => ?_)
            · exact absurd h_104 (by decide)
            refine am_run 2 (pc' := 60) (ls' := [some (.ref 0), some (.int (nI 0)), some (.int (nI u)), some (.int (nI 3)), some (.int (nI 1))]) (st' := [.int (nI 4), .int (nI 3)]) (σ' := σ3) rfl ?_
            refine am_ic (ty := 63) (tn := 68) rfl (by decide) rfl rfl (fun (h_105 : nI 3 = nI 4) => ?_) (fun (h_105 : ¬ (nI 3 = nI 4)) => ?_)
            · exact absurd h_105 (by decide)
            refine am_run 1 (pc' := 70) (ls' := [some (.ref 0), some (.int (nI 0)), some (.int (nI u)), some (.int (nI 3)), some (.int (nI 1))]) (st' := [.int (nI 1)]) (σ' := σ3) rfl ?_
            refine am_if (ty := 73) (tn := 77) rfl (by decide) rfl rfl (fun (h_106 : nI 1 = 0) => ?_) (fun (h_106 : ¬ (nI 1 = 0)) => ?_)
            · exact absurd h_106 (by decide)
            refine am_run 1 (pc' := 78) (ls' := [some (.ref 0), some (.int (nI 0)), some (.int (nI u)), some (.int (nI 3)), some (.int (nI 1))]) (st' := [.int (nI 3)]) (σ' := σ3) rfl ?_
            refine am_if (ty := 81) (tn := 88) rfl (by decide) rfl rfl (fun (h_107 : nI 3 = 0) => ?_) (fun (h_107 : ¬ (nI 3 = 0)) => ?_)
            · exact absurd h_107 (by decide)
            refine am_run 2 (pc' := 90) (ls' := [some (.ref 0), some (.int (nI 0)), some (.int (nI u)), some (.int (nI 3)), some (.int (nI 1))]) (st' := [.int (nI 2), .int (nI 3)]) (σ' := σ3) rfl ?_
            refine am_ic (ty := 93) (tn := 100) rfl (by decide) rfl rfl (fun (h_108 : nI 3 = nI 2) => ?_) (fun (h_108 : ¬ (nI 3 = nI 2)) => ?_)
            · exact absurd h_108 (by decide)
            refine am_run 2 (pc' := 104) (ls' := [some (.ref 0), some (.int (nI 0)), some (.int (nI u)), some (.int (nI 3)), some (.int (nI 1))]) (st' := [.int (σ3.1 0 44)]) (σ' := σ3) rfl ?_
            refine am_top (v' := nI nx) i44 ?_
            refine am_reti rfl rfl ?_
            exact ⟨rfl, ((hK.KI (Or.inl rfl)).tr hS.KI).inv hI⟩
          · skip
            refine ⟨-1000003, ?_⟩
            refine am_enter' (M := M_X9_would) rfl rfl rfl (by omega) (ls := [some (.ref 41), some (.int (nI 0)), some (.int (nI u)), some (.int (nI 3)), none]) rfl (fun d' hd' => ?_)
            refine am_run 2 (pc' := 2) (ls' := [some (.ref 41), some (.int (nI 0)), some (.int (nI u)), some (.int (nI 3)), none]) (st' := [.int (nI 0), .ref 41]) (σ' := σ) rfl ?_
            refine am_invv (y := 140) (b := 41) (as := [.int (nI 0)]) (rest := []) rfl rfl rfl rfl rfl rfl rfl (Nat.le_of_ble_eq_true rfl) ?_
            refine c_filled0_1 (by omega) hf ?_
            show am_G _ M_X9_would _ 5 [some (.ref 41), some (.int (nI 0)), some (.int (nI u)), some (.int (nI 3)), none] [.ref 73] σ
            refine am_run 4 (pc' := 16) (ls' := [some (.ref 41), some (.int (nI 0)), some (.int (nI u)), some (.int (nI 3)), some (.ref 73)]) (st' := [.int (nI u)]) (σ' := σ) rfl ?_
            refine am_invs (y := 141) (as := [.int (nI u)]) (rest := []) rfl rfl rfl rfl rfl rfl (Nat.le_of_ble_eq_true rfl) ?_
            refine c_sig1 (by omega) (by omega) ?_
            show am_G _ M_X9_would _ 19 [some (.ref 41), some (.int (nI 0)), some (.int (nI u)), some (.int (nI 3)), some (.ref 73)] [.int (nI 1)] σ
            refine am_if (ty := 31) (tn := 22) rfl (by decide) rfl rfl (fun (h_1 : nI 1 = 0) => ?_) (fun (h_1 : ¬ (nI 1 = 0)) => ?_)
            · exact absurd h_1 (by decide)
            refine am_run 1 (pc' := 23) (ls' := [some (.ref 41), some (.int (nI 0)), some (.int (nI u)), some (.int (nI 3)), some (.ref 73)]) (st' := [.int (nI 3)]) (σ' := σ) rfl ?_
            refine am_if (ty := 31) (tn := 26) rfl (by decide) rfl rfl (fun (h_2 : nI 3 < 0) => ?_) (fun (h_2 : ¬ (nI 3 < 0)) => ?_)
            · exact absurd h_2 (by decide)
            refine am_run 2 (pc' := 28) (ls' := [some (.ref 41), some (.int (nI 0)), some (.int (nI u)), some (.int (nI 3)), some (.ref 73)]) (st' := [.int (nI 4), .int (nI 3)]) (σ' := σ) rfl ?_
            refine am_ic (ty := 31) (tn := 34) rfl (by decide) rfl rfl (fun (h_3 : nI 4 < nI 3) => ?_) (fun (h_3 : ¬ (nI 4 < nI 3)) => ?_)
            · exact absurd h_3 (by decide)
            refine am_run 3 (pc' := 40) (ls' := [some (.ref 41), some (.int (nI 0)), some (.int (nI u)), some (.int (nI 3)), some (.ref 73)]) (st' := [.ref 73, .ref 77]) (σ' := σ) rfl ?_
            refine am_invv (y := 66) (b := 73) (as := []) (rest := [.ref 77]) rfl rfl rfl rfl rfl rfl rfl (Nat.le_of_ble_eq_true rfl) ?_
            refine am_enter' rfl rfl rfl (by omega) (ls := [some (.ref 73)]) rfl (fun d_4 hd_4 => ?_)
            refine am_run 2 (pc' := 4) (ls' := [some (.ref 73)]) (st' := [.ref (σ.2 73 1)]) (σ' := σ) rfl ?_
            refine am_reta rfl rfl (Or.inr ⟨_, rfl⟩) ?_
            show am_G _ M_X9_would _ 43 [some (.ref 41), some (.int (nI 0)), some (.int (nI u)), some (.int (nI 3)), some (.ref 73)] [.ref (σ.2 73 1), .ref 77] σ
            refine am_run 1 (pc' := 45) (ls' := [some (.ref 41), some (.int (nI 0)), some (.int (nI u)), some (.int (nI 3)), some (.ref 73)]) (st' := [.ref 73, .ref (σ.2 73 1), .ref 77]) (σ' := σ) rfl ?_
            refine am_invv (y := 67) (b := 73) (as := []) (rest := [.ref (σ.2 73 1), .ref 77]) rfl rfl rfl rfl rfl rfl rfl (Nat.le_of_ble_eq_true rfl) ?_
            refine am_enter' rfl rfl rfl (by omega) (ls := [some (.ref 73)]) rfl (fun d_5 hd_5 => ?_)
            refine am_run 2 (pc' := 4) (ls' := [some (.ref 73)]) (st' := [.int (σ.1 73 3)]) (σ' := σ) rfl ?_
            refine am_top (v' := nI s) a3 ?_
            refine am_reti rfl rfl ?_
            show am_G _ M_X9_would _ 48 [some (.ref 41), some (.int (nI 0)), some (.int (nI u)), some (.int (nI 3)), some (.ref 73)] [.int (nI s), .ref (σ.2 73 1), .ref 77] σ
            refine am_run 1 (pc' := 49) (ls' := [some (.ref 41), some (.int (nI 0)), some (.int (nI u)), some (.int (nI 3)), some (.ref 73)]) (st' := [.int (nI u), .int (nI s), .ref (σ.2 73 1), .ref 77]) (σ' := σ) rfl ?_
            refine am_invv (y := 56) (b := 77) (as := [.ref (σ.2 73 1), .int (nI s), .int (nI u)]) (rest := []) rfl rfl rfl rfl rfl rfl rfl (Nat.le_of_ble_eq_true rfl) ?_
            refine c_determine (by omega) hW hR (show r + 1 ≤ n by omega) hro (Or.inl rfl) hs hu (fun σ2 hK hO => ?_)
            rw [hz] at hO
            obtain ⟨o0, o1, o2, o3, o4⟩ : σ2.1 77 0 = nI (P + 256 * A) ∧ σ2.1 77 1 = nI w ∧ σ2.1 77 2 = nI c ∧ σ2.1 77 3 = nI nx ∧ σ2.1 77 4 = nI rd := hO
            have hM2 := hM.keep2 (σ' := σ2) (fun c a => hK.1 c (by omega))
            have b32 : σ2.1 17 0 = nI s := by rw [hK.1 17 (by decide)]; exact b3
            have hn22 : σ2.1 2 0 = nI n := hM2.1.2.2.2.1
            show am_G _ M_X9_would _ 52 [some (.ref 41), some (.int (nI 0)), some (.int (nI u)), some (.int (nI 3)), some (.ref 73)] [] σ2
            refine am_run 2 (pc' := 54) (ls' := [some (.ref 41), some (.int (nI 0)), some (.int (nI u)), some (.int (nI 3)), some (.ref 73)]) (st' := [.int (nI 1), .int (nI 3)]) (σ' := σ2) rfl ?_
            refine am_ic (ty := 57) (tn := 65) rfl (by decide) rfl rfl (fun (h_6 : nI 3 = nI 1) => ?_) (fun (h_6 : ¬ (nI 3 = nI 1)) => ?_)
            · exact absurd h_6 (by decide)
            refine am_run 2 (pc' := 67) (ls' := [some (.ref 41), some (.int (nI 0)), some (.int (nI u)), some (.int (nI 3)), some (.ref 73)]) (st' := [.int (nI 4), .int (nI 3)]) (σ' := σ2) rfl ?_
            refine am_ic (ty := 70) (tn := 78) rfl (by decide) rfl rfl (fun (h_7 : nI 3 = nI 4) => ?_) (fun (h_7 : ¬ (nI 3 = nI 4)) => ?_)
            · exact absurd h_7 (by decide)
            refine am_run 2 (pc' := 82) (ls' := [some (.ref 41), some (.int (nI 0)), some (.int (nI u)), some (.int (nI 3)), some (.ref 73)]) (st' := [.ref 77]) (σ' := σ2) rfl ?_
            refine am_invv (y := 52) (b := 77) (as := []) (rest := []) rfl rfl rfl rfl rfl rfl rfl (Nat.le_of_ble_eq_true rfl) ?_
            refine am_enter' rfl rfl rfl (by omega) (ls := [some (.ref 77)]) rfl (fun d_8 hd_8 => ?_)
            refine am_run 2 (pc' := 4) (ls' := [some (.ref 77)]) (st' := [.int (σ2.1 77 1)]) (σ' := σ2) rfl ?_
            refine am_top (v' := nI w) o1 ?_
            refine am_if (ty := 11) (tn := 7) rfl (by decide) rfl rfl (fun (h_9 : nI w = 0) => ?_) (fun (h_9 : ¬ (nI w = 0)) => ?_)
            · have h_9 : w = 0 := (am_n0 (by omega)).mp h_9
              omega
            have h_9 : ¬ (w = 0) := fun z => h_9 ((am_n0 (by omega)).mpr z)
            refine am_run 2 (pc' := 12) (ls' := [some (.ref 77)]) (st' := [.int (nI 1)]) (σ' := σ2) rfl ?_
            refine am_retz rfl rfl (by decide) ?_
            show am_G _ M_X9_would _ 85 [some (.ref 41), some (.int (nI 0)), some (.int (nI u)), some (.int (nI 3)), some (.ref 73)] [.int (nI 1)] σ2
            refine am_if (ty := 91) (tn := 88) rfl (by decide) rfl rfl (fun (h_10 : nI 1 = 0) => ?_) (fun (h_10 : ¬ (nI 1 = 0)) => ?_)
            · exact absurd h_10 (by decide)
            refine am_run 1 (pc' := 90) (ls' := [some (.ref 41), some (.int (nI 0)), some (.int (nI u)), some (.int (nI 3)), some (.ref 73)]) (st' := [.int (-1000003)]) (σ' := σ2) rfl ?_
            refine am_reti rfl rfl ?_
            refine ⟨rfl, ?_⟩
            refine am_enter' (M := M_X10_would) rfl rfl rfl (by omega) (ls := [some (.ref 0), some (.int (nI 0)), some (.int (nI u)), some (.int (nI 3)), none]) rfl (fun d2 hd2 => ?_)
            refine am_run 2 (pc' := 2) (ls' := [some (.ref 0), some (.int (nI 0)), some (.int (nI u)), some (.int (nI 3)), none]) (st' := [.int (nI 0), .ref 0]) (σ' := σ2) rfl ?_
            refine am_invv (y := 151) (b := 0) (as := [.int (nI 0)]) (rest := []) rfl rfl rfl rfl rfl rfl rfl (Nat.le_of_ble_eq_true rfl) ?_
            refine c_prog0_1 (by omega) (n := n) (by exact hn22) hn1 hn60 ?_
            show am_G _ M_X10_would _ 5 [some (.ref 0), some (.int (nI 0)), some (.int (nI u)), some (.int (nI 3)), none] [.int (nI 1)] σ2
            refine am_if (ty := 8) (tn := 11) rfl (by decide) rfl rfl (fun (h_101 : nI 1 = 0) => ?_) (fun (h_101 : ¬ (nI 1 = 0)) => ?_)
            · exact absurd h_101 (by decide)
            refine am_run 3 (pc' := 16) (ls' := [some (.ref 0), some (.int (nI 0)), some (.int (nI u)), some (.int (nI 3)), none]) (st' := [.int (nI 255), .int (nI 0), .int (nI u)]) (σ' := σ2) rfl ?_
            refine am_invs (y := 148) (as := [.int (nI u), .int (nI 0), .int (nI 255)]) (rest := []) rfl rfl rfl rfl rfl rfl (Nat.le_of_ble_eq_true rfl) ?_
            refine c_in1 (by omega) (by omega) (by omega) (by omega) ?_
            show am_G _ M_X10_would _ 19 [some (.ref 0), some (.int (nI 0)), some (.int (nI u)), some (.int (nI 3)), none] [.int (nI 1)] σ2
            refine am_if (ty := 31) (tn := 22) rfl (by decide) rfl rfl (fun (h_102 : nI 1 = 0) => ?_) (fun (h_102 : ¬ (nI 1 = 0)) => ?_)
            · exact absurd h_102 (by decide)
            refine am_run 3 (pc' := 25) (ls' := [some (.ref 0), some (.int (nI 0)), some (.int (nI u)), some (.int (nI 3)), none]) (st' := [.int (nI 4), .int (nI 0), .int (nI 3)]) (σ' := σ2) rfl ?_
            refine am_invs (y := 148) (as := [.int (nI 3), .int (nI 0), .int (nI 4)]) (rest := []) rfl rfl rfl rfl rfl rfl (Nat.le_of_ble_eq_true rfl) ?_
            refine c_in1 (by omega) (by omega) (by omega) (by omega) ?_
            show am_G _ M_X10_would _ 28 [some (.ref 0), some (.int (nI 0)), some (.int (nI u)), some (.int (nI 3)), none] [.int (nI 1)] σ2
            refine am_if (ty := 31) (tn := 34) rfl (by decide) rfl rfl (fun (h_103 : nI 1 = 0) => ?_) (fun (h_103 : ¬ (nI 1 = 0)) => ?_)
            · exact absurd h_103 (by decide)
            refine am_run 5 (pc' := 41) (ls' := [some (.ref 0), some (.int (nI 0)), some (.int (nI u)), some (.int (nI 3)), none]) (st' := [.int (nI 0), .ref 17, .int (nI 0), .ref 0]) (σ' := σ2) rfl ?_
            refine am_ialdN (n := 2) (v := nI s) rfl rfl rfl (by decide) b32 (by decide) ?_
            refine am_run 1 (pc' := 43) (ls' := [some (.ref 0), some (.int (nI 0)), some (.int (nI u)), some (.int (nI 3)), none]) (st' := [.int (nI u), .int (nI s), .int (nI 0), .ref 0]) (σ' := σ2) rfl ?_
            refine am_invv (y := 229) (b := 0) (as := [.int (nI 0), .int (nI s), .int (nI u)]) (rest := []) rfl rfl rfl rfl rfl rfl rfl (Nat.le_of_ble_eq_true rfl) ?_
            refine c_settles0 (by omega) hM2 hs hv.2 hu hz hw0 (fun σ3 hS i38 i39 i40 i41 i29 => ?_)
            show am_G _ M_X10_would _ 46 [some (.ref 0), some (.int (nI 0)), some (.int (nI u)), some (.int (nI 3)), none] [.int (nI 0)] σ3
            refine am_run 3 (pc' := 50) (ls' := [some (.ref 0), some (.int (nI 0)), some (.int (nI u)), some (.int (nI 3)), some (.int (nI 0))]) (st' := [.int (nI 1), .int (nI 3)]) (σ' := σ3) rfl ?_
            refine am_ic (ty := 53) (tn := 58) rfl (by decide) rfl rfl (fun (h_104 : nI 3 = nI 1) => ?_) (fun (h_104 : ¬ (nI 3 = nI 1)) => ?_)
            · exact absurd h_104 (by decide)
            refine am_run 2 (pc' := 60) (ls' := [some (.ref 0), some (.int (nI 0)), some (.int (nI u)), some (.int (nI 3)), some (.int (nI 0))]) (st' := [.int (nI 4), .int (nI 3)]) (σ' := σ3) rfl ?_
            refine am_ic (ty := 63) (tn := 68) rfl (by decide) rfl rfl (fun (h_105 : nI 3 = nI 4) => ?_) (fun (h_105 : ¬ (nI 3 = nI 4)) => ?_)
            · exact absurd h_105 (by decide)
            refine am_run 1 (pc' := 70) (ls' := [some (.ref 0), some (.int (nI 0)), some (.int (nI u)), some (.int (nI 3)), some (.int (nI 0))]) (st' := [.int (nI 0)]) (σ' := σ3) rfl ?_
            refine am_if (ty := 73) (tn := 77) rfl (by decide) rfl rfl (fun (h_106 : nI 0 = 0) => ?_) (fun (h_106 : ¬ (nI 0 = 0)) => ?_)
            rotate_left
            · exact absurd (by decide) h_106
            refine am_run 1 (pc' := 76) (ls' := [some (.ref 0), some (.int (nI 0)), some (.int (nI u)), some (.int (nI 3)), some (.int (nI 0))]) (st' := [.int (-1000003)]) (σ' := σ3) rfl ?_
            refine am_reti rfl rfl ?_
            exact ⟨rfl, ((hK.KI (Or.inl rfl)).tr hS.KI).inv hI⟩
        · by_cases hw0 : w = 0
          · subst hw0
            refine ⟨nI rd, ?_⟩
            refine am_enter' (M := M_X9_would) rfl rfl rfl (by omega) (ls := [some (.ref 41), some (.int (nI 0)), some (.int (nI u)), some (.int (nI 4)), none]) rfl (fun d' hd' => ?_)
            refine am_run 2 (pc' := 2) (ls' := [some (.ref 41), some (.int (nI 0)), some (.int (nI u)), some (.int (nI 4)), none]) (st' := [.int (nI 0), .ref 41]) (σ' := σ) rfl ?_
            refine am_invv (y := 140) (b := 41) (as := [.int (nI 0)]) (rest := []) rfl rfl rfl rfl rfl rfl rfl (Nat.le_of_ble_eq_true rfl) ?_
            refine c_filled0_1 (by omega) hf ?_
            show am_G _ M_X9_would _ 5 [some (.ref 41), some (.int (nI 0)), some (.int (nI u)), some (.int (nI 4)), none] [.ref 73] σ
            refine am_run 4 (pc' := 16) (ls' := [some (.ref 41), some (.int (nI 0)), some (.int (nI u)), some (.int (nI 4)), some (.ref 73)]) (st' := [.int (nI u)]) (σ' := σ) rfl ?_
            refine am_invs (y := 141) (as := [.int (nI u)]) (rest := []) rfl rfl rfl rfl rfl rfl (Nat.le_of_ble_eq_true rfl) ?_
            refine c_sig1 (by omega) (by omega) ?_
            show am_G _ M_X9_would _ 19 [some (.ref 41), some (.int (nI 0)), some (.int (nI u)), some (.int (nI 4)), some (.ref 73)] [.int (nI 1)] σ
            refine am_if (ty := 31) (tn := 22) rfl (by decide) rfl rfl (fun (h_1 : nI 1 = 0) => ?_) (fun (h_1 : ¬ (nI 1 = 0)) => ?_)
            · exact absurd h_1 (by decide)
            refine am_run 1 (pc' := 23) (ls' := [some (.ref 41), some (.int (nI 0)), some (.int (nI u)), some (.int (nI 4)), some (.ref 73)]) (st' := [.int (nI 4)]) (σ' := σ) rfl ?_
            refine am_if (ty := 31) (tn := 26) rfl (by decide) rfl rfl (fun (h_2 : nI 4 < 0) => ?_) (fun (h_2 : ¬ (nI 4 < 0)) => ?_)
            · exact absurd h_2 (by decide)
            refine am_run 2 (pc' := 28) (ls' := [some (.ref 41), some (.int (nI 0)), some (.int (nI u)), some (.int (nI 4)), some (.ref 73)]) (st' := [.int (nI 4), .int (nI 4)]) (σ' := σ) rfl ?_
            refine am_ic (ty := 31) (tn := 34) rfl (by decide) rfl rfl (fun (h_3 : nI 4 < nI 4) => ?_) (fun (h_3 : ¬ (nI 4 < nI 4)) => ?_)
            · exact absurd h_3 (by decide)
            refine am_run 3 (pc' := 40) (ls' := [some (.ref 41), some (.int (nI 0)), some (.int (nI u)), some (.int (nI 4)), some (.ref 73)]) (st' := [.ref 73, .ref 77]) (σ' := σ) rfl ?_
            refine am_invv (y := 66) (b := 73) (as := []) (rest := [.ref 77]) rfl rfl rfl rfl rfl rfl rfl (Nat.le_of_ble_eq_true rfl) ?_
            refine am_enter' rfl rfl rfl (by omega) (ls := [some (.ref 73)]) rfl (fun d_4 hd_4 => ?_)
            refine am_run 2 (pc' := 4) (ls' := [some (.ref 73)]) (st' := [.ref (σ.2 73 1)]) (σ' := σ) rfl ?_
            refine am_reta rfl rfl (Or.inr ⟨_, rfl⟩) ?_
            show am_G _ M_X9_would _ 43 [some (.ref 41), some (.int (nI 0)), some (.int (nI u)), some (.int (nI 4)), some (.ref 73)] [.ref (σ.2 73 1), .ref 77] σ
            refine am_run 1 (pc' := 45) (ls' := [some (.ref 41), some (.int (nI 0)), some (.int (nI u)), some (.int (nI 4)), some (.ref 73)]) (st' := [.ref 73, .ref (σ.2 73 1), .ref 77]) (σ' := σ) rfl ?_
            refine am_invv (y := 67) (b := 73) (as := []) (rest := [.ref (σ.2 73 1), .ref 77]) rfl rfl rfl rfl rfl rfl rfl (Nat.le_of_ble_eq_true rfl) ?_
            refine am_enter' rfl rfl rfl (by omega) (ls := [some (.ref 73)]) rfl (fun d_5 hd_5 => ?_)
            refine am_run 2 (pc' := 4) (ls' := [some (.ref 73)]) (st' := [.int (σ.1 73 3)]) (σ' := σ) rfl ?_
            refine am_top (v' := nI s) a3 ?_
            refine am_reti rfl rfl ?_
            show am_G _ M_X9_would _ 48 [some (.ref 41), some (.int (nI 0)), some (.int (nI u)), some (.int (nI 4)), some (.ref 73)] [.int (nI s), .ref (σ.2 73 1), .ref 77] σ
            refine am_run 1 (pc' := 49) (ls' := [some (.ref 41), some (.int (nI 0)), some (.int (nI u)), some (.int (nI 4)), some (.ref 73)]) (st' := [.int (nI u), .int (nI s), .ref (σ.2 73 1), .ref 77]) (σ' := σ) rfl ?_
            refine am_invv (y := 56) (b := 77) (as := [.ref (σ.2 73 1), .int (nI s), .int (nI u)]) (rest := []) rfl rfl rfl rfl rfl rfl rfl (Nat.le_of_ble_eq_true rfl) ?_
            refine c_determine (by omega) hW hR (show r + 1 ≤ n by omega) hro (Or.inl rfl) hs hu (fun σ2 hK hO => ?_)
            rw [hz] at hO
            obtain ⟨o0, o1, o2, o3, o4⟩ : σ2.1 77 0 = nI (P + 256 * A) ∧ σ2.1 77 1 = nI 0 ∧ σ2.1 77 2 = nI c ∧ σ2.1 77 3 = nI nx ∧ σ2.1 77 4 = nI rd := hO
            have hM2 := hM.keep2 (σ' := σ2) (fun c a => hK.1 c (by omega))
            have b32 : σ2.1 17 0 = nI s := by rw [hK.1 17 (by decide)]; exact b3
            have hn22 : σ2.1 2 0 = nI n := hM2.1.2.2.2.1
            show am_G _ M_X9_would _ 52 [some (.ref 41), some (.int (nI 0)), some (.int (nI u)), some (.int (nI 4)), some (.ref 73)] [] σ2
            refine am_run 2 (pc' := 54) (ls' := [some (.ref 41), some (.int (nI 0)), some (.int (nI u)), some (.int (nI 4)), some (.ref 73)]) (st' := [.int (nI 1), .int (nI 4)]) (σ' := σ2) rfl ?_
            refine am_ic (ty := 57) (tn := 65) rfl (by decide) rfl rfl (fun (h_6 : nI 4 = nI 1) => ?_) (fun (h_6 : ¬ (nI 4 = nI 1)) => ?_)
            · exact absurd h_6 (by decide)
            refine am_run 2 (pc' := 67) (ls' := [some (.ref 41), some (.int (nI 0)), some (.int (nI u)), some (.int (nI 4)), some (.ref 73)]) (st' := [.int (nI 4), .int (nI 4)]) (σ' := σ2) rfl ?_
            refine am_ic (ty := 70) (tn := 78) rfl (by decide) rfl rfl (fun (h_7 : nI 4 = nI 4) => ?_) (fun (h_7 : ¬ (nI 4 = nI 4)) => ?_)
            rotate_left
            · exact absurd (by decide) h_7
            refine am_run 2 (pc' := 74) (ls' := [some (.ref 41), some (.int (nI 0)), some (.int (nI u)), some (.int (nI 4)), some (.ref 73)]) (st' := [.ref 77]) (σ' := σ2) rfl ?_
            refine am_invv (y := 55) (b := 77) (as := []) (rest := []) rfl rfl rfl rfl rfl rfl rfl (Nat.le_of_ble_eq_true rfl) ?_
            refine am_enter' rfl rfl rfl (by omega) (ls := [some (.ref 77)]) rfl (fun d_8 hd_8 => ?_)
            refine am_run 2 (pc' := 4) (ls' := [some (.ref 77)]) (st' := [.int (σ2.1 77 4)]) (σ' := σ2) rfl ?_
            refine am_top (v' := nI rd) o4 ?_
            refine am_reti rfl rfl ?_
            show am_G _ M_X9_would _ 77 [some (.ref 41), some (.int (nI 0)), some (.int (nI u)), some (.int (nI 4)), some (.ref 73)] [.int (nI rd)] σ2
            refine am_reti rfl rfl ?_
            refine ⟨rfl, ?_⟩
            refine am_enter' (M := M_X10_would) rfl rfl rfl (by omega) (ls := [some (.ref 0), some (.int (nI 0)), some (.int (nI u)), some (.int (nI 4)), none]) rfl (fun d2 hd2 => ?_)
            refine am_run 2 (pc' := 2) (ls' := [some (.ref 0), some (.int (nI 0)), some (.int (nI u)), some (.int (nI 4)), none]) (st' := [.int (nI 0), .ref 0]) (σ' := σ2) rfl ?_
            refine am_invv (y := 151) (b := 0) (as := [.int (nI 0)]) (rest := []) rfl rfl rfl rfl rfl rfl rfl (Nat.le_of_ble_eq_true rfl) ?_
            refine c_prog0_1 (by omega) (n := n) (by exact hn22) hn1 hn60 ?_
            show am_G _ M_X10_would _ 5 [some (.ref 0), some (.int (nI 0)), some (.int (nI u)), some (.int (nI 4)), none] [.int (nI 1)] σ2
            refine am_if (ty := 8) (tn := 11) rfl (by decide) rfl rfl (fun (h_101 : nI 1 = 0) => ?_) (fun (h_101 : ¬ (nI 1 = 0)) => ?_)
            · exact absurd h_101 (by decide)
            refine am_run 3 (pc' := 16) (ls' := [some (.ref 0), some (.int (nI 0)), some (.int (nI u)), some (.int (nI 4)), none]) (st' := [.int (nI 255), .int (nI 0), .int (nI u)]) (σ' := σ2) rfl ?_
            refine am_invs (y := 148) (as := [.int (nI u), .int (nI 0), .int (nI 255)]) (rest := []) rfl rfl rfl rfl rfl rfl (Nat.le_of_ble_eq_true rfl) ?_
            refine c_in1 (by omega) (by omega) (by omega) (by omega) ?_
            show am_G _ M_X10_would _ 19 [some (.ref 0), some (.int (nI 0)), some (.int (nI u)), some (.int (nI 4)), none] [.int (nI 1)] σ2
            refine am_if (ty := 31) (tn := 22) rfl (by decide) rfl rfl (fun (h_102 : nI 1 = 0) => ?_) (fun (h_102 : ¬ (nI 1 = 0)) => ?_)
            · exact absurd h_102 (by decide)
            refine am_run 3 (pc' := 25) (ls' := [some (.ref 0), some (.int (nI 0)), some (.int (nI u)), some (.int (nI 4)), none]) (st' := [.int (nI 4), .int (nI 0), .int (nI 4)]) (σ' := σ2) rfl ?_
            refine am_invs (y := 148) (as := [.int (nI 4), .int (nI 0), .int (nI 4)]) (rest := []) rfl rfl rfl rfl rfl rfl (Nat.le_of_ble_eq_true rfl) ?_
            refine c_in1 (by omega) (by omega) (by omega) (by omega) ?_
            show am_G _ M_X10_would _ 28 [some (.ref 0), some (.int (nI 0)), some (.int (nI u)), some (.int (nI 4)), none] [.int (nI 1)] σ2
            refine am_if (ty := 31) (tn := 34) rfl (by decide) rfl rfl (fun (h_103 : nI 1 = 0) => ?_) (fun (h_103 : ¬ (nI 1 = 0)) => ?_)
            · exact absurd h_103 (by decide)
            refine am_run 5 (pc' := 41) (ls' := [some (.ref 0), some (.int (nI 0)), some (.int (nI u)), some (.int (nI 4)), none]) (st' := [.int (nI 0), .ref 17, .int (nI 0), .ref 0]) (σ' := σ2) rfl ?_
            refine am_ialdN (n := 2) (v := nI s) rfl rfl rfl (by decide) b32 (by decide) ?_
            refine am_run 1 (pc' := 43) (ls' := [some (.ref 0), some (.int (nI 0)), some (.int (nI u)), some (.int (nI 4)), none]) (st' := [.int (nI u), .int (nI s), .int (nI 0), .ref 0]) (σ' := σ2) rfl ?_
            refine am_invv (y := 229) (b := 0) (as := [.int (nI 0), .int (nI s), .int (nI u)]) (rest := []) rfl rfl rfl rfl rfl rfl rfl (Nat.le_of_ble_eq_true rfl) ?_
            refine c_settles1 (by omega) hM2 hs hv.2 hu hz (fun σ3 hS i38 i39 i40 i41 i42 i43 i44 i29 => ?_)
            show am_G _ M_X10_would _ 46 [some (.ref 0), some (.int (nI 0)), some (.int (nI u)), some (.int (nI 4)), none] [.int (nI 1)] σ3
            refine am_run 3 (pc' := 50) (ls' := [some (.ref 0), some (.int (nI 0)), some (.int (nI u)), some (.int (nI 4)), some (.int (nI 1))]) (st' := [.int (nI 1), .int (nI 4)]) (σ' := σ3) rfl ?_
            refine am_ic (ty := 53) (tn := 58) rfl (by decide) rfl rfl (fun (h_104 : nI 4 = nI 1) => ?_) (fun (h_104 : ¬ (nI 4 = nI 1)) => ?_)
            · exact absurd h_104 (by decide)
            refine am_run 2 (pc' := 60) (ls' := [some (.ref 0), some (.int (nI 0)), some (.int (nI u)), some (.int (nI 4)), some (.int (nI 1))]) (st' := [.int (nI 4), .int (nI 4)]) (σ' := σ3) rfl ?_
            refine am_ic (ty := 63) (tn := 68) rfl (by decide) rfl rfl (fun (h_105 : nI 4 = nI 4) => ?_) (fun (h_105 : ¬ (nI 4 = nI 4)) => ?_)
            rotate_left
            · exact absurd (by decide) h_105
            refine am_run 2 (pc' := 67) (ls' := [some (.ref 0), some (.int (nI 0)), some (.int (nI u)), some (.int (nI 4)), some (.int (nI 1))]) (st' := [.int (σ3.1 0 40)]) (σ' := σ3) rfl ?_
            refine am_top (v' := nI rd) i40 ?_
            refine am_reti rfl rfl ?_
            exact ⟨rfl, ((hK.KI (Or.inl rfl)).tr hS.KI).inv hI⟩
          · skip
            refine ⟨nI rd, ?_⟩
            refine am_enter' (M := M_X9_would) rfl rfl rfl (by omega) (ls := [some (.ref 41), some (.int (nI 0)), some (.int (nI u)), some (.int (nI 4)), none]) rfl (fun d' hd' => ?_)
            refine am_run 2 (pc' := 2) (ls' := [some (.ref 41), some (.int (nI 0)), some (.int (nI u)), some (.int (nI 4)), none]) (st' := [.int (nI 0), .ref 41]) (σ' := σ) rfl ?_
            refine am_invv (y := 140) (b := 41) (as := [.int (nI 0)]) (rest := []) rfl rfl rfl rfl rfl rfl rfl (Nat.le_of_ble_eq_true rfl) ?_
            refine c_filled0_1 (by omega) hf ?_
            show am_G _ M_X9_would _ 5 [some (.ref 41), some (.int (nI 0)), some (.int (nI u)), some (.int (nI 4)), none] [.ref 73] σ
            refine am_run 4 (pc' := 16) (ls' := [some (.ref 41), some (.int (nI 0)), some (.int (nI u)), some (.int (nI 4)), some (.ref 73)]) (st' := [.int (nI u)]) (σ' := σ) rfl ?_
            refine am_invs (y := 141) (as := [.int (nI u)]) (rest := []) rfl rfl rfl rfl rfl rfl (Nat.le_of_ble_eq_true rfl) ?_
            refine c_sig1 (by omega) (by omega) ?_
            show am_G _ M_X9_would _ 19 [some (.ref 41), some (.int (nI 0)), some (.int (nI u)), some (.int (nI 4)), some (.ref 73)] [.int (nI 1)] σ
            refine am_if (ty := 31) (tn := 22) rfl (by decide) rfl rfl (fun (h_1 : nI 1 = 0) => ?_) (fun (h_1 : ¬ (nI 1 = 0)) => ?_)
            · exact absurd h_1 (by decide)
            refine am_run 1 (pc' := 23) (ls' := [some (.ref 41), some (.int (nI 0)), some (.int (nI u)), some (.int (nI 4)), some (.ref 73)]) (st' := [.int (nI 4)]) (σ' := σ) rfl ?_
            refine am_if (ty := 31) (tn := 26) rfl (by decide) rfl rfl (fun (h_2 : nI 4 < 0) => ?_) (fun (h_2 : ¬ (nI 4 < 0)) => ?_)
            · exact absurd h_2 (by decide)
            refine am_run 2 (pc' := 28) (ls' := [some (.ref 41), some (.int (nI 0)), some (.int (nI u)), some (.int (nI 4)), some (.ref 73)]) (st' := [.int (nI 4), .int (nI 4)]) (σ' := σ) rfl ?_
            refine am_ic (ty := 31) (tn := 34) rfl (by decide) rfl rfl (fun (h_3 : nI 4 < nI 4) => ?_) (fun (h_3 : ¬ (nI 4 < nI 4)) => ?_)
            · exact absurd h_3 (by decide)
            refine am_run 3 (pc' := 40) (ls' := [some (.ref 41), some (.int (nI 0)), some (.int (nI u)), some (.int (nI 4)), some (.ref 73)]) (st' := [.ref 73, .ref 77]) (σ' := σ) rfl ?_
            refine am_invv (y := 66) (b := 73) (as := []) (rest := [.ref 77]) rfl rfl rfl rfl rfl rfl rfl (Nat.le_of_ble_eq_true rfl) ?_
            refine am_enter' rfl rfl rfl (by omega) (ls := [some (.ref 73)]) rfl (fun d_4 hd_4 => ?_)
            refine am_run 2 (pc' := 4) (ls' := [some (.ref 73)]) (st' := [.ref (σ.2 73 1)]) (σ' := σ) rfl ?_
            refine am_reta rfl rfl (Or.inr ⟨_, rfl⟩) ?_
            show am_G _ M_X9_would _ 43 [some (.ref 41), some (.int (nI 0)), some (.int (nI u)), some (.int (nI 4)), some (.ref 73)] [.ref (σ.2 73 1), .ref 77] σ
            refine am_run 1 (pc' := 45) (ls' := [some (.ref 41), some (.int (nI 0)), some (.int (nI u)), some (.int (nI 4)), some (.ref 73)]) (st' := [.ref 73, .ref (σ.2 73 1), .ref 77]) (σ' := σ) rfl ?_
            refine am_invv (y := 67) (b := 73) (as := []) (rest := [.ref (σ.2 73 1), .ref 77]) rfl rfl rfl rfl rfl rfl rfl (Nat.le_of_ble_eq_true rfl) ?_
            refine am_enter' rfl rfl rfl (by omega) (ls := [some (.ref 73)]) rfl (fun d_5 hd_5 => ?_)
            refine am_run 2 (pc' := 4) (ls' := [some (.ref 73)]) (st' := [.int (σ.1 73 3)]) (σ' := σ) rfl ?_
            refine am_top (v' := nI s) a3 ?_
            refine am_reti rfl rfl ?_
            show am_G _ M_X9_would _ 48 [some (.ref 41), some (.int (nI 0)), some (.int (nI u)), some (.int (nI 4)), some (.ref 73)] [.int (nI s), .ref (σ.2 73 1), .ref 77] σ
            refine am_run 1 (pc' := 49) (ls' := [some (.ref 41), some (.int (nI 0)), some (.int (nI u)), some (.int (nI 4)), some (.ref 73)]) (st' := [.int (nI u), .int (nI s), .ref (σ.2 73 1), .ref 77]) (σ' := σ) rfl ?_
            refine am_invv (y := 56) (b := 77) (as := [.ref (σ.2 73 1), .int (nI s), .int (nI u)]) (rest := []) rfl rfl rfl rfl rfl rfl rfl (Nat.le_of_ble_eq_true rfl) ?_
            refine c_determine (by omega) hW hR (show r + 1 ≤ n by omega) hro (Or.inl rfl) hs hu (fun σ2 hK hO => ?_)
            rw [hz] at hO
            obtain ⟨o0, o1, o2, o3, o4⟩ : σ2.1 77 0 = nI (P + 256 * A) ∧ σ2.1 77 1 = nI w ∧ σ2.1 77 2 = nI c ∧ σ2.1 77 3 = nI nx ∧ σ2.1 77 4 = nI rd := hO
            have hM2 := hM.keep2 (σ' := σ2) (fun c a => hK.1 c (by omega))
            have b32 : σ2.1 17 0 = nI s := by rw [hK.1 17 (by decide)]; exact b3
            have hn22 : σ2.1 2 0 = nI n := hM2.1.2.2.2.1
            show am_G _ M_X9_would _ 52 [some (.ref 41), some (.int (nI 0)), some (.int (nI u)), some (.int (nI 4)), some (.ref 73)] [] σ2
            refine am_run 2 (pc' := 54) (ls' := [some (.ref 41), some (.int (nI 0)), some (.int (nI u)), some (.int (nI 4)), some (.ref 73)]) (st' := [.int (nI 1), .int (nI 4)]) (σ' := σ2) rfl ?_
            refine am_ic (ty := 57) (tn := 65) rfl (by decide) rfl rfl (fun (h_6 : nI 4 = nI 1) => ?_) (fun (h_6 : ¬ (nI 4 = nI 1)) => ?_)
            · exact absurd h_6 (by decide)
            refine am_run 2 (pc' := 67) (ls' := [some (.ref 41), some (.int (nI 0)), some (.int (nI u)), some (.int (nI 4)), some (.ref 73)]) (st' := [.int (nI 4), .int (nI 4)]) (σ' := σ2) rfl ?_
            refine am_ic (ty := 70) (tn := 78) rfl (by decide) rfl rfl (fun (h_7 : nI 4 = nI 4) => ?_) (fun (h_7 : ¬ (nI 4 = nI 4)) => ?_)
            rotate_left
            · exact absurd (by decide) h_7
            refine am_run 2 (pc' := 74) (ls' := [some (.ref 41), some (.int (nI 0)), some (.int (nI u)), some (.int (nI 4)), some (.ref 73)]) (st' := [.ref 77]) (σ' := σ2) rfl ?_
            refine am_invv (y := 55) (b := 77) (as := []) (rest := []) rfl rfl rfl rfl rfl rfl rfl (Nat.le_of_ble_eq_true rfl) ?_
            refine am_enter' rfl rfl rfl (by omega) (ls := [some (.ref 77)]) rfl (fun d_8 hd_8 => ?_)
            refine am_run 2 (pc' := 4) (ls' := [some (.ref 77)]) (st' := [.int (σ2.1 77 4)]) (σ' := σ2) rfl ?_
            refine am_top (v' := nI rd) o4 ?_
            refine am_reti rfl rfl ?_
            show am_G _ M_X9_would _ 77 [some (.ref 41), some (.int (nI 0)), some (.int (nI u)), some (.int (nI 4)), some (.ref 73)] [.int (nI rd)] σ2
            refine am_reti rfl rfl ?_
            refine ⟨rfl, ?_⟩
            refine am_enter' (M := M_X10_would) rfl rfl rfl (by omega) (ls := [some (.ref 0), some (.int (nI 0)), some (.int (nI u)), some (.int (nI 4)), none]) rfl (fun d2 hd2 => ?_)
            refine am_run 2 (pc' := 2) (ls' := [some (.ref 0), some (.int (nI 0)), some (.int (nI u)), some (.int (nI 4)), none]) (st' := [.int (nI 0), .ref 0]) (σ' := σ2) rfl ?_
            refine am_invv (y := 151) (b := 0) (as := [.int (nI 0)]) (rest := []) rfl rfl rfl rfl rfl rfl rfl (Nat.le_of_ble_eq_true rfl) ?_
            refine c_prog0_1 (by omega) (n := n) (by exact hn22) hn1 hn60 ?_
            show am_G _ M_X10_would _ 5 [some (.ref 0), some (.int (nI 0)), some (.int (nI u)), some (.int (nI 4)), none] [.int (nI 1)] σ2
            refine am_if (ty := 8) (tn := 11) rfl (by decide) rfl rfl (fun (h_101 : nI 1 = 0) => ?_) (fun (h_101 : ¬ (nI 1 = 0)) => ?_)
            · exact absurd h_101 (by decide)
            refine am_run 3 (pc' := 16) (ls' := [some (.ref 0), some (.int (nI 0)), some (.int (nI u)), some (.int (nI 4)), none]) (st' := [.int (nI 255), .int (nI 0), .int (nI u)]) (σ' := σ2) rfl ?_
            refine am_invs (y := 148) (as := [.int (nI u), .int (nI 0), .int (nI 255)]) (rest := []) rfl rfl rfl rfl rfl rfl (Nat.le_of_ble_eq_true rfl) ?_
            refine c_in1 (by omega) (by omega) (by omega) (by omega) ?_
            show am_G _ M_X10_would _ 19 [some (.ref 0), some (.int (nI 0)), some (.int (nI u)), some (.int (nI 4)), none] [.int (nI 1)] σ2
            refine am_if (ty := 31) (tn := 22) rfl (by decide) rfl rfl (fun (h_102 : nI 1 = 0) => ?_) (fun (h_102 : ¬ (nI 1 = 0)) => ?_)
            · exact absurd h_102 (by decide)
            refine am_run 3 (pc' := 25) (ls' := [some (.ref 0), some (.int (nI 0)), some (.int (nI u)), some (.int (nI 4)), none]) (st' := [.int (nI 4), .int (nI 0), .int (nI 4)]) (σ' := σ2) rfl ?_
            refine am_invs (y := 148) (as := [.int (nI 4), .int (nI 0), .int (nI 4)]) (rest := []) rfl rfl rfl rfl rfl rfl (Nat.le_of_ble_eq_true rfl) ?_
            refine c_in1 (by omega) (by omega) (by omega) (by omega) ?_
            show am_G _ M_X10_would _ 28 [some (.ref 0), some (.int (nI 0)), some (.int (nI u)), some (.int (nI 4)), none] [.int (nI 1)] σ2
            refine am_if (ty := 31) (tn := 34) rfl (by decide) rfl rfl (fun (h_103 : nI 1 = 0) => ?_) (fun (h_103 : ¬ (nI 1 = 0)) => ?_)
            · exact absurd h_103 (by decide)
            refine am_run 5 (pc' := 41) (ls' := [some (.ref 0), some (.int (nI 0)), some (.int (nI u)), some (.int (nI 4)), none]) (st' := [.int (nI 0), .ref 17, .int (nI 0), .ref 0]) (σ' := σ2) rfl ?_
            refine am_ialdN (n := 2) (v := nI s) rfl rfl rfl (by decide) b32 (by decide) ?_
            refine am_run 1 (pc' := 43) (ls' := [some (.ref 0), some (.int (nI 0)), some (.int (nI u)), some (.int (nI 4)), none]) (st' := [.int (nI u), .int (nI s), .int (nI 0), .ref 0]) (σ' := σ2) rfl ?_
            refine am_invv (y := 229) (b := 0) (as := [.int (nI 0), .int (nI s), .int (nI u)]) (rest := []) rfl rfl rfl rfl rfl rfl rfl (Nat.le_of_ble_eq_true rfl) ?_
            refine c_settles0 (by omega) hM2 hs hv.2 hu hz hw0 (fun σ3 hS i38 i39 i40 i41 i29 => ?_)
            show am_G _ M_X10_would _ 46 [some (.ref 0), some (.int (nI 0)), some (.int (nI u)), some (.int (nI 4)), none] [.int (nI 0)] σ3
            refine am_run 3 (pc' := 50) (ls' := [some (.ref 0), some (.int (nI 0)), some (.int (nI u)), some (.int (nI 4)), some (.int (nI 0))]) (st' := [.int (nI 1), .int (nI 4)]) (σ' := σ3) rfl ?_
            refine am_ic (ty := 53) (tn := 58) rfl (by decide) rfl rfl (fun (h_104 : nI 4 = nI 1) => ?_) (fun (h_104 : ¬ (nI 4 = nI 1)) => ?_)
            · exact absurd h_104 (by decide)
            refine am_run 2 (pc' := 60) (ls' := [some (.ref 0), some (.int (nI 0)), some (.int (nI u)), some (.int (nI 4)), some (.int (nI 0))]) (st' := [.int (nI 4), .int (nI 4)]) (σ' := σ3) rfl ?_
            refine am_ic (ty := 63) (tn := 68) rfl (by decide) rfl rfl (fun (h_105 : nI 4 = nI 4) => ?_) (fun (h_105 : ¬ (nI 4 = nI 4)) => ?_)
            rotate_left
            · exact absurd (by decide) h_105
            refine am_run 2 (pc' := 67) (ls' := [some (.ref 0), some (.int (nI 0)), some (.int (nI u)), some (.int (nI 4)), some (.int (nI 0))]) (st' := [.int (σ3.1 0 40)]) (σ' := σ3) rfl ?_
            refine am_top (v' := nI rd) i40 ?_
            refine am_reti rfl rfl ?_
            exact ⟨rfl, ((hK.KI (Or.inl rfl)).tr hS.KI).inv hI⟩
      · rcases id hz with hzn | ⟨hz0, hzb⟩
        · skip
          refine ⟨-1000002, ?_⟩
          refine am_enter' (M := M_X9_would) rfl rfl rfl (by omega) (ls := [some (.ref 41), some (.int (nI 0)), some (.int (nI u)), some (.int z), none]) rfl (fun d' hd' => ?_)
          refine am_run 2 (pc' := 2) (ls' := [some (.ref 41), some (.int (nI 0)), some (.int (nI u)), some (.int z), none]) (st' := [.int (nI 0), .ref 41]) (σ' := σ) rfl ?_
          refine am_invv (y := 140) (b := 41) (as := [.int (nI 0)]) (rest := []) rfl rfl rfl rfl rfl rfl rfl (Nat.le_of_ble_eq_true rfl) ?_
          refine c_filled0_1 (by omega) hf ?_
          show am_G _ M_X9_would _ 5 [some (.ref 41), some (.int (nI 0)), some (.int (nI u)), some (.int z), none] [.ref 73] σ
          refine am_run 4 (pc' := 16) (ls' := [some (.ref 41), some (.int (nI 0)), some (.int (nI u)), some (.int z), some (.ref 73)]) (st' := [.int (nI u)]) (σ' := σ) rfl ?_
          refine am_invs (y := 141) (as := [.int (nI u)]) (rest := []) rfl rfl rfl rfl rfl rfl (Nat.le_of_ble_eq_true rfl) ?_
          refine c_sig1 (by omega) (by omega) ?_
          show am_G _ M_X9_would _ 19 [some (.ref 41), some (.int (nI 0)), some (.int (nI u)), some (.int z), some (.ref 73)] [.int (nI 1)] σ
          refine am_if (ty := 31) (tn := 22) rfl (by decide) rfl rfl (fun (h_1 : nI 1 = 0) => ?_) (fun (h_1 : ¬ (nI 1 = 0)) => ?_)
          · exact absurd h_1 (by decide)
          refine am_run 1 (pc' := 23) (ls' := [some (.ref 41), some (.int (nI 0)), some (.int (nI u)), some (.int z), some (.ref 73)]) (st' := [.int z]) (σ' := σ) rfl ?_
          refine am_if (ty := 31) (tn := 26) rfl (by decide) rfl rfl (fun (h_2 : z < 0) => ?_) (fun (h_2 : ¬ (z < 0)) => ?_)
          rotate_left
          · exact absurd hzn h_2
          refine am_run 1 (pc' := 33) (ls' := [some (.ref 41), some (.int (nI 0)), some (.int (nI u)), some (.int z), some (.ref 73)]) (st' := [.int (-1000002)]) (σ' := σ) rfl ?_
          refine am_reti rfl rfl ?_
          refine ⟨rfl, ?_⟩
          refine am_enter' (M := M_X10_would) rfl rfl rfl (by omega) (ls := [some (.ref 0), some (.int (nI 0)), some (.int (nI u)), some (.int z), none]) rfl (fun d2 hd2 => ?_)
          refine am_run 2 (pc' := 2) (ls' := [some (.ref 0), some (.int (nI 0)), some (.int (nI u)), some (.int z), none]) (st' := [.int (nI 0), .ref 0]) (σ' := σ) rfl ?_
          refine am_invv (y := 151) (b := 0) (as := [.int (nI 0)]) (rest := []) rfl rfl rfl rfl rfl rfl rfl (Nat.le_of_ble_eq_true rfl) ?_
          refine c_prog0_1 (by omega) (n := n) (by exact hn2) hn1 hn60 ?_
          show am_G _ M_X10_would _ 5 [some (.ref 0), some (.int (nI 0)), some (.int (nI u)), some (.int z), none] [.int (nI 1)] σ
          refine am_if (ty := 8) (tn := 11) rfl (by decide) rfl rfl (fun (h_101 : nI 1 = 0) => ?_) (fun (h_101 : ¬ (nI 1 = 0)) => ?_)
          · exact absurd h_101 (by decide)
          refine am_run 3 (pc' := 16) (ls' := [some (.ref 0), some (.int (nI 0)), some (.int (nI u)), some (.int z), none]) (st' := [.int (nI 255), .int (nI 0), .int (nI u)]) (σ' := σ) rfl ?_
          refine am_invs (y := 148) (as := [.int (nI u), .int (nI 0), .int (nI 255)]) (rest := []) rfl rfl rfl rfl rfl rfl (Nat.le_of_ble_eq_true rfl) ?_
          refine c_in1 (by omega) (by omega) (by omega) (by omega) ?_
          show am_G _ M_X10_would _ 19 [some (.ref 0), some (.int (nI 0)), some (.int (nI u)), some (.int z), none] [.int (nI 1)] σ
          refine am_if (ty := 31) (tn := 22) rfl (by decide) rfl rfl (fun (h_102 : nI 1 = 0) => ?_) (fun (h_102 : ¬ (nI 1 = 0)) => ?_)
          · exact absurd h_102 (by decide)
          refine am_run 3 (pc' := 25) (ls' := [some (.ref 0), some (.int (nI 0)), some (.int (nI u)), some (.int z), none]) (st' := [.int (nI 4), .int (nI 0), .int z]) (σ' := σ) rfl ?_
          refine am_invs (y := 148) (as := [.int z, .int (nI 0), .int (nI 4)]) (rest := []) rfl rfl rfl rfl rfl rfl (Nat.le_of_ble_eq_true rfl) ?_
          refine c_in0 (by omega) hz ?_
          show am_G _ M_X10_would _ 28 [some (.ref 0), some (.int (nI 0)), some (.int (nI u)), some (.int z), none] [.int (nI 0)] σ
          refine am_if (ty := 31) (tn := 34) rfl (by decide) rfl rfl (fun (h_103 : nI 0 = 0) => ?_) (fun (h_103 : ¬ (nI 0 = 0)) => ?_)
          rotate_left
          · exact absurd (by decide) h_103
          refine am_run 1 (pc' := 33) (ls' := [some (.ref 0), some (.int (nI 0)), some (.int (nI u)), some (.int z), none]) (st' := [.int (-1000002)]) (σ' := σ) rfl ?_
          refine am_reti rfl rfl ?_
          exact ⟨rfl, hI⟩
        · skip
          refine ⟨-1000002, ?_⟩
          refine am_enter' (M := M_X9_would) rfl rfl rfl (by omega) (ls := [some (.ref 41), some (.int (nI 0)), some (.int (nI u)), some (.int z), none]) rfl (fun d' hd' => ?_)
          refine am_run 2 (pc' := 2) (ls' := [some (.ref 41), some (.int (nI 0)), some (.int (nI u)), some (.int z), none]) (st' := [.int (nI 0), .ref 41]) (σ' := σ) rfl ?_
          refine am_invv (y := 140) (b := 41) (as := [.int (nI 0)]) (rest := []) rfl rfl rfl rfl rfl rfl rfl (Nat.le_of_ble_eq_true rfl) ?_
          refine c_filled0_1 (by omega) hf ?_
          show am_G _ M_X9_would _ 5 [some (.ref 41), some (.int (nI 0)), some (.int (nI u)), some (.int z), none] [.ref 73] σ
          refine am_run 4 (pc' := 16) (ls' := [some (.ref 41), some (.int (nI 0)), some (.int (nI u)), some (.int z), some (.ref 73)]) (st' := [.int (nI u)]) (σ' := σ) rfl ?_
          refine am_invs (y := 141) (as := [.int (nI u)]) (rest := []) rfl rfl rfl rfl rfl rfl (Nat.le_of_ble_eq_true rfl) ?_
          refine c_sig1 (by omega) (by omega) ?_
          show am_G _ M_X9_would _ 19 [some (.ref 41), some (.int (nI 0)), some (.int (nI u)), some (.int z), some (.ref 73)] [.int (nI 1)] σ
          refine am_if (ty := 31) (tn := 22) rfl (by decide) rfl rfl (fun (h_1 : nI 1 = 0) => ?_) (fun (h_1 : ¬ (nI 1 = 0)) => ?_)
          · exact absurd h_1 (by decide)
          refine am_run 1 (pc' := 23) (ls' := [some (.ref 41), some (.int (nI 0)), some (.int (nI u)), some (.int z), some (.ref 73)]) (st' := [.int z]) (σ' := σ) rfl ?_
          refine am_if (ty := 31) (tn := 26) rfl (by decide) rfl rfl (fun (h_2 : z < 0) => ?_) (fun (h_2 : ¬ (z < 0)) => ?_)
          · exact absurd h_2 hz0
          refine am_run 2 (pc' := 28) (ls' := [some (.ref 41), some (.int (nI 0)), some (.int (nI u)), some (.int z), some (.ref 73)]) (st' := [.int (nI 4), .int z]) (σ' := σ) rfl ?_
          refine am_ic (ty := 31) (tn := 34) rfl (by decide) rfl rfl (fun (h_3 : nI 4 < z) => ?_) (fun (h_3 : ¬ (nI 4 < z)) => ?_)
          rotate_left
          · exact absurd hzb h_3
          refine am_run 1 (pc' := 33) (ls' := [some (.ref 41), some (.int (nI 0)), some (.int (nI u)), some (.int z), some (.ref 73)]) (st' := [.int (-1000002)]) (σ' := σ) rfl ?_
          refine am_reti rfl rfl ?_
          refine ⟨rfl, ?_⟩
          refine am_enter' (M := M_X10_would) rfl rfl rfl (by omega) (ls := [some (.ref 0), some (.int (nI 0)), some (.int (nI u)), some (.int z), none]) rfl (fun d2 hd2 => ?_)
          refine am_run 2 (pc' := 2) (ls' := [some (.ref 0), some (.int (nI 0)), some (.int (nI u)), some (.int z), none]) (st' := [.int (nI 0), .ref 0]) (σ' := σ) rfl ?_
          refine am_invv (y := 151) (b := 0) (as := [.int (nI 0)]) (rest := []) rfl rfl rfl rfl rfl rfl rfl (Nat.le_of_ble_eq_true rfl) ?_
          refine c_prog0_1 (by omega) (n := n) (by exact hn2) hn1 hn60 ?_
          show am_G _ M_X10_would _ 5 [some (.ref 0), some (.int (nI 0)), some (.int (nI u)), some (.int z), none] [.int (nI 1)] σ
          refine am_if (ty := 8) (tn := 11) rfl (by decide) rfl rfl (fun (h_101 : nI 1 = 0) => ?_) (fun (h_101 : ¬ (nI 1 = 0)) => ?_)
          · exact absurd h_101 (by decide)
          refine am_run 3 (pc' := 16) (ls' := [some (.ref 0), some (.int (nI 0)), some (.int (nI u)), some (.int z), none]) (st' := [.int (nI 255), .int (nI 0), .int (nI u)]) (σ' := σ) rfl ?_
          refine am_invs (y := 148) (as := [.int (nI u), .int (nI 0), .int (nI 255)]) (rest := []) rfl rfl rfl rfl rfl rfl (Nat.le_of_ble_eq_true rfl) ?_
          refine c_in1 (by omega) (by omega) (by omega) (by omega) ?_
          show am_G _ M_X10_would _ 19 [some (.ref 0), some (.int (nI 0)), some (.int (nI u)), some (.int z), none] [.int (nI 1)] σ
          refine am_if (ty := 31) (tn := 22) rfl (by decide) rfl rfl (fun (h_102 : nI 1 = 0) => ?_) (fun (h_102 : ¬ (nI 1 = 0)) => ?_)
          · exact absurd h_102 (by decide)
          refine am_run 3 (pc' := 25) (ls' := [some (.ref 0), some (.int (nI 0)), some (.int (nI u)), some (.int z), none]) (st' := [.int (nI 4), .int (nI 0), .int z]) (σ' := σ) rfl ?_
          refine am_invs (y := 148) (as := [.int z, .int (nI 0), .int (nI 4)]) (rest := []) rfl rfl rfl rfl rfl rfl (Nat.le_of_ble_eq_true rfl) ?_
          refine c_in0 (by omega) hz ?_
          show am_G _ M_X10_would _ 28 [some (.ref 0), some (.int (nI 0)), some (.int (nI u)), some (.int z), none] [.int (nI 0)] σ
          refine am_if (ty := 31) (tn := 34) rfl (by decide) rfl rfl (fun (h_103 : nI 0 = 0) => ?_) (fun (h_103 : ¬ (nI 0 = 0)) => ?_)
          rotate_left
          · exact absurd (by decide) h_103
          refine am_run 1 (pc' := 33) (ls' := [some (.ref 0), some (.int (nI 0)), some (.int (nI u)), some (.int z), none]) (st' := [.int (-1000002)]) (σ' := σ) rfl ?_
          refine am_reti rfl rfl ?_
          exact ⟨rfl, hI⟩
    · skip
      refine ⟨-1000002, ?_⟩
      refine am_enter' (M := M_X9_would) rfl rfl rfl (by omega) (ls := [some (.ref 41), some (.int (nI 0)), some (.int y), some (.int z), none]) rfl (fun d' hd' => ?_)
      refine am_run 2 (pc' := 2) (ls' := [some (.ref 41), some (.int (nI 0)), some (.int y), some (.int z), none]) (st' := [.int (nI 0), .ref 41]) (σ' := σ) rfl ?_
      refine am_invv (y := 140) (b := 41) (as := [.int (nI 0)]) (rest := []) rfl rfl rfl rfl rfl rfl rfl (Nat.le_of_ble_eq_true rfl) ?_
      refine c_filled0_1 (by omega) hf ?_
      show am_G _ M_X9_would _ 5 [some (.ref 41), some (.int (nI 0)), some (.int y), some (.int z), none] [.ref 73] σ
      refine am_run 4 (pc' := 16) (ls' := [some (.ref 41), some (.int (nI 0)), some (.int y), some (.int z), some (.ref 73)]) (st' := [.int y]) (σ' := σ) rfl ?_
      refine am_invs (y := 141) (as := [.int y]) (rest := []) rfl rfl rfl rfl rfl rfl (Nat.le_of_ble_eq_true rfl) ?_
      refine c_sig0 (by omega) hy ?_
      show am_G _ M_X9_would _ 19 [some (.ref 41), some (.int (nI 0)), some (.int y), some (.int z), some (.ref 73)] [.int (nI 0)] σ
      refine am_if (ty := 31) (tn := 22) rfl (by decide) rfl rfl (fun (h_1 : nI 0 = 0) => ?_) (fun (h_1 : ¬ (nI 0 = 0)) => ?_)
      rotate_left
      · exact absurd (by decide) h_1
      refine am_run 1 (pc' := 33) (ls' := [some (.ref 41), some (.int (nI 0)), some (.int y), some (.int z), some (.ref 73)]) (st' := [.int (-1000002)]) (σ' := σ) rfl ?_
      refine am_reti rfl rfl ?_
      refine ⟨rfl, ?_⟩
      refine am_enter' (M := M_X10_would) rfl rfl rfl (by omega) (ls := [some (.ref 0), some (.int (nI 0)), some (.int y), some (.int z), none]) rfl (fun d2 hd2 => ?_)
      refine am_run 2 (pc' := 2) (ls' := [some (.ref 0), some (.int (nI 0)), some (.int y), some (.int z), none]) (st' := [.int (nI 0), .ref 0]) (σ' := σ) rfl ?_
      refine am_invv (y := 151) (b := 0) (as := [.int (nI 0)]) (rest := []) rfl rfl rfl rfl rfl rfl rfl (Nat.le_of_ble_eq_true rfl) ?_
      refine c_prog0_1 (by omega) (n := n) (by exact hn2) hn1 hn60 ?_
      show am_G _ M_X10_would _ 5 [some (.ref 0), some (.int (nI 0)), some (.int y), some (.int z), none] [.int (nI 1)] σ
      refine am_if (ty := 8) (tn := 11) rfl (by decide) rfl rfl (fun (h_101 : nI 1 = 0) => ?_) (fun (h_101 : ¬ (nI 1 = 0)) => ?_)
      · exact absurd h_101 (by decide)
      refine am_run 3 (pc' := 16) (ls' := [some (.ref 0), some (.int (nI 0)), some (.int y), some (.int z), none]) (st' := [.int (nI 255), .int (nI 0), .int y]) (σ' := σ) rfl ?_
      refine am_invs (y := 148) (as := [.int y, .int (nI 0), .int (nI 255)]) (rest := []) rfl rfl rfl rfl rfl rfl (Nat.le_of_ble_eq_true rfl) ?_
      refine c_in0 (by omega) hy ?_
      show am_G _ M_X10_would _ 19 [some (.ref 0), some (.int (nI 0)), some (.int y), some (.int z), none] [.int (nI 0)] σ
      refine am_if (ty := 31) (tn := 22) rfl (by decide) rfl rfl (fun (h_102 : nI 0 = 0) => ?_) (fun (h_102 : ¬ (nI 0 = 0)) => ?_)
      rotate_left
      · exact absurd (by decide) h_102
      refine am_run 1 (pc' := 33) (ls' := [some (.ref 0), some (.int (nI 0)), some (.int y), some (.int z), none]) (st' := [.int (-1000002)]) (σ' := σ) rfl ?_
      refine am_reti rfl rfl ?_
      exact ⟨rfl, hI⟩
  · obtain ⟨hf, p, n, r, kk, rk, od, dp, ow, s, m, hP, hH⟩ := hF
    obtain ⟨hn1, hR, hro, hM, hk1, hk2, hkk, hND⟩ := id hP
    obtain ⟨a3, b3, hv, a4, b4, hm, hh⟩ := id hH
    have hW := hM.1.2.1
    have hn60 := hW.1
    have hs := hv.1
    have hrn : r < n := hM.2.1.2.1
    have hn2 := hM.1.2.2.2.1
    rcases i32_in y (k := 255) (by decide) with ⟨u, hu0, rfl⟩ | hy
    · have hu : u < 256 := by omega
      rcases i32_in z (k := 4) (by decide) with ⟨u2, hu2, rfl⟩ | hz
      · skip
        obtain ⟨b1, b2, b3_, b4_, b5_, b6_⟩ := oc_b (s := s) hW (show r + 1 ≤ n by omega) hu
        have hnv := oc_vs hM s hu
        generalize hz : oc p (r + 1) s u = z0 at b1 b2 b3_ b4_ b5_ b6_ hnv
        obtain ⟨P, A, w, c, nx, rd⟩ := z0
        have b1 : P < 256 := b1
        have b2 : A < 256 := b2
        have b3_ : w ≤ 256 := b3_
        have b4_ : c ≤ 6 := b4_
        have b5_ : nx < 1048576 := b5_
        have b6_ : rd ≤ 9 := b6_
        have hnv : VS p r nx := hnv
        rcases (show u2 = 0 ∨ u2 = 1 ∨ u2 = 2 ∨ u2 = 3 ∨ u2 = 4 by omega) with rfl | rfl | rfl | rfl | rfl
        · by_cases hw0 : w = 0
          · subst hw0
            refine ⟨nI P, ?_⟩
            refine am_enter' (M := M_X9_would) rfl rfl rfl (by omega) (ls := [some (.ref 41), some (.int (nI 1)), some (.int (nI u)), some (.int (nI 0)), none]) rfl (fun d' hd' => ?_)
            refine am_run 2 (pc' := 2) (ls' := [some (.ref 41), some (.int (nI 1)), some (.int (nI u)), some (.int (nI 0)), none]) (st' := [.int (nI 1), .ref 41]) (σ' := σ) rfl ?_
            refine am_invv (y := 140) (b := 41) (as := [.int (nI 1)]) (rest := []) rfl rfl rfl rfl rfl rfl rfl (Nat.le_of_ble_eq_true rfl) ?_
            refine c_filled1_1 (by omega) hf ?_
            show am_G _ M_X9_would _ 5 [some (.ref 41), some (.int (nI 1)), some (.int (nI u)), some (.int (nI 0)), none] [.ref 75] σ
            refine am_run 4 (pc' := 16) (ls' := [some (.ref 41), some (.int (nI 1)), some (.int (nI u)), some (.int (nI 0)), some (.ref 75)]) (st' := [.int (nI u)]) (σ' := σ) rfl ?_
            refine am_invs (y := 141) (as := [.int (nI u)]) (rest := []) rfl rfl rfl rfl rfl rfl (Nat.le_of_ble_eq_true rfl) ?_
            refine c_sig1 (by omega) (by omega) ?_
            show am_G _ M_X9_would _ 19 [some (.ref 41), some (.int (nI 1)), some (.int (nI u)), some (.int (nI 0)), some (.ref 75)] [.int (nI 1)] σ
            refine am_if (ty := 31) (tn := 22) rfl (by decide) rfl rfl (fun (h_1 : nI 1 = 0) => ?_) (fun (h_1 : ¬ (nI 1 = 0)) => ?_)
            · exact absurd h_1 (by decide)
            refine am_run 1 (pc' := 23) (ls' := [some (.ref 41), some (.int (nI 1)), some (.int (nI u)), some (.int (nI 0)), some (.ref 75)]) (st' := [.int (nI 0)]) (σ' := σ) rfl ?_
            refine am_if (ty := 31) (tn := 26) rfl (by decide) rfl rfl (fun (h_2 : nI 0 < 0) => ?_) (fun (h_2 : ¬ (nI 0 < 0)) => ?_)
            · exact absurd h_2 (by decide)
            refine am_run 2 (pc' := 28) (ls' := [some (.ref 41), some (.int (nI 1)), some (.int (nI u)), some (.int (nI 0)), some (.ref 75)]) (st' := [.int (nI 4), .int (nI 0)]) (σ' := σ) rfl ?_
            refine am_ic (ty := 31) (tn := 34) rfl (by decide) rfl rfl (fun (h_3 : nI 4 < nI 0) => ?_) (fun (h_3 : ¬ (nI 4 < nI 0)) => ?_)
            · exact absurd h_3 (by decide)
            refine am_run 3 (pc' := 40) (ls' := [some (.ref 41), some (.int (nI 1)), some (.int (nI u)), some (.int (nI 0)), some (.ref 75)]) (st' := [.ref 75, .ref 77]) (σ' := σ) rfl ?_
            refine am_invv (y := 66) (b := 75) (as := []) (rest := [.ref 77]) rfl rfl rfl rfl rfl rfl rfl (Nat.le_of_ble_eq_true rfl) ?_
            refine am_enter' rfl rfl rfl (by omega) (ls := [some (.ref 75)]) rfl (fun d_4 hd_4 => ?_)
            refine am_run 2 (pc' := 4) (ls' := [some (.ref 75)]) (st' := [.ref (σ.2 75 1)]) (σ' := σ) rfl ?_
            refine am_reta rfl rfl (Or.inr ⟨_, rfl⟩) ?_
            show am_G _ M_X9_would _ 43 [some (.ref 41), some (.int (nI 1)), some (.int (nI u)), some (.int (nI 0)), some (.ref 75)] [.ref (σ.2 75 1), .ref 77] σ
            refine am_run 1 (pc' := 45) (ls' := [some (.ref 41), some (.int (nI 1)), some (.int (nI u)), some (.int (nI 0)), some (.ref 75)]) (st' := [.ref 75, .ref (σ.2 75 1), .ref 77]) (σ' := σ) rfl ?_
            refine am_invv (y := 67) (b := 75) (as := []) (rest := [.ref (σ.2 75 1), .ref 77]) rfl rfl rfl rfl rfl rfl rfl (Nat.le_of_ble_eq_true rfl) ?_
            refine am_enter' rfl rfl rfl (by omega) (ls := [some (.ref 75)]) rfl (fun d_5 hd_5 => ?_)
            refine am_run 2 (pc' := 4) (ls' := [some (.ref 75)]) (st' := [.int (σ.1 75 3)]) (σ' := σ) rfl ?_
            refine am_top (v' := nI s) a3 ?_
            refine am_reti rfl rfl ?_
            show am_G _ M_X9_would _ 48 [some (.ref 41), some (.int (nI 1)), some (.int (nI u)), some (.int (nI 0)), some (.ref 75)] [.int (nI s), .ref (σ.2 75 1), .ref 77] σ
            refine am_run 1 (pc' := 49) (ls' := [some (.ref 41), some (.int (nI 1)), some (.int (nI u)), some (.int (nI 0)), some (.ref 75)]) (st' := [.int (nI u), .int (nI s), .ref (σ.2 75 1), .ref 77]) (σ' := σ) rfl ?_
            refine am_invv (y := 56) (b := 77) (as := [.ref (σ.2 75 1), .int (nI s), .int (nI u)]) (rest := []) rfl rfl rfl rfl rfl rfl rfl (Nat.le_of_ble_eq_true rfl) ?_
            refine c_determine (by omega) hW hR (show r + 1 ≤ n by omega) hro (Or.inl rfl) hs hu (fun σ2 hK hO => ?_)
            rw [hz] at hO
            obtain ⟨o0, o1, o2, o3, o4⟩ : σ2.1 77 0 = nI (P + 256 * A) ∧ σ2.1 77 1 = nI 0 ∧ σ2.1 77 2 = nI c ∧ σ2.1 77 3 = nI nx ∧ σ2.1 77 4 = nI rd := hO
            have hM2 := hM.keep2 (σ' := σ2) (fun c a => hK.1 c (by omega))
            have b32 : σ2.1 17 1 = nI s := by rw [hK.1 17 (by decide)]; exact b3
            have hn22 : σ2.1 2 1 = nI n := hM2.1.2.2.2.1
            show am_G _ M_X9_would _ 52 [some (.ref 41), some (.int (nI 1)), some (.int (nI u)), some (.int (nI 0)), some (.ref 75)] [] σ2
            refine am_run 2 (pc' := 54) (ls' := [some (.ref 41), some (.int (nI 1)), some (.int (nI u)), some (.int (nI 0)), some (.ref 75)]) (st' := [.int (nI 1), .int (nI 0)]) (σ' := σ2) rfl ?_
            refine am_ic (ty := 57) (tn := 65) rfl (by decide) rfl rfl (fun (h_6 : nI 0 = nI 1) => ?_) (fun (h_6 : ¬ (nI 0 = nI 1)) => ?_)
            · exact absurd h_6 (by decide)
            refine am_run 2 (pc' := 67) (ls' := [some (.ref 41), some (.int (nI 1)), some (.int (nI u)), some (.int (nI 0)), some (.ref 75)]) (st' := [.int (nI 4), .int (nI 0)]) (σ' := σ2) rfl ?_
            refine am_ic (ty := 70) (tn := 78) rfl (by decide) rfl rfl (fun (h_7 : nI 0 = nI 4) => ?_) (fun (h_7 : ¬ (nI 0 = nI 4)) => ?_)
            · exact absurd h_7 (by decide)
            refine am_run 2 (pc' := 82) (ls' := [some (.ref 41), some (.int (nI 1)), some (.int (nI u)), some (.int (nI 0)), some (.ref 75)]) (st' := [.ref 77]) (σ' := σ2) rfl ?_
            refine am_invv (y := 52) (b := 77) (as := []) (rest := []) rfl rfl rfl rfl rfl rfl rfl (Nat.le_of_ble_eq_true rfl) ?_
            refine am_enter' rfl rfl rfl (by omega) (ls := [some (.ref 77)]) rfl (fun d_8 hd_8 => ?_)
            refine am_run 2 (pc' := 4) (ls' := [some (.ref 77)]) (st' := [.int (σ2.1 77 1)]) (σ' := σ2) rfl ?_
            refine am_top (v' := nI 0) o1 ?_
            refine am_if (ty := 11) (tn := 7) rfl (by decide) rfl rfl (fun (h_9 : nI 0 = 0) => ?_) (fun (h_9 : ¬ (nI 0 = 0)) => ?_)
            rotate_left
            · exact absurd (by decide) h_9
            refine am_run 1 (pc' := 12) (ls' := [some (.ref 77)]) (st' := [.int (nI 0)]) (σ' := σ2) rfl ?_
            refine am_retz rfl rfl (by decide) ?_
            show am_G _ M_X9_would _ 85 [some (.ref 41), some (.int (nI 1)), some (.int (nI u)), some (.int (nI 0)), some (.ref 75)] [.int (nI 0)] σ2
            refine am_if (ty := 91) (tn := 88) rfl (by decide) rfl rfl (fun (h_10 : nI 0 = 0) => ?_) (fun (h_10 : ¬ (nI 0 = 0)) => ?_)
            rotate_left
            · exact absurd (by decide) h_10
            refine am_run 1 (pc' := 92) (ls' := [some (.ref 41), some (.int (nI 1)), some (.int (nI u)), some (.int (nI 0)), some (.ref 75)]) (st' := [.int (nI 0)]) (σ' := σ2) rfl ?_
            refine am_if (ty := 95) (tn := 103) rfl (by decide) rfl rfl (fun (h_11 : nI 0 = 0) => ?_) (fun (h_11 : ¬ (nI 0 = 0)) => ?_)
            rotate_left
            · exact absurd (by decide) h_11
            refine am_run 2 (pc' := 99) (ls' := [some (.ref 41), some (.int (nI 1)), some (.int (nI u)), some (.int (nI 0)), some (.ref 75)]) (st' := [.ref 77]) (σ' := σ2) rfl ?_
            refine am_invv (y := 50) (b := 77) (as := []) (rest := []) rfl rfl rfl rfl rfl rfl rfl (Nat.le_of_ble_eq_true rfl) ?_
            refine c_o_present (by omega) (Or.inl rfl) b1 o0 ?_
            show am_G _ M_X9_would _ 102 [some (.ref 41), some (.int (nI 1)), some (.int (nI u)), some (.int (nI 0)), some (.ref 75)] [.int (nI P)] σ2
            refine am_reti rfl rfl ?_
            refine ⟨rfl, ?_⟩
            refine am_enter' (M := M_X10_would) rfl rfl rfl (by omega) (ls := [some (.ref 0), some (.int (nI 1)), some (.int (nI u)), some (.int (nI 0)), none]) rfl (fun d2 hd2 => ?_)
            refine am_run 2 (pc' := 2) (ls' := [some (.ref 0), some (.int (nI 1)), some (.int (nI u)), some (.int (nI 0)), none]) (st' := [.int (nI 1), .ref 0]) (σ' := σ2) rfl ?_
            refine am_invv (y := 151) (b := 0) (as := [.int (nI 1)]) (rest := []) rfl rfl rfl rfl rfl rfl rfl (Nat.le_of_ble_eq_true rfl) ?_
            refine c_prog1_1 (by omega) (n := n) (by exact hn22) hn1 hn60 ?_
            show am_G _ M_X10_would _ 5 [some (.ref 0), some (.int (nI 1)), some (.int (nI u)), some (.int (nI 0)), none] [.int (nI 1)] σ2
            refine am_if (ty := 8) (tn := 11) rfl (by decide) rfl rfl (fun (h_101 : nI 1 = 0) => ?_) (fun (h_101 : ¬ (nI 1 = 0)) => ?_)
            · exact absurd h_101 (by decide)
            refine am_run 3 (pc' := 16) (ls' := [some (.ref 0), some (.int (nI 1)), some (.int (nI u)), some (.int (nI 0)), none]) (st' := [.int (nI 255), .int (nI 0), .int (nI u)]) (σ' := σ2) rfl ?_
            refine am_invs (y := 148) (as := [.int (nI u), .int (nI 0), .int (nI 255)]) (rest := []) rfl rfl rfl rfl rfl rfl (Nat.le_of_ble_eq_true rfl) ?_
            refine c_in1 (by omega) (by omega) (by omega) (by omega) ?_
            show am_G _ M_X10_would _ 19 [some (.ref 0), some (.int (nI 1)), some (.int (nI u)), some (.int (nI 0)), none] [.int (nI 1)] σ2
            refine am_if (ty := 31) (tn := 22) rfl (by decide) rfl rfl (fun (h_102 : nI 1 = 0) => ?_) (fun (h_102 : ¬ (nI 1 = 0)) => ?_)
            · exact absurd h_102 (by decide)
            refine am_run 3 (pc' := 25) (ls' := [some (.ref 0), some (.int (nI 1)), some (.int (nI u)), some (.int (nI 0)), none]) (st' := [.int (nI 4), .int (nI 0), .int (nI 0)]) (σ' := σ2) rfl ?_
            refine am_invs (y := 148) (as := [.int (nI 0), .int (nI 0), .int (nI 4)]) (rest := []) rfl rfl rfl rfl rfl rfl (Nat.le_of_ble_eq_true rfl) ?_
            refine c_in1 (by omega) (by omega) (by omega) (by omega) ?_
            show am_G _ M_X10_would _ 28 [some (.ref 0), some (.int (nI 1)), some (.int (nI u)), some (.int (nI 0)), none] [.int (nI 1)] σ2
            refine am_if (ty := 31) (tn := 34) rfl (by decide) rfl rfl (fun (h_103 : nI 1 = 0) => ?_) (fun (h_103 : ¬ (nI 1 = 0)) => ?_)
            · exact absurd h_103 (by decide)
            refine am_run 5 (pc' := 41) (ls' := [some (.ref 0), some (.int (nI 1)), some (.int (nI u)), some (.int (nI 0)), none]) (st' := [.int (nI 1), .ref 17, .int (nI 1), .ref 0]) (σ' := σ2) rfl ?_
            refine am_ialdN (n := 2) (v := nI s) rfl rfl rfl (by decide) b32 (by decide) ?_
            refine am_run 1 (pc' := 43) (ls' := [some (.ref 0), some (.int (nI 1)), some (.int (nI u)), some (.int (nI 0)), none]) (st' := [.int (nI u), .int (nI s), .int (nI 1), .ref 0]) (σ' := σ2) rfl ?_
            refine am_invv (y := 229) (b := 0) (as := [.int (nI 1), .int (nI s), .int (nI u)]) (rest := []) rfl rfl rfl rfl rfl rfl rfl (Nat.le_of_ble_eq_true rfl) ?_
            refine c_settles1 (by omega) hM2 hs hv.2 hu hz (fun σ3 hS i38 i39 i40 i41 i42 i43 i44 i29 => ?_)
            show am_G _ M_X10_would _ 46 [some (.ref 0), some (.int (nI 1)), some (.int (nI u)), some (.int (nI 0)), none] [.int (nI 1)] σ3
            refine am_run 3 (pc' := 50) (ls' := [some (.ref 0), some (.int (nI 1)), some (.int (nI u)), some (.int (nI 0)), some (.int (nI 1))]) (st' := [.int (nI 1), .int (nI 0)]) (σ' := σ3) rfl ?_
            refine am_ic (ty := 53) (tn := 58) rfl (by decide) rfl rfl (fun (h_104 : nI 0 = nI 1) => ?_) (fun (h_104 : ¬ (nI 0 = nI 1)) => ?_)
            · exact absurd h_104 (by decide)
            refine am_run 2 (pc' := 60) (ls' := [some (.ref 0), some (.int (nI 1)), some (.int (nI u)), some (.int (nI 0)), some (.int (nI 1))]) (st' := [.int (nI 4), .int (nI 0)]) (σ' := σ3) rfl ?_
            refine am_ic (ty := 63) (tn := 68) rfl (by decide) rfl rfl (fun (h_105 : nI 0 = nI 4) => ?_) (fun (h_105 : ¬ (nI 0 = nI 4)) => ?_)
            · exact absurd h_105 (by decide)
            refine am_run 1 (pc' := 70) (ls' := [some (.ref 0), some (.int (nI 1)), some (.int (nI u)), some (.int (nI 0)), some (.int (nI 1))]) (st' := [.int (nI 1)]) (σ' := σ3) rfl ?_
            refine am_if (ty := 73) (tn := 77) rfl (by decide) rfl rfl (fun (h_106 : nI 1 = 0) => ?_) (fun (h_106 : ¬ (nI 1 = 0)) => ?_)
            · exact absurd h_106 (by decide)
            refine am_run 1 (pc' := 78) (ls' := [some (.ref 0), some (.int (nI 1)), some (.int (nI u)), some (.int (nI 0)), some (.int (nI 1))]) (st' := [.int (nI 0)]) (σ' := σ3) rfl ?_
            refine am_if (ty := 81) (tn := 88) rfl (by decide) rfl rfl (fun (h_107 : nI 0 = 0) => ?_) (fun (h_107 : ¬ (nI 0 = 0)) => ?_)
            rotate_left
            · exact absurd (by decide) h_107
            refine am_run 2 (pc' := 85) (ls' := [some (.ref 0), some (.int (nI 1)), some (.int (nI u)), some (.int (nI 0)), some (.int (nI 1))]) (st' := [.int (σ3.1 0 42)]) (σ' := σ3) rfl ?_
            refine am_top (v' := nI P) i42 ?_
            refine am_run 1 (pc' := 104) (ls' := [some (.ref 0), some (.int (nI 1)), some (.int (nI u)), some (.int (nI 0)), some (.int (nI 1))]) (st' := [.int (nI P)]) (σ' := σ3) rfl ?_
            refine am_reti rfl rfl ?_
            exact ⟨rfl, ((hK.KI (Or.inl rfl)).tr hS.KI).inv hI⟩
          · skip
            refine ⟨-1000003, ?_⟩
            refine am_enter' (M := M_X9_would) rfl rfl rfl (by omega) (ls := [some (.ref 41), some (.int (nI 1)), some (.int (nI u)), some (.int (nI 0)), none]) rfl (fun d' hd' => ?_)
            refine am_run 2 (pc' := 2) (ls' := [some (.ref 41), some (.int (nI 1)), some (.int (nI u)), some (.int (nI 0)), none]) (st' := [.int (nI 1), .ref 41]) (σ' := σ) rfl ?_
            refine am_invv (y := 140) (b := 41) (as := [.int (nI 1)]) (rest := []) rfl rfl rfl rfl rfl rfl rfl (Nat.le_of_ble_eq_true rfl) ?_
            refine c_filled1_1 (by omega) hf ?_
            show am_G _ M_X9_would _ 5 [some (.ref 41), some (.int (nI 1)), some (.int (nI u)), some (.int (nI 0)), none] [.ref 75] σ
            refine am_run 4 (pc' := 16) (ls' := [some (.ref 41), some (.int (nI 1)), some (.int (nI u)), some (.int (nI 0)), some (.ref 75)]) (st' := [.int (nI u)]) (σ' := σ) rfl ?_
            refine am_invs (y := 141) (as := [.int (nI u)]) (rest := []) rfl rfl rfl rfl rfl rfl (Nat.le_of_ble_eq_true rfl) ?_
            refine c_sig1 (by omega) (by omega) ?_
            show am_G _ M_X9_would _ 19 [some (.ref 41), some (.int (nI 1)), some (.int (nI u)), some (.int (nI 0)), some (.ref 75)] [.int (nI 1)] σ
            refine am_if (ty := 31) (tn := 22) rfl (by decide) rfl rfl (fun (h_1 : nI 1 = 0) => ?_) (fun (h_1 : ¬ (nI 1 = 0)) => ?_)
            · exact absurd h_1 (by decide)
            refine am_run 1 (pc' := 23) (ls' := [some (.ref 41), some (.int (nI 1)), some (.int (nI u)), some (.int (nI 0)), some (.ref 75)]) (st' := [.int (nI 0)]) (σ' := σ) rfl ?_
            refine am_if (ty := 31) (tn := 26) rfl (by decide) rfl rfl (fun (h_2 : nI 0 < 0) => ?_) (fun (h_2 : ¬ (nI 0 < 0)) => ?_)
            · exact absurd h_2 (by decide)
            refine am_run 2 (pc' := 28) (ls' := [some (.ref 41), some (.int (nI 1)), some (.int (nI u)), some (.int (nI 0)), some (.ref 75)]) (st' := [.int (nI 4), .int (nI 0)]) (σ' := σ) rfl ?_
            refine am_ic (ty := 31) (tn := 34) rfl (by decide) rfl rfl (fun (h_3 : nI 4 < nI 0) => ?_) (fun (h_3 : ¬ (nI 4 < nI 0)) => ?_)
            · exact absurd h_3 (by decide)
            refine am_run 3 (pc' := 40) (ls' := [some (.ref 41), some (.int (nI 1)), some (.int (nI u)), some (.int (nI 0)), some (.ref 75)]) (st' := [.ref 75, .ref 77]) (σ' := σ) rfl ?_
            refine am_invv (y := 66) (b := 75) (as := []) (rest := [.ref 77]) rfl rfl rfl rfl rfl rfl rfl (Nat.le_of_ble_eq_true rfl) ?_
            refine am_enter' rfl rfl rfl (by omega) (ls := [some (.ref 75)]) rfl (fun d_4 hd_4 => ?_)
            refine am_run 2 (pc' := 4) (ls' := [some (.ref 75)]) (st' := [.ref (σ.2 75 1)]) (σ' := σ) rfl ?_
            refine am_reta rfl rfl (Or.inr ⟨_, rfl⟩) ?_
            show am_G _ M_X9_would _ 43 [some (.ref 41), some (.int (nI 1)), some (.int (nI u)), some (.int (nI 0)), some (.ref 75)] [.ref (σ.2 75 1), .ref 77] σ
            refine am_run 1 (pc' := 45) (ls' := [some (.ref 41), some (.int (nI 1)), some (.int (nI u)), some (.int (nI 0)), some (.ref 75)]) (st' := [.ref 75, .ref (σ.2 75 1), .ref 77]) (σ' := σ) rfl ?_
            refine am_invv (y := 67) (b := 75) (as := []) (rest := [.ref (σ.2 75 1), .ref 77]) rfl rfl rfl rfl rfl rfl rfl (Nat.le_of_ble_eq_true rfl) ?_
            refine am_enter' rfl rfl rfl (by omega) (ls := [some (.ref 75)]) rfl (fun d_5 hd_5 => ?_)
            refine am_run 2 (pc' := 4) (ls' := [some (.ref 75)]) (st' := [.int (σ.1 75 3)]) (σ' := σ) rfl ?_
            refine am_top (v' := nI s) a3 ?_
            refine am_reti rfl rfl ?_
            show am_G _ M_X9_would _ 48 [some (.ref 41), some (.int (nI 1)), some (.int (nI u)), some (.int (nI 0)), some (.ref 75)] [.int (nI s), .ref (σ.2 75 1), .ref 77] σ
            refine am_run 1 (pc' := 49) (ls' := [some (.ref 41), some (.int (nI 1)), some (.int (nI u)), some (.int (nI 0)), some (.ref 75)]) (st' := [.int (nI u), .int (nI s), .ref (σ.2 75 1), .ref 77]) (σ' := σ) rfl ?_
            refine am_invv (y := 56) (b := 77) (as := [.ref (σ.2 75 1), .int (nI s), .int (nI u)]) (rest := []) rfl rfl rfl rfl rfl rfl rfl (Nat.le_of_ble_eq_true rfl) ?_
            refine c_determine (by omega) hW hR (show r + 1 ≤ n by omega) hro (Or.inl rfl) hs hu (fun σ2 hK hO => ?_)
            rw [hz] at hO
            obtain ⟨o0, o1, o2, o3, o4⟩ : σ2.1 77 0 = nI (P + 256 * A) ∧ σ2.1 77 1 = nI w ∧ σ2.1 77 2 = nI c ∧ σ2.1 77 3 = nI nx ∧ σ2.1 77 4 = nI rd := hO
            have hM2 := hM.keep2 (σ' := σ2) (fun c a => hK.1 c (by omega))
            have b32 : σ2.1 17 1 = nI s := by rw [hK.1 17 (by decide)]; exact b3
            have hn22 : σ2.1 2 1 = nI n := hM2.1.2.2.2.1
            show am_G _ M_X9_would _ 52 [some (.ref 41), some (.int (nI 1)), some (.int (nI u)), some (.int (nI 0)), some (.ref 75)] [] σ2
            refine am_run 2 (pc' := 54) (ls' := [some (.ref 41), some (.int (nI 1)), some (.int (nI u)), some (.int (nI 0)), some (.ref 75)]) (st' := [.int (nI 1), .int (nI 0)]) (σ' := σ2) rfl ?_
            refine am_ic (ty := 57) (tn := 65) rfl (by decide) rfl rfl (fun (h_6 : nI 0 = nI 1) => ?_) (fun (h_6 : ¬ (nI 0 = nI 1)) => ?_)
            · exact absurd h_6 (by decide)
            refine am_run 2 (pc' := 67) (ls' := [some (.ref 41), some (.int (nI 1)), some (.int (nI u)), some (.int (nI 0)), some (.ref 75)]) (st' := [.int (nI 4), .int (nI 0)]) (σ' := σ2) rfl ?_
            refine am_ic (ty := 70) (tn := 78) rfl (by decide) rfl rfl (fun (h_7 : nI 0 = nI 4) => ?_) (fun (h_7 : ¬ (nI 0 = nI 4)) => ?_)
            · exact absurd h_7 (by decide)
            refine am_run 2 (pc' := 82) (ls' := [some (.ref 41), some (.int (nI 1)), some (.int (nI u)), some (.int (nI 0)), some (.ref 75)]) (st' := [.ref 77]) (σ' := σ2) rfl ?_
            refine am_invv (y := 52) (b := 77) (as := []) (rest := []) rfl rfl rfl rfl rfl rfl rfl (Nat.le_of_ble_eq_true rfl) ?_
            refine am_enter' rfl rfl rfl (by omega) (ls := [some (.ref 77)]) rfl (fun d_8 hd_8 => ?_)
            refine am_run 2 (pc' := 4) (ls' := [some (.ref 77)]) (st' := [.int (σ2.1 77 1)]) (σ' := σ2) rfl ?_
            refine am_top (v' := nI w) o1 ?_
            refine am_if (ty := 11) (tn := 7) rfl (by decide) rfl rfl (fun (h_9 : nI w = 0) => ?_) (fun (h_9 : ¬ (nI w = 0)) => ?_)
            · have h_9 : w = 0 := (am_n0 (by omega)).mp h_9
              omega
            have h_9 : ¬ (w = 0) := fun z => h_9 ((am_n0 (by omega)).mpr z)
            refine am_run 2 (pc' := 12) (ls' := [some (.ref 77)]) (st' := [.int (nI 1)]) (σ' := σ2) rfl ?_
            refine am_retz rfl rfl (by decide) ?_
            show am_G _ M_X9_would _ 85 [some (.ref 41), some (.int (nI 1)), some (.int (nI u)), some (.int (nI 0)), some (.ref 75)] [.int (nI 1)] σ2
            refine am_if (ty := 91) (tn := 88) rfl (by decide) rfl rfl (fun (h_10 : nI 1 = 0) => ?_) (fun (h_10 : ¬ (nI 1 = 0)) => ?_)
            · exact absurd h_10 (by decide)
            refine am_run 1 (pc' := 90) (ls' := [some (.ref 41), some (.int (nI 1)), some (.int (nI u)), some (.int (nI 0)), some (.ref 75)]) (st' := [.int (-1000003)]) (σ' := σ2) rfl ?_
            refine am_reti rfl rfl ?_
            refine ⟨rfl, ?_⟩
            refine am_enter' (M := M_X10_would) rfl rfl rfl (by omega) (ls := [some (.ref 0), some (.int (nI 1)), some (.int (nI u)), some (.int (nI 0)), none]) rfl (fun d2 hd2 => ?_)
            refine am_run 2 (pc' := 2) (ls' := [some (.ref 0), some (.int (nI 1)), some (.int (nI u)), some (.int (nI 0)), none]) (st' := [.int (nI 1), .ref 0]) (σ' := σ2) rfl ?_
            refine am_invv (y := 151) (b := 0) (as := [.int (nI 1)]) (rest := []) rfl rfl rfl rfl rfl rfl rfl (Nat.le_of_ble_eq_true rfl) ?_
            refine c_prog1_1 (by omega) (n := n) (by exact hn22) hn1 hn60 ?_
            show am_G _ M_X10_would _ 5 [some (.ref 0), some (.int (nI 1)), some (.int (nI u)), some (.int (nI 0)), none] [.int (nI 1)] σ2
            refine am_if (ty := 8) (tn := 11) rfl (by decide) rfl rfl (fun (h_101 : nI 1 = 0) => ?_) (fun (h_101 : ¬ (nI 1 = 0)) => ?_)
            · exact absurd h_101 (by decide)
            refine am_run 3 (pc' := 16) (ls' := [some (.ref 0), some (.int (nI 1)), some (.int (nI u)), some (.int (nI 0)), none]) (st' := [.int (nI 255), .int (nI 0), .int (nI u)]) (σ' := σ2) rfl ?_
            refine am_invs (y := 148) (as := [.int (nI u), .int (nI 0), .int (nI 255)]) (rest := []) rfl rfl rfl rfl rfl rfl (Nat.le_of_ble_eq_true rfl) ?_
            refine c_in1 (by omega) (by omega) (by omega) (by omega) ?_
            show am_G _ M_X10_would _ 19 [some (.ref 0), some (.int (nI 1)), some (.int (nI u)), some (.int (nI 0)), none] [.int (nI 1)] σ2
            refine am_if (ty := 31) (tn := 22) rfl (by decide) rfl rfl (fun (h_102 : nI 1 = 0) => ?_) (fun (h_102 : ¬ (nI 1 = 0)) => ?_)
            · exact absurd h_102 (by decide)
            refine am_run 3 (pc' := 25) (ls' := [some (.ref 0), some (.int (nI 1)), some (.int (nI u)), some (.int (nI 0)), none]) (st' := [.int (nI 4), .int (nI 0), .int (nI 0)]) (σ' := σ2) rfl ?_
            refine am_invs (y := 148) (as := [.int (nI 0), .int (nI 0), .int (nI 4)]) (rest := []) rfl rfl rfl rfl rfl rfl (Nat.le_of_ble_eq_true rfl) ?_
            refine c_in1 (by omega) (by omega) (by omega) (by omega) ?_
            show am_G _ M_X10_would _ 28 [some (.ref 0), some (.int (nI 1)), some (.int (nI u)), some (.int (nI 0)), none] [.int (nI 1)] σ2
            refine am_if (ty := 31) (tn := 34) rfl (by decide) rfl rfl (fun (h_103 : nI 1 = 0) => ?_) (fun (h_103 : ¬ (nI 1 = 0)) => ?_)
            · exact absurd h_103 (by decide)
            refine am_run 5 (pc' := 41) (ls' := [some (.ref 0), some (.int (nI 1)), some (.int (nI u)), some (.int (nI 0)), none]) (st' := [.int (nI 1), .ref 17, .int (nI 1), .ref 0]) (σ' := σ2) rfl ?_
            refine am_ialdN (n := 2) (v := nI s) rfl rfl rfl (by decide) b32 (by decide) ?_
            refine am_run 1 (pc' := 43) (ls' := [some (.ref 0), some (.int (nI 1)), some (.int (nI u)), some (.int (nI 0)), none]) (st' := [.int (nI u), .int (nI s), .int (nI 1), .ref 0]) (σ' := σ2) rfl ?_
            refine am_invv (y := 229) (b := 0) (as := [.int (nI 1), .int (nI s), .int (nI u)]) (rest := []) rfl rfl rfl rfl rfl rfl rfl (Nat.le_of_ble_eq_true rfl) ?_
            refine c_settles0 (by omega) hM2 hs hv.2 hu hz hw0 (fun σ3 hS i38 i39 i40 i41 i29 => ?_)
            show am_G _ M_X10_would _ 46 [some (.ref 0), some (.int (nI 1)), some (.int (nI u)), some (.int (nI 0)), none] [.int (nI 0)] σ3
            refine am_run 3 (pc' := 50) (ls' := [some (.ref 0), some (.int (nI 1)), some (.int (nI u)), some (.int (nI 0)), some (.int (nI 0))]) (st' := [.int (nI 1), .int (nI 0)]) (σ' := σ3) rfl ?_
            refine am_ic (ty := 53) (tn := 58) rfl (by decide) rfl rfl (fun (h_104 : nI 0 = nI 1) => ?_) (fun (h_104 : ¬ (nI 0 = nI 1)) => ?_)
            · exact absurd h_104 (by decide)
            refine am_run 2 (pc' := 60) (ls' := [some (.ref 0), some (.int (nI 1)), some (.int (nI u)), some (.int (nI 0)), some (.int (nI 0))]) (st' := [.int (nI 4), .int (nI 0)]) (σ' := σ3) rfl ?_
            refine am_ic (ty := 63) (tn := 68) rfl (by decide) rfl rfl (fun (h_105 : nI 0 = nI 4) => ?_) (fun (h_105 : ¬ (nI 0 = nI 4)) => ?_)
            · exact absurd h_105 (by decide)
            refine am_run 1 (pc' := 70) (ls' := [some (.ref 0), some (.int (nI 1)), some (.int (nI u)), some (.int (nI 0)), some (.int (nI 0))]) (st' := [.int (nI 0)]) (σ' := σ3) rfl ?_
            refine am_if (ty := 73) (tn := 77) rfl (by decide) rfl rfl (fun (h_106 : nI 0 = 0) => ?_) (fun (h_106 : ¬ (nI 0 = 0)) => ?_)
            rotate_left
            · exact absurd (by decide) h_106
            refine am_run 1 (pc' := 76) (ls' := [some (.ref 0), some (.int (nI 1)), some (.int (nI u)), some (.int (nI 0)), some (.int (nI 0))]) (st' := [.int (-1000003)]) (σ' := σ3) rfl ?_
            refine am_reti rfl rfl ?_
            exact ⟨rfl, ((hK.KI (Or.inl rfl)).tr hS.KI).inv hI⟩
        · by_cases hw0 : w = 0
          · subst hw0
            refine ⟨nI 0, ?_⟩
            refine am_enter' (M := M_X9_would) rfl rfl rfl (by omega) (ls := [some (.ref 41), some (.int (nI 1)), some (.int (nI u)), some (.int (nI 1)), none]) rfl (fun d' hd' => ?_)
            refine am_run 2 (pc' := 2) (ls' := [some (.ref 41), some (.int (nI 1)), some (.int (nI u)), some (.int (nI 1)), none]) (st' := [.int (nI 1), .ref 41]) (σ' := σ) rfl ?_
            refine am_invv (y := 140) (b := 41) (as := [.int (nI 1)]) (rest := []) rfl rfl rfl rfl rfl rfl rfl (Nat.le_of_ble_eq_true rfl) ?_
            refine c_filled1_1 (by omega) hf ?_
            show am_G _ M_X9_would _ 5 [some (.ref 41), some (.int (nI 1)), some (.int (nI u)), some (.int (nI 1)), none] [.ref 75] σ
            refine am_run 4 (pc' := 16) (ls' := [some (.ref 41), some (.int (nI 1)), some (.int (nI u)), some (.int (nI 1)), some (.ref 75)]) (st' := [.int (nI u)]) (σ' := σ) rfl ?_
            refine am_invs (y := 141) (as := [.int (nI u)]) (rest := []) rfl rfl rfl rfl rfl rfl (Nat.le_of_ble_eq_true rfl) ?_
            refine c_sig1 (by omega) (by omega) ?_
            show am_G _ M_X9_would _ 19 [some (.ref 41), some (.int (nI 1)), some (.int (nI u)), some (.int (nI 1)), some (.ref 75)] [.int (nI 1)] σ
            refine am_if (ty := 31) (tn := 22) rfl (by decide) rfl rfl (fun (h_1 : nI 1 = 0) => ?_) (fun (h_1 : ¬ (nI 1 = 0)) => ?_)
            · exact absurd h_1 (by decide)
            refine am_run 1 (pc' := 23) (ls' := [some (.ref 41), some (.int (nI 1)), some (.int (nI u)), some (.int (nI 1)), some (.ref 75)]) (st' := [.int (nI 1)]) (σ' := σ) rfl ?_
            refine am_if (ty := 31) (tn := 26) rfl (by decide) rfl rfl (fun (h_2 : nI 1 < 0) => ?_) (fun (h_2 : ¬ (nI 1 < 0)) => ?_)
            · exact absurd h_2 (by decide)
            refine am_run 2 (pc' := 28) (ls' := [some (.ref 41), some (.int (nI 1)), some (.int (nI u)), some (.int (nI 1)), some (.ref 75)]) (st' := [.int (nI 4), .int (nI 1)]) (σ' := σ) rfl ?_
            refine am_ic (ty := 31) (tn := 34) rfl (by decide) rfl rfl (fun (h_3 : nI 4 < nI 1) => ?_) (fun (h_3 : ¬ (nI 4 < nI 1)) => ?_)
            · exact absurd h_3 (by decide)
            refine am_run 3 (pc' := 40) (ls' := [some (.ref 41), some (.int (nI 1)), some (.int (nI u)), some (.int (nI 1)), some (.ref 75)]) (st' := [.ref 75, .ref 77]) (σ' := σ) rfl ?_
            refine am_invv (y := 66) (b := 75) (as := []) (rest := [.ref 77]) rfl rfl rfl rfl rfl rfl rfl (Nat.le_of_ble_eq_true rfl) ?_
            refine am_enter' rfl rfl rfl (by omega) (ls := [some (.ref 75)]) rfl (fun d_4 hd_4 => ?_)
            refine am_run 2 (pc' := 4) (ls' := [some (.ref 75)]) (st' := [.ref (σ.2 75 1)]) (σ' := σ) rfl ?_
            refine am_reta rfl rfl (Or.inr ⟨_, rfl⟩) ?_
            show am_G _ M_X9_would _ 43 [some (.ref 41), some (.int (nI 1)), some (.int (nI u)), some (.int (nI 1)), some (.ref 75)] [.ref (σ.2 75 1), .ref 77] σ
            refine am_run 1 (pc' := 45) (ls' := [some (.ref 41), some (.int (nI 1)), some (.int (nI u)), some (.int (nI 1)), some (.ref 75)]) (st' := [.ref 75, .ref (σ.2 75 1), .ref 77]) (σ' := σ) rfl ?_
            refine am_invv (y := 67) (b := 75) (as := []) (rest := [.ref (σ.2 75 1), .ref 77]) rfl rfl rfl rfl rfl rfl rfl (Nat.le_of_ble_eq_true rfl) ?_
            refine am_enter' rfl rfl rfl (by omega) (ls := [some (.ref 75)]) rfl (fun d_5 hd_5 => ?_)
            refine am_run 2 (pc' := 4) (ls' := [some (.ref 75)]) (st' := [.int (σ.1 75 3)]) (σ' := σ) rfl ?_
            refine am_top (v' := nI s) a3 ?_
            refine am_reti rfl rfl ?_
            show am_G _ M_X9_would _ 48 [some (.ref 41), some (.int (nI 1)), some (.int (nI u)), some (.int (nI 1)), some (.ref 75)] [.int (nI s), .ref (σ.2 75 1), .ref 77] σ
            refine am_run 1 (pc' := 49) (ls' := [some (.ref 41), some (.int (nI 1)), some (.int (nI u)), some (.int (nI 1)), some (.ref 75)]) (st' := [.int (nI u), .int (nI s), .ref (σ.2 75 1), .ref 77]) (σ' := σ) rfl ?_
            refine am_invv (y := 56) (b := 77) (as := [.ref (σ.2 75 1), .int (nI s), .int (nI u)]) (rest := []) rfl rfl rfl rfl rfl rfl rfl (Nat.le_of_ble_eq_true rfl) ?_
            refine c_determine (by omega) hW hR (show r + 1 ≤ n by omega) hro (Or.inl rfl) hs hu (fun σ2 hK hO => ?_)
            rw [hz] at hO
            obtain ⟨o0, o1, o2, o3, o4⟩ : σ2.1 77 0 = nI (P + 256 * A) ∧ σ2.1 77 1 = nI 0 ∧ σ2.1 77 2 = nI c ∧ σ2.1 77 3 = nI nx ∧ σ2.1 77 4 = nI rd := hO
            have hM2 := hM.keep2 (σ' := σ2) (fun c a => hK.1 c (by omega))
            have b32 : σ2.1 17 1 = nI s := by rw [hK.1 17 (by decide)]; exact b3
            have hn22 : σ2.1 2 1 = nI n := hM2.1.2.2.2.1
            show am_G _ M_X9_would _ 52 [some (.ref 41), some (.int (nI 1)), some (.int (nI u)), some (.int (nI 1)), some (.ref 75)] [] σ2
            refine am_run 2 (pc' := 54) (ls' := [some (.ref 41), some (.int (nI 1)), some (.int (nI u)), some (.int (nI 1)), some (.ref 75)]) (st' := [.int (nI 1), .int (nI 1)]) (σ' := σ2) rfl ?_
            refine am_ic (ty := 57) (tn := 65) rfl (by decide) rfl rfl (fun (h_6 : nI 1 = nI 1) => ?_) (fun (h_6 : ¬ (nI 1 = nI 1)) => ?_)
            rotate_left
            · exact absurd (by decide) h_6
            refine am_run 2 (pc' := 61) (ls' := [some (.ref 41), some (.int (nI 1)), some (.int (nI u)), some (.int (nI 1)), some (.ref 75)]) (st' := [.ref 77]) (σ' := σ2) rfl ?_
            refine am_invv (y := 51) (b := 77) (as := []) (rest := []) rfl rfl rfl rfl rfl rfl rfl (Nat.le_of_ble_eq_true rfl) ?_
            refine am_enter' rfl rfl rfl (by omega) (ls := [some (.ref 77)]) rfl (fun d_7 hd_7 => ?_)
            refine am_run 2 (pc' := 4) (ls' := [some (.ref 77)]) (st' := [.int (σ2.1 77 1)]) (σ' := σ2) rfl ?_
            refine am_top (v' := nI 0) o1 ?_
            refine am_reti rfl rfl ?_
            show am_G _ M_X9_would _ 64 [some (.ref 41), some (.int (nI 1)), some (.int (nI u)), some (.int (nI 1)), some (.ref 75)] [.int (nI 0)] σ2
            refine am_reti rfl rfl ?_
            refine ⟨rfl, ?_⟩
            refine am_enter' (M := M_X10_would) rfl rfl rfl (by omega) (ls := [some (.ref 0), some (.int (nI 1)), some (.int (nI u)), some (.int (nI 1)), none]) rfl (fun d2 hd2 => ?_)
            refine am_run 2 (pc' := 2) (ls' := [some (.ref 0), some (.int (nI 1)), some (.int (nI u)), some (.int (nI 1)), none]) (st' := [.int (nI 1), .ref 0]) (σ' := σ2) rfl ?_
            refine am_invv (y := 151) (b := 0) (as := [.int (nI 1)]) (rest := []) rfl rfl rfl rfl rfl rfl rfl (Nat.le_of_ble_eq_true rfl) ?_
            refine c_prog1_1 (by omega) (n := n) (by exact hn22) hn1 hn60 ?_
            show am_G _ M_X10_would _ 5 [some (.ref 0), some (.int (nI 1)), some (.int (nI u)), some (.int (nI 1)), none] [.int (nI 1)] σ2
            refine am_if (ty := 8) (tn := 11) rfl (by decide) rfl rfl (fun (h_101 : nI 1 = 0) => ?_) (fun (h_101 : ¬ (nI 1 = 0)) => ?_)
            · exact absurd h_101 (by decide)
            refine am_run 3 (pc' := 16) (ls' := [some (.ref 0), some (.int (nI 1)), some (.int (nI u)), some (.int (nI 1)), none]) (st' := [.int (nI 255), .int (nI 0), .int (nI u)]) (σ' := σ2) rfl ?_
            refine am_invs (y := 148) (as := [.int (nI u), .int (nI 0), .int (nI 255)]) (rest := []) rfl rfl rfl rfl rfl rfl (Nat.le_of_ble_eq_true rfl) ?_
            refine c_in1 (by omega) (by omega) (by omega) (by omega) ?_
            show am_G _ M_X10_would _ 19 [some (.ref 0), some (.int (nI 1)), some (.int (nI u)), some (.int (nI 1)), none] [.int (nI 1)] σ2
            refine am_if (ty := 31) (tn := 22) rfl (by decide) rfl rfl (fun (h_102 : nI 1 = 0) => ?_) (fun (h_102 : ¬ (nI 1 = 0)) => ?_)
            · exact absurd h_102 (by decide)
            refine am_run 3 (pc' := 25) (ls' := [some (.ref 0), some (.int (nI 1)), some (.int (nI u)), some (.int (nI 1)), none]) (st' := [.int (nI 4), .int (nI 0), .int (nI 1)]) (σ' := σ2) rfl ?_
            refine am_invs (y := 148) (as := [.int (nI 1), .int (nI 0), .int (nI 4)]) (rest := []) rfl rfl rfl rfl rfl rfl (Nat.le_of_ble_eq_true rfl) ?_
            refine c_in1 (by omega) (by omega) (by omega) (by omega) ?_
            show am_G _ M_X10_would _ 28 [some (.ref 0), some (.int (nI 1)), some (.int (nI u)), some (.int (nI 1)), none] [.int (nI 1)] σ2
            refine am_if (ty := 31) (tn := 34) rfl (by decide) rfl rfl (fun (h_103 : nI 1 = 0) => ?_) (fun (h_103 : ¬ (nI 1 = 0)) => ?_)
            · exact absurd h_103 (by decide)
            refine am_run 5 (pc' := 41) (ls' := [some (.ref 0), some (.int (nI 1)), some (.int (nI u)), some (.int (nI 1)), none]) (st' := [.int (nI 1), .ref 17, .int (nI 1), .ref 0]) (σ' := σ2) rfl ?_
            refine am_ialdN (n := 2) (v := nI s) rfl rfl rfl (by decide) b32 (by decide) ?_
            refine am_run 1 (pc' := 43) (ls' := [some (.ref 0), some (.int (nI 1)), some (.int (nI u)), some (.int (nI 1)), none]) (st' := [.int (nI u), .int (nI s), .int (nI 1), .ref 0]) (σ' := σ2) rfl ?_
            refine am_invv (y := 229) (b := 0) (as := [.int (nI 1), .int (nI s), .int (nI u)]) (rest := []) rfl rfl rfl rfl rfl rfl rfl (Nat.le_of_ble_eq_true rfl) ?_
            refine c_settles1 (by omega) hM2 hs hv.2 hu hz (fun σ3 hS i38 i39 i40 i41 i42 i43 i44 i29 => ?_)
            show am_G _ M_X10_would _ 46 [some (.ref 0), some (.int (nI 1)), some (.int (nI u)), some (.int (nI 1)), none] [.int (nI 1)] σ3
            refine am_run 3 (pc' := 50) (ls' := [some (.ref 0), some (.int (nI 1)), some (.int (nI u)), some (.int (nI 1)), some (.int (nI 1))]) (st' := [.int (nI 1), .int (nI 1)]) (σ' := σ3) rfl ?_
            refine am_ic (ty := 53) (tn := 58) rfl (by decide) rfl rfl (fun (h_104 : nI 1 = nI 1) => ?_) (fun (h_104 : ¬ (nI 1 = nI 1)) => ?_)
            rotate_left
            · exact absurd (by decide) h_104
            refine am_run 2 (pc' := 57) (ls' := [some (.ref 0), some (.int (nI 1)), some (.int (nI u)), some (.int (nI 1)), some (.int (nI 1))]) (st' := [.int (σ3.1 0 41)]) (σ' := σ3) rfl ?_
            refine am_top (v' := nI 0) i41 ?_
            refine am_reti rfl rfl ?_
            exact ⟨rfl, ((hK.KI (Or.inl rfl)).tr hS.KI).inv hI⟩
          · skip
            refine ⟨nI w, ?_⟩
            refine am_enter' (M := M_X9_would) rfl rfl rfl (by omega) (ls := [some (.ref 41), some (.int (nI 1)), some (.int (nI u)), some (.int (nI 1)), none]) rfl (fun d' hd' => ?_)
            refine am_run 2 (pc' := 2) (ls' := [some (.ref 41), some (.int (nI 1)), some (.int (nI u)), some (.int (nI 1)), none]) (st' := [.int (nI 1), .ref 41]) (σ' := σ) rfl ?_
            refine am_invv (y := 140) (b := 41) (as := [.int (nI 1)]) (rest := []) rfl rfl rfl rfl rfl rfl rfl (Nat.le_of_ble_eq_true rfl) ?_
            refine c_filled1_1 (by omega) hf ?_
            show am_G _ M_X9_would _ 5 [some (.ref 41), some (.int (nI 1)), some (.int (nI u)), some (.int (nI 1)), none] [.ref 75] σ
            refine am_run 4 (pc' := 16) (ls' := [some (.ref 41), some (.int (nI 1)), some (.int (nI u)), some (.int (nI 1)), some (.ref 75)]) (st' := [.int (nI u)]) (σ' := σ) rfl ?_
            refine am_invs (y := 141) (as := [.int (nI u)]) (rest := []) rfl rfl rfl rfl rfl rfl (Nat.le_of_ble_eq_true rfl) ?_
            refine c_sig1 (by omega) (by omega) ?_
            show am_G _ M_X9_would _ 19 [some (.ref 41), some (.int (nI 1)), some (.int (nI u)), some (.int (nI 1)), some (.ref 75)] [.int (nI 1)] σ
            refine am_if (ty := 31) (tn := 22) rfl (by decide) rfl rfl (fun (h_1 : nI 1 = 0) => ?_) (fun (h_1 : ¬ (nI 1 = 0)) => ?_)
            · exact absurd h_1 (by decide)
            refine am_run 1 (pc' := 23) (ls' := [some (.ref 41), some (.int (nI 1)), some (.int (nI u)), some (.int (nI 1)), some (.ref 75)]) (st' := [.int (nI 1)]) (σ' := σ) rfl ?_
            refine am_if (ty := 31) (tn := 26) rfl (by decide) rfl rfl (fun (h_2 : nI 1 < 0) => ?_) (fun (h_2 : ¬ (nI 1 < 0)) => ?_)
            · exact absurd h_2 (by decide)
            refine am_run 2 (pc' := 28) (ls' := [some (.ref 41), some (.int (nI 1)), some (.int (nI u)), some (.int (nI 1)), some (.ref 75)]) (st' := [.int (nI 4), .int (nI 1)]) (σ' := σ) rfl ?_
            refine am_ic (ty := 31) (tn := 34) rfl (by decide) rfl rfl (fun (h_3 : nI 4 < nI 1) => ?_) (fun (h_3 : ¬ (nI 4 < nI 1)) => ?_)
            · exact absurd h_3 (by decide)
            refine am_run 3 (pc' := 40) (ls' := [some (.ref 41), some (.int (nI 1)), some (.int (nI u)), some (.int (nI 1)), some (.ref 75)]) (st' := [.ref 75, .ref 77]) (σ' := σ) rfl ?_
            refine am_invv (y := 66) (b := 75) (as := []) (rest := [.ref 77]) rfl rfl rfl rfl rfl rfl rfl (Nat.le_of_ble_eq_true rfl) ?_
            refine am_enter' rfl rfl rfl (by omega) (ls := [some (.ref 75)]) rfl (fun d_4 hd_4 => ?_)
            refine am_run 2 (pc' := 4) (ls' := [some (.ref 75)]) (st' := [.ref (σ.2 75 1)]) (σ' := σ) rfl ?_
            refine am_reta rfl rfl (Or.inr ⟨_, rfl⟩) ?_
            show am_G _ M_X9_would _ 43 [some (.ref 41), some (.int (nI 1)), some (.int (nI u)), some (.int (nI 1)), some (.ref 75)] [.ref (σ.2 75 1), .ref 77] σ
            refine am_run 1 (pc' := 45) (ls' := [some (.ref 41), some (.int (nI 1)), some (.int (nI u)), some (.int (nI 1)), some (.ref 75)]) (st' := [.ref 75, .ref (σ.2 75 1), .ref 77]) (σ' := σ) rfl ?_
            refine am_invv (y := 67) (b := 75) (as := []) (rest := [.ref (σ.2 75 1), .ref 77]) rfl rfl rfl rfl rfl rfl rfl (Nat.le_of_ble_eq_true rfl) ?_
            refine am_enter' rfl rfl rfl (by omega) (ls := [some (.ref 75)]) rfl (fun d_5 hd_5 => ?_)
            refine am_run 2 (pc' := 4) (ls' := [some (.ref 75)]) (st' := [.int (σ.1 75 3)]) (σ' := σ) rfl ?_
            refine am_top (v' := nI s) a3 ?_
            refine am_reti rfl rfl ?_
            show am_G _ M_X9_would _ 48 [some (.ref 41), some (.int (nI 1)), some (.int (nI u)), some (.int (nI 1)), some (.ref 75)] [.int (nI s), .ref (σ.2 75 1), .ref 77] σ
            refine am_run 1 (pc' := 49) (ls' := [some (.ref 41), some (.int (nI 1)), some (.int (nI u)), some (.int (nI 1)), some (.ref 75)]) (st' := [.int (nI u), .int (nI s), .ref (σ.2 75 1), .ref 77]) (σ' := σ) rfl ?_
            refine am_invv (y := 56) (b := 77) (as := [.ref (σ.2 75 1), .int (nI s), .int (nI u)]) (rest := []) rfl rfl rfl rfl rfl rfl rfl (Nat.le_of_ble_eq_true rfl) ?_
            refine c_determine (by omega) hW hR (show r + 1 ≤ n by omega) hro (Or.inl rfl) hs hu (fun σ2 hK hO => ?_)
            rw [hz] at hO
            obtain ⟨o0, o1, o2, o3, o4⟩ : σ2.1 77 0 = nI (P + 256 * A) ∧ σ2.1 77 1 = nI w ∧ σ2.1 77 2 = nI c ∧ σ2.1 77 3 = nI nx ∧ σ2.1 77 4 = nI rd := hO
            have hM2 := hM.keep2 (σ' := σ2) (fun c a => hK.1 c (by omega))
            have b32 : σ2.1 17 1 = nI s := by rw [hK.1 17 (by decide)]; exact b3
            have hn22 : σ2.1 2 1 = nI n := hM2.1.2.2.2.1
            show am_G _ M_X9_would _ 52 [some (.ref 41), some (.int (nI 1)), some (.int (nI u)), some (.int (nI 1)), some (.ref 75)] [] σ2
            refine am_run 2 (pc' := 54) (ls' := [some (.ref 41), some (.int (nI 1)), some (.int (nI u)), some (.int (nI 1)), some (.ref 75)]) (st' := [.int (nI 1), .int (nI 1)]) (σ' := σ2) rfl ?_
            refine am_ic (ty := 57) (tn := 65) rfl (by decide) rfl rfl (fun (h_6 : nI 1 = nI 1) => ?_) (fun (h_6 : ¬ (nI 1 = nI 1)) => ?_)
            rotate_left
            · exact absurd (by decide) h_6
            refine am_run 2 (pc' := 61) (ls' := [some (.ref 41), some (.int (nI 1)), some (.int (nI u)), some (.int (nI 1)), some (.ref 75)]) (st' := [.ref 77]) (σ' := σ2) rfl ?_
            refine am_invv (y := 51) (b := 77) (as := []) (rest := []) rfl rfl rfl rfl rfl rfl rfl (Nat.le_of_ble_eq_true rfl) ?_
            refine am_enter' rfl rfl rfl (by omega) (ls := [some (.ref 77)]) rfl (fun d_7 hd_7 => ?_)
            refine am_run 2 (pc' := 4) (ls' := [some (.ref 77)]) (st' := [.int (σ2.1 77 1)]) (σ' := σ2) rfl ?_
            refine am_top (v' := nI w) o1 ?_
            refine am_reti rfl rfl ?_
            show am_G _ M_X9_would _ 64 [some (.ref 41), some (.int (nI 1)), some (.int (nI u)), some (.int (nI 1)), some (.ref 75)] [.int (nI w)] σ2
            refine am_reti rfl rfl ?_
            refine ⟨rfl, ?_⟩
            refine am_enter' (M := M_X10_would) rfl rfl rfl (by omega) (ls := [some (.ref 0), some (.int (nI 1)), some (.int (nI u)), some (.int (nI 1)), none]) rfl (fun d2 hd2 => ?_)
            refine am_run 2 (pc' := 2) (ls' := [some (.ref 0), some (.int (nI 1)), some (.int (nI u)), some (.int (nI 1)), none]) (st' := [.int (nI 1), .ref 0]) (σ' := σ2) rfl ?_
            refine am_invv (y := 151) (b := 0) (as := [.int (nI 1)]) (rest := []) rfl rfl rfl rfl rfl rfl rfl (Nat.le_of_ble_eq_true rfl) ?_
            refine c_prog1_1 (by omega) (n := n) (by exact hn22) hn1 hn60 ?_
            show am_G _ M_X10_would _ 5 [some (.ref 0), some (.int (nI 1)), some (.int (nI u)), some (.int (nI 1)), none] [.int (nI 1)] σ2
            refine am_if (ty := 8) (tn := 11) rfl (by decide) rfl rfl (fun (h_101 : nI 1 = 0) => ?_) (fun (h_101 : ¬ (nI 1 = 0)) => ?_)
            · exact absurd h_101 (by decide)
            refine am_run 3 (pc' := 16) (ls' := [some (.ref 0), some (.int (nI 1)), some (.int (nI u)), some (.int (nI 1)), none]) (st' := [.int (nI 255), .int (nI 0), .int (nI u)]) (σ' := σ2) rfl ?_
            refine am_invs (y := 148) (as := [.int (nI u), .int (nI 0), .int (nI 255)]) (rest := []) rfl rfl rfl rfl rfl rfl (Nat.le_of_ble_eq_true rfl) ?_
            refine c_in1 (by omega) (by omega) (by omega) (by omega) ?_
            show am_G _ M_X10_would _ 19 [some (.ref 0), some (.int (nI 1)), some (.int (nI u)), some (.int (nI 1)), none] [.int (nI 1)] σ2
            refine am_if (ty := 31) (tn := 22) rfl (by decide) rfl rfl (fun (h_102 : nI 1 = 0) => ?_) (fun (h_102 : ¬ (nI 1 = 0)) => ?_)
            · exact absurd h_102 (by decide)
            refine am_run 3 (pc' := 25) (ls' := [some (.ref 0), some (.int (nI 1)), some (.int (nI u)), some (.int (nI 1)), none]) (st' := [.int (nI 4), .int (nI 0), .int (nI 1)]) (σ' := σ2) rfl ?_
            refine am_invs (y := 148) (as := [.int (nI 1), .int (nI 0), .int (nI 4)]) (rest := []) rfl rfl rfl rfl rfl rfl (Nat.le_of_ble_eq_true rfl) ?_
            refine c_in1 (by omega) (by omega) (by omega) (by omega) ?_
            show am_G _ M_X10_would _ 28 [some (.ref 0), some (.int (nI 1)), some (.int (nI u)), some (.int (nI 1)), none] [.int (nI 1)] σ2
            refine am_if (ty := 31) (tn := 34) rfl (by decide) rfl rfl (fun (h_103 : nI 1 = 0) => ?_) (fun (h_103 : ¬ (nI 1 = 0)) => ?_)
            · exact absurd h_103 (by decide)
            refine am_run 5 (pc' := 41) (ls' := [some (.ref 0), some (.int (nI 1)), some (.int (nI u)), some (.int (nI 1)), none]) (st' := [.int (nI 1), .ref 17, .int (nI 1), .ref 0]) (σ' := σ2) rfl ?_
            refine am_ialdN (n := 2) (v := nI s) rfl rfl rfl (by decide) b32 (by decide) ?_
            refine am_run 1 (pc' := 43) (ls' := [some (.ref 0), some (.int (nI 1)), some (.int (nI u)), some (.int (nI 1)), none]) (st' := [.int (nI u), .int (nI s), .int (nI 1), .ref 0]) (σ' := σ2) rfl ?_
            refine am_invv (y := 229) (b := 0) (as := [.int (nI 1), .int (nI s), .int (nI u)]) (rest := []) rfl rfl rfl rfl rfl rfl rfl (Nat.le_of_ble_eq_true rfl) ?_
            refine c_settles0 (by omega) hM2 hs hv.2 hu hz hw0 (fun σ3 hS i38 i39 i40 i41 i29 => ?_)
            show am_G _ M_X10_would _ 46 [some (.ref 0), some (.int (nI 1)), some (.int (nI u)), some (.int (nI 1)), none] [.int (nI 0)] σ3
            refine am_run 3 (pc' := 50) (ls' := [some (.ref 0), some (.int (nI 1)), some (.int (nI u)), some (.int (nI 1)), some (.int (nI 0))]) (st' := [.int (nI 1), .int (nI 1)]) (σ' := σ3) rfl ?_
            refine am_ic (ty := 53) (tn := 58) rfl (by decide) rfl rfl (fun (h_104 : nI 1 = nI 1) => ?_) (fun (h_104 : ¬ (nI 1 = nI 1)) => ?_)
            rotate_left
            · exact absurd (by decide) h_104
            refine am_run 2 (pc' := 57) (ls' := [some (.ref 0), some (.int (nI 1)), some (.int (nI u)), some (.int (nI 1)), some (.int (nI 0))]) (st' := [.int (σ3.1 0 41)]) (σ' := σ3) rfl ?_
            refine am_top (v' := nI w) i41 ?_
            refine am_reti rfl rfl ?_
            exact ⟨rfl, ((hK.KI (Or.inl rfl)).tr hS.KI).inv hI⟩
        · by_cases hw0 : w = 0
          · subst hw0
            refine ⟨nI c, ?_⟩
            refine am_enter' (M := M_X9_would) rfl rfl rfl (by omega) (ls := [some (.ref 41), some (.int (nI 1)), some (.int (nI u)), some (.int (nI 2)), none]) rfl (fun d' hd' => ?_)
            refine am_run 2 (pc' := 2) (ls' := [some (.ref 41), some (.int (nI 1)), some (.int (nI u)), some (.int (nI 2)), none]) (st' := [.int (nI 1), .ref 41]) (σ' := σ) rfl ?_
            refine am_invv (y := 140) (b := 41) (as := [.int (nI 1)]) (rest := []) rfl rfl rfl rfl rfl rfl rfl (Nat.le_of_ble_eq_true rfl) ?_
            refine c_filled1_1 (by omega) hf ?_
            show am_G _ M_X9_would _ 5 [some (.ref 41), some (.int (nI 1)), some (.int (nI u)), some (.int (nI 2)), none] [.ref 75] σ
            refine am_run 4 (pc' := 16) (ls' := [some (.ref 41), some (.int (nI 1)), some (.int (nI u)), some (.int (nI 2)), some (.ref 75)]) (st' := [.int (nI u)]) (σ' := σ) rfl ?_
            refine am_invs (y := 141) (as := [.int (nI u)]) (rest := []) rfl rfl rfl rfl rfl rfl (Nat.le_of_ble_eq_true rfl) ?_
            refine c_sig1 (by omega) (by omega) ?_
            show am_G _ M_X9_would _ 19 [some (.ref 41), some (.int (nI 1)), some (.int (nI u)), some (.int (nI 2)), some (.ref 75)] [.int (nI 1)] σ
            refine am_if (ty := 31) (tn := 22) rfl (by decide) rfl rfl (fun (h_1 : nI 1 = 0) => ?_) (fun (h_1 : ¬ (nI 1 = 0)) => ?_)
            · exact absurd h_1 (by decide)
            refine am_run 1 (pc' := 23) (ls' := [some (.ref 41), some (.int (nI 1)), some (.int (nI u)), some (.int (nI 2)), some (.ref 75)]) (st' := [.int (nI 2)]) (σ' := σ) rfl ?_
            refine am_if (ty := 31) (tn := 26) rfl (by decide) rfl rfl (fun (h_2 : nI 2 < 0) => ?_) (fun (h_2 : ¬ (nI 2 < 0)) => ?_)
            · exact absurd h_2 (by decide)
            refine am_run 2 (pc' := 28) (ls' := [some (.ref 41), some (.int (nI 1)), some (.int (nI u)), some (.int (nI 2)), some (.ref 75)]) (st' := [.int (nI 4), .int (nI 2)]) (σ' := σ) rfl ?_
            refine am_ic (ty := 31) (tn := 34) rfl (by decide) rfl rfl (fun (h_3 : nI 4 < nI 2) => ?_) (fun (h_3 : ¬ (nI 4 < nI 2)) => ?_)
            · exact absurd h_3 (by decide)
            refine am_run 3 (pc' := 40) (ls' := [some (.ref 41), some (.int (nI 1)), some (.int (nI u)), some (.int (nI 2)), some (.ref 75)]) (st' := [.ref 75, .ref 77]) (σ' := σ) rfl ?_
            refine am_invv (y := 66) (b := 75) (as := []) (rest := [.ref 77]) rfl rfl rfl rfl rfl rfl rfl (Nat.le_of_ble_eq_true rfl) ?_
            refine am_enter' rfl rfl rfl (by omega) (ls := [some (.ref 75)]) rfl (fun d_4 hd_4 => ?_)
            refine am_run 2 (pc' := 4) (ls' := [some (.ref 75)]) (st' := [.ref (σ.2 75 1)]) (σ' := σ) rfl ?_
            refine am_reta rfl rfl (Or.inr ⟨_, rfl⟩) ?_
            show am_G _ M_X9_would _ 43 [some (.ref 41), some (.int (nI 1)), some (.int (nI u)), some (.int (nI 2)), some (.ref 75)] [.ref (σ.2 75 1), .ref 77] σ
            refine am_run 1 (pc' := 45) (ls' := [some (.ref 41), some (.int (nI 1)), some (.int (nI u)), some (.int (nI 2)), some (.ref 75)]) (st' := [.ref 75, .ref (σ.2 75 1), .ref 77]) (σ' := σ) rfl ?_
            refine am_invv (y := 67) (b := 75) (as := []) (rest := [.ref (σ.2 75 1), .ref 77]) rfl rfl rfl rfl rfl rfl rfl (Nat.le_of_ble_eq_true rfl) ?_
            refine am_enter' rfl rfl rfl (by omega) (ls := [some (.ref 75)]) rfl (fun d_5 hd_5 => ?_)
            refine am_run 2 (pc' := 4) (ls' := [some (.ref 75)]) (st' := [.int (σ.1 75 3)]) (σ' := σ) rfl ?_
            refine am_top (v' := nI s) a3 ?_
            refine am_reti rfl rfl ?_
            show am_G _ M_X9_would _ 48 [some (.ref 41), some (.int (nI 1)), some (.int (nI u)), some (.int (nI 2)), some (.ref 75)] [.int (nI s), .ref (σ.2 75 1), .ref 77] σ
            refine am_run 1 (pc' := 49) (ls' := [some (.ref 41), some (.int (nI 1)), some (.int (nI u)), some (.int (nI 2)), some (.ref 75)]) (st' := [.int (nI u), .int (nI s), .ref (σ.2 75 1), .ref 77]) (σ' := σ) rfl ?_
            refine am_invv (y := 56) (b := 77) (as := [.ref (σ.2 75 1), .int (nI s), .int (nI u)]) (rest := []) rfl rfl rfl rfl rfl rfl rfl (Nat.le_of_ble_eq_true rfl) ?_
            refine c_determine (by omega) hW hR (show r + 1 ≤ n by omega) hro (Or.inl rfl) hs hu (fun σ2 hK hO => ?_)
            rw [hz] at hO
            obtain ⟨o0, o1, o2, o3, o4⟩ : σ2.1 77 0 = nI (P + 256 * A) ∧ σ2.1 77 1 = nI 0 ∧ σ2.1 77 2 = nI c ∧ σ2.1 77 3 = nI nx ∧ σ2.1 77 4 = nI rd := hO
            have hM2 := hM.keep2 (σ' := σ2) (fun c a => hK.1 c (by omega))
            have b32 : σ2.1 17 1 = nI s := by rw [hK.1 17 (by decide)]; exact b3
            have hn22 : σ2.1 2 1 = nI n := hM2.1.2.2.2.1
            show am_G _ M_X9_would _ 52 [some (.ref 41), some (.int (nI 1)), some (.int (nI u)), some (.int (nI 2)), some (.ref 75)] [] σ2
            refine am_run 2 (pc' := 54) (ls' := [some (.ref 41), some (.int (nI 1)), some (.int (nI u)), some (.int (nI 2)), some (.ref 75)]) (st' := [.int (nI 1), .int (nI 2)]) (σ' := σ2) rfl ?_
            refine am_ic (ty := 57) (tn := 65) rfl (by decide) rfl rfl (fun (h_6 : nI 2 = nI 1) => ?_) (fun (h_6 : ¬ (nI 2 = nI 1)) => ?_)
            · exact absurd h_6 (by decide)
            refine am_run 2 (pc' := 67) (ls' := [some (.ref 41), some (.int (nI 1)), some (.int (nI u)), some (.int (nI 2)), some (.ref 75)]) (st' := [.int (nI 4), .int (nI 2)]) (σ' := σ2) rfl ?_
            refine am_ic (ty := 70) (tn := 78) rfl (by decide) rfl rfl (fun (h_7 : nI 2 = nI 4) => ?_) (fun (h_7 : ¬ (nI 2 = nI 4)) => ?_)
            · exact absurd h_7 (by decide)
            refine am_run 2 (pc' := 82) (ls' := [some (.ref 41), some (.int (nI 1)), some (.int (nI u)), some (.int (nI 2)), some (.ref 75)]) (st' := [.ref 77]) (σ' := σ2) rfl ?_
            refine am_invv (y := 52) (b := 77) (as := []) (rest := []) rfl rfl rfl rfl rfl rfl rfl (Nat.le_of_ble_eq_true rfl) ?_
            refine am_enter' rfl rfl rfl (by omega) (ls := [some (.ref 77)]) rfl (fun d_8 hd_8 => ?_)
            refine am_run 2 (pc' := 4) (ls' := [some (.ref 77)]) (st' := [.int (σ2.1 77 1)]) (σ' := σ2) rfl ?_
            refine am_top (v' := nI 0) o1 ?_
            refine am_if (ty := 11) (tn := 7) rfl (by decide) rfl rfl (fun (h_9 : nI 0 = 0) => ?_) (fun (h_9 : ¬ (nI 0 = 0)) => ?_)
            rotate_left
            · exact absurd (by decide) h_9
            refine am_run 1 (pc' := 12) (ls' := [some (.ref 77)]) (st' := [.int (nI 0)]) (σ' := σ2) rfl ?_
            refine am_retz rfl rfl (by decide) ?_
            show am_G _ M_X9_would _ 85 [some (.ref 41), some (.int (nI 1)), some (.int (nI u)), some (.int (nI 2)), some (.ref 75)] [.int (nI 0)] σ2
            refine am_if (ty := 91) (tn := 88) rfl (by decide) rfl rfl (fun (h_10 : nI 0 = 0) => ?_) (fun (h_10 : ¬ (nI 0 = 0)) => ?_)
            rotate_left
            · exact absurd (by decide) h_10
            refine am_run 1 (pc' := 92) (ls' := [some (.ref 41), some (.int (nI 1)), some (.int (nI u)), some (.int (nI 2)), some (.ref 75)]) (st' := [.int (nI 2)]) (σ' := σ2) rfl ?_
            refine am_if (ty := 95) (tn := 103) rfl (by decide) rfl rfl (fun (h_11 : nI 2 = 0) => ?_) (fun (h_11 : ¬ (nI 2 = 0)) => ?_)
            · exact absurd h_11 (by decide)
            refine am_run 2 (pc' := 105) (ls' := [some (.ref 41), some (.int (nI 1)), some (.int (nI u)), some (.int (nI 2)), some (.ref 75)]) (st' := [.int (nI 2), .int (nI 2)]) (σ' := σ2) rfl ?_
            refine am_ic (ty := 108) (tn := 118) rfl (by decide) rfl rfl (fun (h_12 : nI 2 = nI 2) => ?_) (fun (h_12 : ¬ (nI 2 = nI 2)) => ?_)
            rotate_left
            · exact absurd (by decide) h_12
            refine am_run 2 (pc' := 112) (ls' := [some (.ref 41), some (.int (nI 1)), some (.int (nI u)), some (.int (nI 2)), some (.ref 75)]) (st' := [.ref 77]) (σ' := σ2) rfl ?_
            refine am_invv (y := 53) (b := 77) (as := []) (rest := []) rfl rfl rfl rfl rfl rfl rfl (Nat.le_of_ble_eq_true rfl) ?_
            refine am_enter' rfl rfl rfl (by omega) (ls := [some (.ref 77)]) rfl (fun d_13 hd_13 => ?_)
            refine am_run 2 (pc' := 4) (ls' := [some (.ref 77)]) (st' := [.int (σ2.1 77 2)]) (σ' := σ2) rfl ?_
            refine am_top (v' := nI c) o2 ?_
            refine am_reti rfl rfl ?_
            show am_G _ M_X9_would _ 115 [some (.ref 41), some (.int (nI 1)), some (.int (nI u)), some (.int (nI 2)), some (.ref 75)] [.int (nI c)] σ2
            refine am_run 1 (pc' := 125) (ls' := [some (.ref 41), some (.int (nI 1)), some (.int (nI u)), some (.int (nI 2)), some (.ref 75)]) (st' := [.int (nI c)]) (σ' := σ2) rfl ?_
            refine am_reti rfl rfl ?_
            refine ⟨rfl, ?_⟩
            refine am_enter' (M := M_X10_would) rfl rfl rfl (by omega) (ls := [some (.ref 0), some (.int (nI 1)), some (.int (nI u)), some (.int (nI 2)), none]) rfl (fun d2 hd2 => ?_)
            refine am_run 2 (pc' := 2) (ls' := [some (.ref 0), some (.int (nI 1)), some (.int (nI u)), some (.int (nI 2)), none]) (st' := [.int (nI 1), .ref 0]) (σ' := σ2) rfl ?_
            refine am_invv (y := 151) (b := 0) (as := [.int (nI 1)]) (rest := []) rfl rfl rfl rfl rfl rfl rfl (Nat.le_of_ble_eq_true rfl) ?_
            refine c_prog1_1 (by omega) (n := n) (by exact hn22) hn1 hn60 ?_
            show am_G _ M_X10_would _ 5 [some (.ref 0), some (.int (nI 1)), some (.int (nI u)), some (.int (nI 2)), none] [.int (nI 1)] σ2
            refine am_if (ty := 8) (tn := 11) rfl (by decide) rfl rfl (fun (h_101 : nI 1 = 0) => ?_) (fun (h_101 : ¬ (nI 1 = 0)) => ?_)
            · exact absurd h_101 (by decide)
            refine am_run 3 (pc' := 16) (ls' := [some (.ref 0), some (.int (nI 1)), some (.int (nI u)), some (.int (nI 2)), none]) (st' := [.int (nI 255), .int (nI 0), .int (nI u)]) (σ' := σ2) rfl ?_
            refine am_invs (y := 148) (as := [.int (nI u), .int (nI 0), .int (nI 255)]) (rest := []) rfl rfl rfl rfl rfl rfl (Nat.le_of_ble_eq_true rfl) ?_
            refine c_in1 (by omega) (by omega) (by omega) (by omega) ?_
            show am_G _ M_X10_would _ 19 [some (.ref 0), some (.int (nI 1)), some (.int (nI u)), some (.int (nI 2)), none] [.int (nI 1)] σ2
            refine am_if (ty := 31) (tn := 22) rfl (by decide) rfl rfl (fun (h_102 : nI 1 = 0) => ?_) (fun (h_102 : ¬ (nI 1 = 0)) => ?_)
            · exact absurd h_102 (by decide)
            refine am_run 3 (pc' := 25) (ls' := [some (.ref 0), some (.int (nI 1)), some (.int (nI u)), some (.int (nI 2)), none]) (st' := [.int (nI 4), .int (nI 0), .int (nI 2)]) (σ' := σ2) rfl ?_
            refine am_invs (y := 148) (as := [.int (nI 2), .int (nI 0), .int (nI 4)]) (rest := []) rfl rfl rfl rfl rfl rfl (Nat.le_of_ble_eq_true rfl) ?_
            refine c_in1 (by omega) (by omega) (by omega) (by omega) ?_
            show am_G _ M_X10_would _ 28 [some (.ref 0), some (.int (nI 1)), some (.int (nI u)), some (.int (nI 2)), none] [.int (nI 1)] σ2
            refine am_if (ty := 31) (tn := 34) rfl (by decide) rfl rfl (fun (h_103 : nI 1 = 0) => ?_) (fun (h_103 : ¬ (nI 1 = 0)) => ?_)
            · exact absurd h_103 (by decide)
            refine am_run 5 (pc' := 41) (ls' := [some (.ref 0), some (.int (nI 1)), some (.int (nI u)), some (.int (nI 2)), none]) (st' := [.int (nI 1), .ref 17, .int (nI 1), .ref 0]) (σ' := σ2) rfl ?_
            refine am_ialdN (n := 2) (v := nI s) rfl rfl rfl (by decide) b32 (by decide) ?_
            refine am_run 1 (pc' := 43) (ls' := [some (.ref 0), some (.int (nI 1)), some (.int (nI u)), some (.int (nI 2)), none]) (st' := [.int (nI u), .int (nI s), .int (nI 1), .ref 0]) (σ' := σ2) rfl ?_
            refine am_invv (y := 229) (b := 0) (as := [.int (nI 1), .int (nI s), .int (nI u)]) (rest := []) rfl rfl rfl rfl rfl rfl rfl (Nat.le_of_ble_eq_true rfl) ?_
            refine c_settles1 (by omega) hM2 hs hv.2 hu hz (fun σ3 hS i38 i39 i40 i41 i42 i43 i44 i29 => ?_)
            show am_G _ M_X10_would _ 46 [some (.ref 0), some (.int (nI 1)), some (.int (nI u)), some (.int (nI 2)), none] [.int (nI 1)] σ3
            refine am_run 3 (pc' := 50) (ls' := [some (.ref 0), some (.int (nI 1)), some (.int (nI u)), some (.int (nI 2)), some (.int (nI 1))]) (st' := [.int (nI 1), .int (nI 2)]) (σ' := σ3) rfl ?_
            refine am_ic (ty := 53) (tn := 58) rfl (by decide) rfl rfl (fun (h_104 : nI 2 = nI 1) => ?_) (fun (h_104 : ¬ (nI 2 = nI 1)) => ?_)
            · exact absurd h_104 (by decide)
            refine am_run 2 (pc' := 60) (ls' := [some (.ref 0), some (.int (nI 1)), some (.int (nI u)), some (.int (nI 2)), some (.int (nI 1))]) (st' := [.int (nI 4), .int (nI 2)]) (σ' := σ3) rfl ?_
            refine am_ic (ty := 63) (tn := 68) rfl (by decide) rfl rfl (fun (h_105 : nI 2 = nI 4) => ?_) (fun (h_105 : ¬ (nI 2 = nI 4)) => ?_)
            · exact absurd h_105 (by decide)
            refine am_run 1 (pc' := 70) (ls' := [some (.ref 0), some (.int (nI 1)), some (.int (nI u)), some (.int (nI 2)), some (.int (nI 1))]) (st' := [.int (nI 1)]) (σ' := σ3) rfl ?_
            refine am_if (ty := 73) (tn := 77) rfl (by decide) rfl rfl (fun (h_106 : nI 1 = 0) => ?_) (fun (h_106 : ¬ (nI 1 = 0)) => ?_)
            · exact absurd h_106 (by decide)
            refine am_run 1 (pc' := 78) (ls' := [some (.ref 0), some (.int (nI 1)), some (.int (nI u)), some (.int (nI 2)), some (.int (nI 1))]) (st' := [.int (nI 2)]) (σ' := σ3) rfl ?_
            refine am_if (ty := 81) (tn := 88) rfl (by decide) rfl rfl (fun (h_107 : nI 2 = 0) => ?_) (fun (h_107 : ¬ (nI 2 = 0)) => ?_)
            · exact absurd h_107 (by decide)
            refine am_run 2 (pc' := 90) (ls' := [some (.ref 0), some (.int (nI 1)), some (.int (nI u)), some (.int (nI 2)), some (.int (nI 1))]) (st' := [.int (nI 2), .int (nI 2)]) (σ' := σ3) rfl ?_
            refine am_ic (ty := 93) (tn := 100) rfl (by decide) rfl rfl (fun (h_108 : nI 2 = nI 2) => ?_) (fun (h_108 : ¬ (nI 2 = nI 2)) => ?_)
            rotate_left
            · exact absurd (by decide) h_108
            refine am_run 2 (pc' := 97) (ls' := [some (.ref 0), some (.int (nI 1)), some (.int (nI u)), some (.int (nI 2)), some (.int (nI 1))]) (st' := [.int (σ3.1 0 43)]) (σ' := σ3) rfl ?_
            refine am_top (v' := nI c) i43 ?_
            refine am_run 1 (pc' := 104) (ls' := [some (.ref 0), some (.int (nI 1)), some (.int (nI u)), some (.int (nI 2)), some (.int (nI 1))]) (st' := [.int (nI c)]) (σ' := σ3) rfl ?_
            refine am_reti rfl rfl ?_
            exact ⟨rfl, ((hK.KI (Or.inl rfl)).tr hS.KI).inv hI⟩
          · skip
            refine ⟨-1000003, ?_⟩
            refine am_enter' (M := M_X9_would) rfl rfl rfl (by omega) (ls := [some (.ref 41), some (.int (nI 1)), some (.int (nI u)), some (.int (nI 2)), none]) rfl (fun d' hd' => ?_)
            refine am_run 2 (pc' := 2) (ls' := [some (.ref 41), some (.int (nI 1)), some (.int (nI u)), some (.int (nI 2)), none]) (st' := [.int (nI 1), .ref 41]) (σ' := σ) rfl ?_
            refine am_invv (y := 140) (b := 41) (as := [.int (nI 1)]) (rest := []) rfl rfl rfl rfl rfl rfl rfl (Nat.le_of_ble_eq_true rfl) ?_
            refine c_filled1_1 (by omega) hf ?_
            show am_G _ M_X9_would _ 5 [some (.ref 41), some (.int (nI 1)), some (.int (nI u)), some (.int (nI 2)), none] [.ref 75] σ
            refine am_run 4 (pc' := 16) (ls' := [some (.ref 41), some (.int (nI 1)), some (.int (nI u)), some (.int (nI 2)), some (.ref 75)]) (st' := [.int (nI u)]) (σ' := σ) rfl ?_
            refine am_invs (y := 141) (as := [.int (nI u)]) (rest := []) rfl rfl rfl rfl rfl rfl (Nat.le_of_ble_eq_true rfl) ?_
            refine c_sig1 (by omega) (by omega) ?_
            show am_G _ M_X9_would _ 19 [some (.ref 41), some (.int (nI 1)), some (.int (nI u)), some (.int (nI 2)), some (.ref 75)] [.int (nI 1)] σ
            refine am_if (ty := 31) (tn := 22) rfl (by decide) rfl rfl (fun (h_1 : nI 1 = 0) => ?_) (fun (h_1 : ¬ (nI 1 = 0)) => ?_)
            · exact absurd h_1 (by decide)
            refine am_run 1 (pc' := 23) (ls' := [some (.ref 41), some (.int (nI 1)), some (.int (nI u)), some (.int (nI 2)), some (.ref 75)]) (st' := [.int (nI 2)]) (σ' := σ) rfl ?_
            refine am_if (ty := 31) (tn := 26) rfl (by decide) rfl rfl (fun (h_2 : nI 2 < 0) => ?_) (fun (h_2 : ¬ (nI 2 < 0)) => ?_)
            · exact absurd h_2 (by decide)
            refine am_run 2 (pc' := 28) (ls' := [some (.ref 41), some (.int (nI 1)), some (.int (nI u)), some (.int (nI 2)), some (.ref 75)]) (st' := [.int (nI 4), .int (nI 2)]) (σ' := σ) rfl ?_
            refine am_ic (ty := 31) (tn := 34) rfl (by decide) rfl rfl (fun (h_3 : nI 4 < nI 2) => ?_) (fun (h_3 : ¬ (nI 4 < nI 2)) => ?_)
            · exact absurd h_3 (by decide)
            refine am_run 3 (pc' := 40) (ls' := [some (.ref 41), some (.int (nI 1)), some (.int (nI u)), some (.int (nI 2)), some (.ref 75)]) (st' := [.ref 75, .ref 77]) (σ' := σ) rfl ?_
            refine am_invv (y := 66) (b := 75) (as := []) (rest := [.ref 77]) rfl rfl rfl rfl rfl rfl rfl (Nat.le_of_ble_eq_true rfl) ?_
            refine am_enter' rfl rfl rfl (by omega) (ls := [some (.ref 75)]) rfl (fun d_4 hd_4 => ?_)
            refine am_run 2 (pc' := 4) (ls' := [some (.ref 75)]) (st' := [.ref (σ.2 75 1)]) (σ' := σ) rfl ?_
            refine am_reta rfl rfl (Or.inr ⟨_, rfl⟩) ?_
            show am_G _ M_X9_would _ 43 [some (.ref 41), some (.int (nI 1)), some (.int (nI u)), some (.int (nI 2)), some (.ref 75)] [.ref (σ.2 75 1), .ref 77] σ
            refine am_run 1 (pc' := 45) (ls' := [some (.ref 41), some (.int (nI 1)), some (.int (nI u)), some (.int (nI 2)), some (.ref 75)]) (st' := [.ref 75, .ref (σ.2 75 1), .ref 77]) (σ' := σ) rfl ?_
            refine am_invv (y := 67) (b := 75) (as := []) (rest := [.ref (σ.2 75 1), .ref 77]) rfl rfl rfl rfl rfl rfl rfl (Nat.le_of_ble_eq_true rfl) ?_
            refine am_enter' rfl rfl rfl (by omega) (ls := [some (.ref 75)]) rfl (fun d_5 hd_5 => ?_)
            refine am_run 2 (pc' := 4) (ls' := [some (.ref 75)]) (st' := [.int (σ.1 75 3)]) (σ' := σ) rfl ?_
            refine am_top (v' := nI s) a3 ?_
            refine am_reti rfl rfl ?_
            show am_G _ M_X9_would _ 48 [some (.ref 41), some (.int (nI 1)), some (.int (nI u)), some (.int (nI 2)), some (.ref 75)] [.int (nI s), .ref (σ.2 75 1), .ref 77] σ
            refine am_run 1 (pc' := 49) (ls' := [some (.ref 41), some (.int (nI 1)), some (.int (nI u)), some (.int (nI 2)), some (.ref 75)]) (st' := [.int (nI u), .int (nI s), .ref (σ.2 75 1), .ref 77]) (σ' := σ) rfl ?_
            refine am_invv (y := 56) (b := 77) (as := [.ref (σ.2 75 1), .int (nI s), .int (nI u)]) (rest := []) rfl rfl rfl rfl rfl rfl rfl (Nat.le_of_ble_eq_true rfl) ?_
            refine c_determine (by omega) hW hR (show r + 1 ≤ n by omega) hro (Or.inl rfl) hs hu (fun σ2 hK hO => ?_)
            rw [hz] at hO
            obtain ⟨o0, o1, o2, o3, o4⟩ : σ2.1 77 0 = nI (P + 256 * A) ∧ σ2.1 77 1 = nI w ∧ σ2.1 77 2 = nI c ∧ σ2.1 77 3 = nI nx ∧ σ2.1 77 4 = nI rd := hO
            have hM2 := hM.keep2 (σ' := σ2) (fun c a => hK.1 c (by omega))
            have b32 : σ2.1 17 1 = nI s := by rw [hK.1 17 (by decide)]; exact b3
            have hn22 : σ2.1 2 1 = nI n := hM2.1.2.2.2.1
            show am_G _ M_X9_would _ 52 [some (.ref 41), some (.int (nI 1)), some (.int (nI u)), some (.int (nI 2)), some (.ref 75)] [] σ2
            refine am_run 2 (pc' := 54) (ls' := [some (.ref 41), some (.int (nI 1)), some (.int (nI u)), some (.int (nI 2)), some (.ref 75)]) (st' := [.int (nI 1), .int (nI 2)]) (σ' := σ2) rfl ?_
            refine am_ic (ty := 57) (tn := 65) rfl (by decide) rfl rfl (fun (h_6 : nI 2 = nI 1) => ?_) (fun (h_6 : ¬ (nI 2 = nI 1)) => ?_)
            · exact absurd h_6 (by decide)
            refine am_run 2 (pc' := 67) (ls' := [some (.ref 41), some (.int (nI 1)), some (.int (nI u)), some (.int (nI 2)), some (.ref 75)]) (st' := [.int (nI 4), .int (nI 2)]) (σ' := σ2) rfl ?_
            refine am_ic (ty := 70) (tn := 78) rfl (by decide) rfl rfl (fun (h_7 : nI 2 = nI 4) => ?_) (fun (h_7 : ¬ (nI 2 = nI 4)) => ?_)
            · exact absurd h_7 (by decide)
            refine am_run 2 (pc' := 82) (ls' := [some (.ref 41), some (.int (nI 1)), some (.int (nI u)), some (.int (nI 2)), some (.ref 75)]) (st' := [.ref 77]) (σ' := σ2) rfl ?_
            refine am_invv (y := 52) (b := 77) (as := []) (rest := []) rfl rfl rfl rfl rfl rfl rfl (Nat.le_of_ble_eq_true rfl) ?_
            refine am_enter' rfl rfl rfl (by omega) (ls := [some (.ref 77)]) rfl (fun d_8 hd_8 => ?_)
            refine am_run 2 (pc' := 4) (ls' := [some (.ref 77)]) (st' := [.int (σ2.1 77 1)]) (σ' := σ2) rfl ?_
            refine am_top (v' := nI w) o1 ?_
            refine am_if (ty := 11) (tn := 7) rfl (by decide) rfl rfl (fun (h_9 : nI w = 0) => ?_) (fun (h_9 : ¬ (nI w = 0)) => ?_)
            · have h_9 : w = 0 := (am_n0 (by omega)).mp h_9
              omega
            have h_9 : ¬ (w = 0) := fun z => h_9 ((am_n0 (by omega)).mpr z)
            refine am_run 2 (pc' := 12) (ls' := [some (.ref 77)]) (st' := [.int (nI 1)]) (σ' := σ2) rfl ?_
            refine am_retz rfl rfl (by decide) ?_
            show am_G _ M_X9_would _ 85 [some (.ref 41), some (.int (nI 1)), some (.int (nI u)), some (.int (nI 2)), some (.ref 75)] [.int (nI 1)] σ2
            refine am_if (ty := 91) (tn := 88) rfl (by decide) rfl rfl (fun (h_10 : nI 1 = 0) => ?_) (fun (h_10 : ¬ (nI 1 = 0)) => ?_)
            · exact absurd h_10 (by decide)
            refine am_run 1 (pc' := 90) (ls' := [some (.ref 41), some (.int (nI 1)), some (.int (nI u)), some (.int (nI 2)), some (.ref 75)]) (st' := [.int (-1000003)]) (σ' := σ2) rfl ?_
            refine am_reti rfl rfl ?_
            refine ⟨rfl, ?_⟩
            refine am_enter' (M := M_X10_would) rfl rfl rfl (by omega) (ls := [some (.ref 0), some (.int (nI 1)), some (.int (nI u)), some (.int (nI 2)), none]) rfl (fun d2 hd2 => ?_)
            refine am_run 2 (pc' := 2) (ls' := [some (.ref 0), some (.int (nI 1)), some (.int (nI u)), some (.int (nI 2)), none]) (st' := [.int (nI 1), .ref 0]) (σ' := σ2) rfl ?_
            refine am_invv (y := 151) (b := 0) (as := [.int (nI 1)]) (rest := []) rfl rfl rfl rfl rfl rfl rfl (Nat.le_of_ble_eq_true rfl) ?_
            refine c_prog1_1 (by omega) (n := n) (by exact hn22) hn1 hn60 ?_
            show am_G _ M_X10_would _ 5 [some (.ref 0), some (.int (nI 1)), some (.int (nI u)), some (.int (nI 2)), none] [.int (nI 1)] σ2
            refine am_if (ty := 8) (tn := 11) rfl (by decide) rfl rfl (fun (h_101 : nI 1 = 0) => ?_) (fun (h_101 : ¬ (nI 1 = 0)) => ?_)
            · exact absurd h_101 (by decide)
            refine am_run 3 (pc' := 16) (ls' := [some (.ref 0), some (.int (nI 1)), some (.int (nI u)), some (.int (nI 2)), none]) (st' := [.int (nI 255), .int (nI 0), .int (nI u)]) (σ' := σ2) rfl ?_
            refine am_invs (y := 148) (as := [.int (nI u), .int (nI 0), .int (nI 255)]) (rest := []) rfl rfl rfl rfl rfl rfl (Nat.le_of_ble_eq_true rfl) ?_
            refine c_in1 (by omega) (by omega) (by omega) (by omega) ?_
            show am_G _ M_X10_would _ 19 [some (.ref 0), some (.int (nI 1)), some (.int (nI u)), some (.int (nI 2)), none] [.int (nI 1)] σ2
            refine am_if (ty := 31) (tn := 22) rfl (by decide) rfl rfl (fun (h_102 : nI 1 = 0) => ?_) (fun (h_102 : ¬ (nI 1 = 0)) => ?_)
            · exact absurd h_102 (by decide)
            refine am_run 3 (pc' := 25) (ls' := [some (.ref 0), some (.int (nI 1)), some (.int (nI u)), some (.int (nI 2)), none]) (st' := [.int (nI 4), .int (nI 0), .int (nI 2)]) (σ' := σ2) rfl ?_
            refine am_invs (y := 148) (as := [.int (nI 2), .int (nI 0), .int (nI 4)]) (rest := []) rfl rfl rfl rfl rfl rfl (Nat.le_of_ble_eq_true rfl) ?_
            refine c_in1 (by omega) (by omega) (by omega) (by omega) ?_
            show am_G _ M_X10_would _ 28 [some (.ref 0), some (.int (nI 1)), some (.int (nI u)), some (.int (nI 2)), none] [.int (nI 1)] σ2
            refine am_if (ty := 31) (tn := 34) rfl (by decide) rfl rfl (fun (h_103 : nI 1 = 0) => ?_) (fun (h_103 : ¬ (nI 1 = 0)) => ?_)
            · exact absurd h_103 (by decide)
            refine am_run 5 (pc' := 41) (ls' := [some (.ref 0), some (.int (nI 1)), some (.int (nI u)), some (.int (nI 2)), none]) (st' := [.int (nI 1), .ref 17, .int (nI 1), .ref 0]) (σ' := σ2) rfl ?_
            refine am_ialdN (n := 2) (v := nI s) rfl rfl rfl (by decide) b32 (by decide) ?_
            refine am_run 1 (pc' := 43) (ls' := [some (.ref 0), some (.int (nI 1)), some (.int (nI u)), some (.int (nI 2)), none]) (st' := [.int (nI u), .int (nI s), .int (nI 1), .ref 0]) (σ' := σ2) rfl ?_
            refine am_invv (y := 229) (b := 0) (as := [.int (nI 1), .int (nI s), .int (nI u)]) (rest := []) rfl rfl rfl rfl rfl rfl rfl (Nat.le_of_ble_eq_true rfl) ?_
            refine c_settles0 (by omega) hM2 hs hv.2 hu hz hw0 (fun σ3 hS i38 i39 i40 i41 i29 => ?_)
            show am_G _ M_X10_would _ 46 [some (.ref 0), some (.int (nI 1)), some (.int (nI u)), some (.int (nI 2)), none] [.int (nI 0)] σ3
            refine am_run 3 (pc' := 50) (ls' := [some (.ref 0), some (.int (nI 1)), some (.int (nI u)), some (.int (nI 2)), some (.int (nI 0))]) (st' := [.int (nI 1), .int (nI 2)]) (σ' := σ3) rfl ?_
            refine am_ic (ty := 53) (tn := 58) rfl (by decide) rfl rfl (fun (h_104 : nI 2 = nI 1) => ?_) (fun (h_104 : ¬ (nI 2 = nI 1)) => ?_)
            · exact absurd h_104 (by decide)
            refine am_run 2 (pc' := 60) (ls' := [some (.ref 0), some (.int (nI 1)), some (.int (nI u)), some (.int (nI 2)), some (.int (nI 0))]) (st' := [.int (nI 4), .int (nI 2)]) (σ' := σ3) rfl ?_
            refine am_ic (ty := 63) (tn := 68) rfl (by decide) rfl rfl (fun (h_105 : nI 2 = nI 4) => ?_) (fun (h_105 : ¬ (nI 2 = nI 4)) => ?_)
            · exact absurd h_105 (by decide)
            refine am_run 1 (pc' := 70) (ls' := [some (.ref 0), some (.int (nI 1)), some (.int (nI u)), some (.int (nI 2)), some (.int (nI 0))]) (st' := [.int (nI 0)]) (σ' := σ3) rfl ?_
            refine am_if (ty := 73) (tn := 77) rfl (by decide) rfl rfl (fun (h_106 : nI 0 = 0) => ?_) (fun (h_106 : ¬ (nI 0 = 0)) => ?_)
            rotate_left
            · exact absurd (by decide) h_106
            refine am_run 1 (pc' := 76) (ls' := [some (.ref 0), some (.int (nI 1)), some (.int (nI u)), some (.int (nI 2)), some (.int (nI 0))]) (st' := [.int (-1000003)]) (σ' := σ3) rfl ?_
            refine am_reti rfl rfl ?_
            exact ⟨rfl, ((hK.KI (Or.inl rfl)).tr hS.KI).inv hI⟩
        · by_cases hw0 : w = 0
          · subst hw0
            refine ⟨nI nx, ?_⟩
            refine am_enter' (M := M_X9_would) rfl rfl rfl (by omega) (ls := [some (.ref 41), some (.int (nI 1)), some (.int (nI u)), some (.int (nI 3)), none]) rfl (fun d' hd' => ?_)
            refine am_run 2 (pc' := 2) (ls' := [some (.ref 41), some (.int (nI 1)), some (.int (nI u)), some (.int (nI 3)), none]) (st' := [.int (nI 1), .ref 41]) (σ' := σ) rfl ?_
            refine am_invv (y := 140) (b := 41) (as := [.int (nI 1)]) (rest := []) rfl rfl rfl rfl rfl rfl rfl (Nat.le_of_ble_eq_true rfl) ?_
            refine c_filled1_1 (by omega) hf ?_
            show am_G _ M_X9_would _ 5 [some (.ref 41), some (.int (nI 1)), some (.int (nI u)), some (.int (nI 3)), none] [.ref 75] σ
            refine am_run 4 (pc' := 16) (ls' := [some (.ref 41), some (.int (nI 1)), some (.int (nI u)), some (.int (nI 3)), some (.ref 75)]) (st' := [.int (nI u)]) (σ' := σ) rfl ?_
            refine am_invs (y := 141) (as := [.int (nI u)]) (rest := []) rfl rfl rfl rfl rfl rfl (Nat.le_of_ble_eq_true rfl) ?_
            refine c_sig1 (by omega) (by omega) ?_
            show am_G _ M_X9_would _ 19 [some (.ref 41), some (.int (nI 1)), some (.int (nI u)), some (.int (nI 3)), some (.ref 75)] [.int (nI 1)] σ
            refine am_if (ty := 31) (tn := 22) rfl (by decide) rfl rfl (fun (h_1 : nI 1 = 0) => ?_) (fun (h_1 : ¬ (nI 1 = 0)) => ?_)
            · exact absurd h_1 (by decide)
            refine am_run 1 (pc' := 23) (ls' := [some (.ref 41), some (.int (nI 1)), some (.int (nI u)), some (.int (nI 3)), some (.ref 75)]) (st' := [.int (nI 3)]) (σ' := σ) rfl ?_
            refine am_if (ty := 31) (tn := 26) rfl (by decide) rfl rfl (fun (h_2 : nI 3 < 0) => ?_) (fun (h_2 : ¬ (nI 3 < 0)) => ?_)
            · exact absurd h_2 (by decide)
            refine am_run 2 (pc' := 28) (ls' := [some (.ref 41), some (.int (nI 1)), some (.int (nI u)), some (.int (nI 3)), some (.ref 75)]) (st' := [.int (nI 4), .int (nI 3)]) (σ' := σ) rfl ?_
            refine am_ic (ty := 31) (tn := 34) rfl (by decide) rfl rfl (fun (h_3 : nI 4 < nI 3) => ?_) (fun (h_3 : ¬ (nI 4 < nI 3)) => ?_)
            · exact absurd h_3 (by decide)
            refine am_run 3 (pc' := 40) (ls' := [some (.ref 41), some (.int (nI 1)), some (.int (nI u)), some (.int (nI 3)), some (.ref 75)]) (st' := [.ref 75, .ref 77]) (σ' := σ) rfl ?_
            refine am_invv (y := 66) (b := 75) (as := []) (rest := [.ref 77]) rfl rfl rfl rfl rfl rfl rfl (Nat.le_of_ble_eq_true rfl) ?_
            refine am_enter' rfl rfl rfl (by omega) (ls := [some (.ref 75)]) rfl (fun d_4 hd_4 => ?_)
            refine am_run 2 (pc' := 4) (ls' := [some (.ref 75)]) (st' := [.ref (σ.2 75 1)]) (σ' := σ) rfl ?_
            refine am_reta rfl rfl (Or.inr ⟨_, rfl⟩) ?_
            show am_G _ M_X9_would _ 43 [some (.ref 41), some (.int (nI 1)), some (.int (nI u)), some (.int (nI 3)), some (.ref 75)] [.ref (σ.2 75 1), .ref 77] σ
            refine am_run 1 (pc' := 45) (ls' := [some (.ref 41), some (.int (nI 1)), some (.int (nI u)), some (.int (nI 3)), some (.ref 75)]) (st' := [.ref 75, .ref (σ.2 75 1), .ref 77]) (σ' := σ) rfl ?_
            refine am_invv (y := 67) (b := 75) (as := []) (rest := [.ref (σ.2 75 1), .ref 77]) rfl rfl rfl rfl rfl rfl rfl (Nat.le_of_ble_eq_true rfl) ?_
            refine am_enter' rfl rfl rfl (by omega) (ls := [some (.ref 75)]) rfl (fun d_5 hd_5 => ?_)
            refine am_run 2 (pc' := 4) (ls' := [some (.ref 75)]) (st' := [.int (σ.1 75 3)]) (σ' := σ) rfl ?_
            refine am_top (v' := nI s) a3 ?_
            refine am_reti rfl rfl ?_
            show am_G _ M_X9_would _ 48 [some (.ref 41), some (.int (nI 1)), some (.int (nI u)), some (.int (nI 3)), some (.ref 75)] [.int (nI s), .ref (σ.2 75 1), .ref 77] σ
            refine am_run 1 (pc' := 49) (ls' := [some (.ref 41), some (.int (nI 1)), some (.int (nI u)), some (.int (nI 3)), some (.ref 75)]) (st' := [.int (nI u), .int (nI s), .ref (σ.2 75 1), .ref 77]) (σ' := σ) rfl ?_
            refine am_invv (y := 56) (b := 77) (as := [.ref (σ.2 75 1), .int (nI s), .int (nI u)]) (rest := []) rfl rfl rfl rfl rfl rfl rfl (Nat.le_of_ble_eq_true rfl) ?_
            refine c_determine (by omega) hW hR (show r + 1 ≤ n by omega) hro (Or.inl rfl) hs hu (fun σ2 hK hO => ?_)
            rw [hz] at hO
            obtain ⟨o0, o1, o2, o3, o4⟩ : σ2.1 77 0 = nI (P + 256 * A) ∧ σ2.1 77 1 = nI 0 ∧ σ2.1 77 2 = nI c ∧ σ2.1 77 3 = nI nx ∧ σ2.1 77 4 = nI rd := hO
            have hM2 := hM.keep2 (σ' := σ2) (fun c a => hK.1 c (by omega))
            have b32 : σ2.1 17 1 = nI s := by rw [hK.1 17 (by decide)]; exact b3
            have hn22 : σ2.1 2 1 = nI n := hM2.1.2.2.2.1
            show am_G _ M_X9_would _ 52 [some (.ref 41), some (.int (nI 1)), some (.int (nI u)), some (.int (nI 3)), some (.ref 75)] [] σ2
            refine am_run 2 (pc' := 54) (ls' := [some (.ref 41), some (.int (nI 1)), some (.int (nI u)), some (.int (nI 3)), some (.ref 75)]) (st' := [.int (nI 1), .int (nI 3)]) (σ' := σ2) rfl ?_
            refine am_ic (ty := 57) (tn := 65) rfl (by decide) rfl rfl (fun (h_6 : nI 3 = nI 1) => ?_) (fun (h_6 : ¬ (nI 3 = nI 1)) => ?_)
            · exact absurd h_6 (by decide)
            refine am_run 2 (pc' := 67) (ls' := [some (.ref 41), some (.int (nI 1)), some (.int (nI u)), some (.int (nI 3)), some (.ref 75)]) (st' := [.int (nI 4), .int (nI 3)]) (σ' := σ2) rfl ?_
            refine am_ic (ty := 70) (tn := 78) rfl (by decide) rfl rfl (fun (h_7 : nI 3 = nI 4) => ?_) (fun (h_7 : ¬ (nI 3 = nI 4)) => ?_)
            · exact absurd h_7 (by decide)
            refine am_run 2 (pc' := 82) (ls' := [some (.ref 41), some (.int (nI 1)), some (.int (nI u)), some (.int (nI 3)), some (.ref 75)]) (st' := [.ref 77]) (σ' := σ2) rfl ?_
            refine am_invv (y := 52) (b := 77) (as := []) (rest := []) rfl rfl rfl rfl rfl rfl rfl (Nat.le_of_ble_eq_true rfl) ?_
            refine am_enter' rfl rfl rfl (by omega) (ls := [some (.ref 77)]) rfl (fun d_8 hd_8 => ?_)
            refine am_run 2 (pc' := 4) (ls' := [some (.ref 77)]) (st' := [.int (σ2.1 77 1)]) (σ' := σ2) rfl ?_
            refine am_top (v' := nI 0) o1 ?_
            refine am_if (ty := 11) (tn := 7) rfl (by decide) rfl rfl (fun (h_9 : nI 0 = 0) => ?_) (fun (h_9 : ¬ (nI 0 = 0)) => ?_)
            rotate_left
            · exact absurd (by decide) h_9
            refine am_run 1 (pc' := 12) (ls' := [some (.ref 77)]) (st' := [.int (nI 0)]) (σ' := σ2) rfl ?_
            refine am_retz rfl rfl (by decide) ?_
            show am_G _ M_X9_would _ 85 [some (.ref 41), some (.int (nI 1)), some (.int (nI u)), some (.int (nI 3)), some (.ref 75)] [.int (nI 0)] σ2
            refine am_if (ty := 91) (tn := 88) rfl (by decide) rfl rfl (fun (h_10 : nI 0 = 0) => ?_) (fun (h_10 : ¬ (nI 0 = 0)) => ?_)
            rotate_left
            · exact absurd (by decide) h_10
            refine am_run 1 (pc' := 92) (ls' := [some (.ref 41), some (.int (nI 1)), some (.int (nI u)), some (.int (nI 3)), some (.ref 75)]) (st' := [.int (nI 3)]) (σ' := σ2) rfl ?_
            refine am_if (ty := 95) (tn := 103) rfl (by decide) rfl rfl (fun (h_11 : nI 3 = 0) => ?_) (fun (h_11 : ¬ (nI 3 = 0)) => ?_)
            · exact absurd h_11 (by decide)
            refine am_run 2 (pc' := 105) (ls' := [some (.ref 41), some (.int (nI 1)), some (.int (nI u)), some (.int (nI 3)), some (.ref 75)]) (st' := [.int (nI 2), .int (nI 3)]) (σ' := σ2) rfl ?_
            refine am_ic (ty := 108) (tn := 118) rfl (by decide) rfl rfl (fun (h_12 : nI 3 = nI 2) => ?_) (fun (h_12 : ¬ (nI 3 = nI 2)) => ?_)
            · exact absurd h_12 (by decide)
            refine am_run 2 (pc' := 122) (ls' := [some (.ref 41), some (.int (nI 1)), some (.int (nI u)), some (.int (nI 3)), some (.ref 75)]) (st' := [.ref 77]) (σ' := σ2) rfl ?_
            refine am_invv (y := 54) (b := 77) (as := []) (rest := []) rfl rfl rfl rfl rfl rfl rfl (Nat.le_of_ble_eq_true rfl) ?_
            refine am_enter' rfl rfl rfl (by omega) (ls := [some (.ref 77)]) rfl (fun d_13 hd_13 => ?_)
            refine am_run 2 (pc' := 4) (ls' := [some (.ref 77)]) (st' := [.int (σ2.1 77 3)]) (σ' := σ2) rfl ?_
            refine am_top (v' := nI nx) o3 ?_
            refine am_reti rfl rfl ?_
            show am_G _ M_X9_would _ 125 [some (.ref 41), some (.int (nI 1)), some (.int (nI u)), some (.int (nI 3)), some (.ref 75)] [.int (nI nx)] σ2
            refine am_reti rfl rfl ?_
            refine ⟨rfl, ?_⟩
            refine am_enter' (M := M_X10_would) rfl rfl rfl (by omega) (ls := [some (.ref 0), some (.int (nI 1)), some (.int (nI u)), some (.int (nI 3)), none]) rfl (fun d2 hd2 => ?_)
            refine am_run 2 (pc' := 2) (ls' := [some (.ref 0), some (.int (nI 1)), some (.int (nI u)), some (.int (nI 3)), none]) (st' := [.int (nI 1), .ref 0]) (σ' := σ2) rfl ?_
            refine am_invv (y := 151) (b := 0) (as := [.int (nI 1)]) (rest := []) rfl rfl rfl rfl rfl rfl rfl (Nat.le_of_ble_eq_true rfl) ?_
            refine c_prog1_1 (by omega) (n := n) (by exact hn22) hn1 hn60 ?_
            show am_G _ M_X10_would _ 5 [some (.ref 0), some (.int (nI 1)), some (.int (nI u)), some (.int (nI 3)), none] [.int (nI 1)] σ2
            refine am_if (ty := 8) (tn := 11) rfl (by decide) rfl rfl (fun (h_101 : nI 1 = 0) => ?_) (fun (h_101 : ¬ (nI 1 = 0)) => ?_)
            · exact absurd h_101 (by decide)
            refine am_run 3 (pc' := 16) (ls' := [some (.ref 0), some (.int (nI 1)), some (.int (nI u)), some (.int (nI 3)), none]) (st' := [.int (nI 255), .int (nI 0), .int (nI u)]) (σ' := σ2) rfl ?_
            refine am_invs (y := 148) (as := [.int (nI u), .int (nI 0), .int (nI 255)]) (rest := []) rfl rfl rfl rfl rfl rfl (Nat.le_of_ble_eq_true rfl) ?_
            refine c_in1 (by omega) (by omega) (by omega) (by omega) ?_
            show am_G _ M_X10_would _ 19 [some (.ref 0), some (.int (nI 1)), some (.int (nI u)), some (.int (nI 3)), none] [.int (nI 1)] σ2
            refine am_if (ty := 31) (tn := 22) rfl (by decide) rfl rfl (fun (h_102 : nI 1 = 0) => ?_) (fun (h_102 : ¬ (nI 1 = 0)) => ?_)
            · exact absurd h_102 (by decide)
            refine am_run 3 (pc' := 25) (ls' := [some (.ref 0), some (.int (nI 1)), some (.int (nI u)), some (.int (nI 3)), none]) (st' := [.int (nI 4), .int (nI 0), .int (nI 3)]) (σ' := σ2) rfl ?_
            refine am_invs (y := 148) (as := [.int (nI 3), .int (nI 0), .int (nI 4)]) (rest := []) rfl rfl rfl rfl rfl rfl (Nat.le_of_ble_eq_true rfl) ?_
            refine c_in1 (by omega) (by omega) (by omega) (by omega) ?_
            show am_G _ M_X10_would _ 28 [some (.ref 0), some (.int (nI 1)), some (.int (nI u)), some (.int (nI 3)), none] [.int (nI 1)] σ2
            refine am_if (ty := 31) (tn := 34) rfl (by decide) rfl rfl (fun (h_103 : nI 1 = 0) => ?_) (fun (h_103 : ¬ (nI 1 = 0)) => ?_)
            · exact absurd h_103 (by decide)
            refine am_run 5 (pc' := 41) (ls' := [some (.ref 0), some (.int (nI 1)), some (.int (nI u)), some (.int (nI 3)), none]) (st' := [.int (nI 1), .ref 17, .int (nI 1), .ref 0]) (σ' := σ2) rfl ?_
            refine am_ialdN (n := 2) (v := nI s) rfl rfl rfl (by decide) b32 (by decide) ?_
            refine am_run 1 (pc' := 43) (ls' := [some (.ref 0), some (.int (nI 1)), some (.int (nI u)), some (.int (nI 3)), none]) (st' := [.int (nI u), .int (nI s), .int (nI 1), .ref 0]) (σ' := σ2) rfl ?_
            refine am_invv (y := 229) (b := 0) (as := [.int (nI 1), .int (nI s), .int (nI u)]) (rest := []) rfl rfl rfl rfl rfl rfl rfl (Nat.le_of_ble_eq_true rfl) ?_
            refine c_settles1 (by omega) hM2 hs hv.2 hu hz (fun σ3 hS i38 i39 i40 i41 i42 i43 i44 i29 => ?_)
            show am_G _ M_X10_would _ 46 [some (.ref 0), some (.int (nI 1)), some (.int (nI u)), some (.int (nI 3)), none] [.int (nI 1)] σ3
            refine am_run 3 (pc' := 50) (ls' := [some (.ref 0), some (.int (nI 1)), some (.int (nI u)), some (.int (nI 3)), some (.int (nI 1))]) (st' := [.int (nI 1), .int (nI 3)]) (σ' := σ3) rfl ?_
            refine am_ic (ty := 53) (tn := 58) rfl (by decide) rfl rfl (fun (h_104 : nI 3 = nI 1) => ?_) (fun (h_104 : ¬ (nI 3 = nI 1)) => ?_)
            · exact absurd h_104 (by decide)
            refine am_run 2 (pc' := 60) (ls' := [some (.ref 0), some (.int (nI 1)), some (.int (nI u)), some (.int (nI 3)), some (.int (nI 1))]) (st' := [.int (nI 4), .int (nI 3)]) (σ' := σ3) rfl ?_
            refine am_ic (ty := 63) (tn := 68) rfl (by decide) rfl rfl (fun (h_105 : nI 3 = nI 4) => ?_) (fun (h_105 : ¬ (nI 3 = nI 4)) => ?_)
            · exact absurd h_105 (by decide)
            refine am_run 1 (pc' := 70) (ls' := [some (.ref 0), some (.int (nI 1)), some (.int (nI u)), some (.int (nI 3)), some (.int (nI 1))]) (st' := [.int (nI 1)]) (σ' := σ3) rfl ?_
            refine am_if (ty := 73) (tn := 77) rfl (by decide) rfl rfl (fun (h_106 : nI 1 = 0) => ?_) (fun (h_106 : ¬ (nI 1 = 0)) => ?_)
            · exact absurd h_106 (by decide)
            refine am_run 1 (pc' := 78) (ls' := [some (.ref 0), some (.int (nI 1)), some (.int (nI u)), some (.int (nI 3)), some (.int (nI 1))]) (st' := [.int (nI 3)]) (σ' := σ3) rfl ?_
            refine am_if (ty := 81) (tn := 88) rfl (by decide) rfl rfl (fun (h_107 : nI 3 = 0) => ?_) (fun (h_107 : ¬ (nI 3 = 0)) => ?_)
            · exact absurd h_107 (by decide)
            refine am_run 2 (pc' := 90) (ls' := [some (.ref 0), some (.int (nI 1)), some (.int (nI u)), some (.int (nI 3)), some (.int (nI 1))]) (st' := [.int (nI 2), .int (nI 3)]) (σ' := σ3) rfl ?_
            refine am_ic (ty := 93) (tn := 100) rfl (by decide) rfl rfl (fun (h_108 : nI 3 = nI 2) => ?_) (fun (h_108 : ¬ (nI 3 = nI 2)) => ?_)
            · exact absurd h_108 (by decide)
            refine am_run 2 (pc' := 104) (ls' := [some (.ref 0), some (.int (nI 1)), some (.int (nI u)), some (.int (nI 3)), some (.int (nI 1))]) (st' := [.int (σ3.1 0 44)]) (σ' := σ3) rfl ?_
            refine am_top (v' := nI nx) i44 ?_
            refine am_reti rfl rfl ?_
            exact ⟨rfl, ((hK.KI (Or.inl rfl)).tr hS.KI).inv hI⟩
          · skip
            refine ⟨-1000003, ?_⟩
            refine am_enter' (M := M_X9_would) rfl rfl rfl (by omega) (ls := [some (.ref 41), some (.int (nI 1)), some (.int (nI u)), some (.int (nI 3)), none]) rfl (fun d' hd' => ?_)
            refine am_run 2 (pc' := 2) (ls' := [some (.ref 41), some (.int (nI 1)), some (.int (nI u)), some (.int (nI 3)), none]) (st' := [.int (nI 1), .ref 41]) (σ' := σ) rfl ?_
            refine am_invv (y := 140) (b := 41) (as := [.int (nI 1)]) (rest := []) rfl rfl rfl rfl rfl rfl rfl (Nat.le_of_ble_eq_true rfl) ?_
            refine c_filled1_1 (by omega) hf ?_
            show am_G _ M_X9_would _ 5 [some (.ref 41), some (.int (nI 1)), some (.int (nI u)), some (.int (nI 3)), none] [.ref 75] σ
            refine am_run 4 (pc' := 16) (ls' := [some (.ref 41), some (.int (nI 1)), some (.int (nI u)), some (.int (nI 3)), some (.ref 75)]) (st' := [.int (nI u)]) (σ' := σ) rfl ?_
            refine am_invs (y := 141) (as := [.int (nI u)]) (rest := []) rfl rfl rfl rfl rfl rfl (Nat.le_of_ble_eq_true rfl) ?_
            refine c_sig1 (by omega) (by omega) ?_
            show am_G _ M_X9_would _ 19 [some (.ref 41), some (.int (nI 1)), some (.int (nI u)), some (.int (nI 3)), some (.ref 75)] [.int (nI 1)] σ
            refine am_if (ty := 31) (tn := 22) rfl (by decide) rfl rfl (fun (h_1 : nI 1 = 0) => ?_) (fun (h_1 : ¬ (nI 1 = 0)) => ?_)
            · exact absurd h_1 (by decide)
            refine am_run 1 (pc' := 23) (ls' := [some (.ref 41), some (.int (nI 1)), some (.int (nI u)), some (.int (nI 3)), some (.ref 75)]) (st' := [.int (nI 3)]) (σ' := σ) rfl ?_
            refine am_if (ty := 31) (tn := 26) rfl (by decide) rfl rfl (fun (h_2 : nI 3 < 0) => ?_) (fun (h_2 : ¬ (nI 3 < 0)) => ?_)
            · exact absurd h_2 (by decide)
            refine am_run 2 (pc' := 28) (ls' := [some (.ref 41), some (.int (nI 1)), some (.int (nI u)), some (.int (nI 3)), some (.ref 75)]) (st' := [.int (nI 4), .int (nI 3)]) (σ' := σ) rfl ?_
            refine am_ic (ty := 31) (tn := 34) rfl (by decide) rfl rfl (fun (h_3 : nI 4 < nI 3) => ?_) (fun (h_3 : ¬ (nI 4 < nI 3)) => ?_)
            · exact absurd h_3 (by decide)
            refine am_run 3 (pc' := 40) (ls' := [some (.ref 41), some (.int (nI 1)), some (.int (nI u)), some (.int (nI 3)), some (.ref 75)]) (st' := [.ref 75, .ref 77]) (σ' := σ) rfl ?_
            refine am_invv (y := 66) (b := 75) (as := []) (rest := [.ref 77]) rfl rfl rfl rfl rfl rfl rfl (Nat.le_of_ble_eq_true rfl) ?_
            refine am_enter' rfl rfl rfl (by omega) (ls := [some (.ref 75)]) rfl (fun d_4 hd_4 => ?_)
            refine am_run 2 (pc' := 4) (ls' := [some (.ref 75)]) (st' := [.ref (σ.2 75 1)]) (σ' := σ) rfl ?_
            refine am_reta rfl rfl (Or.inr ⟨_, rfl⟩) ?_
            show am_G _ M_X9_would _ 43 [some (.ref 41), some (.int (nI 1)), some (.int (nI u)), some (.int (nI 3)), some (.ref 75)] [.ref (σ.2 75 1), .ref 77] σ
            refine am_run 1 (pc' := 45) (ls' := [some (.ref 41), some (.int (nI 1)), some (.int (nI u)), some (.int (nI 3)), some (.ref 75)]) (st' := [.ref 75, .ref (σ.2 75 1), .ref 77]) (σ' := σ) rfl ?_
            refine am_invv (y := 67) (b := 75) (as := []) (rest := [.ref (σ.2 75 1), .ref 77]) rfl rfl rfl rfl rfl rfl rfl (Nat.le_of_ble_eq_true rfl) ?_
            refine am_enter' rfl rfl rfl (by omega) (ls := [some (.ref 75)]) rfl (fun d_5 hd_5 => ?_)
            refine am_run 2 (pc' := 4) (ls' := [some (.ref 75)]) (st' := [.int (σ.1 75 3)]) (σ' := σ) rfl ?_
            refine am_top (v' := nI s) a3 ?_
            refine am_reti rfl rfl ?_
            show am_G _ M_X9_would _ 48 [some (.ref 41), some (.int (nI 1)), some (.int (nI u)), some (.int (nI 3)), some (.ref 75)] [.int (nI s), .ref (σ.2 75 1), .ref 77] σ
            refine am_run 1 (pc' := 49) (ls' := [some (.ref 41), some (.int (nI 1)), some (.int (nI u)), some (.int (nI 3)), some (.ref 75)]) (st' := [.int (nI u), .int (nI s), .ref (σ.2 75 1), .ref 77]) (σ' := σ) rfl ?_
            refine am_invv (y := 56) (b := 77) (as := [.ref (σ.2 75 1), .int (nI s), .int (nI u)]) (rest := []) rfl rfl rfl rfl rfl rfl rfl (Nat.le_of_ble_eq_true rfl) ?_
            refine c_determine (by omega) hW hR (show r + 1 ≤ n by omega) hro (Or.inl rfl) hs hu (fun σ2 hK hO => ?_)
            rw [hz] at hO
            obtain ⟨o0, o1, o2, o3, o4⟩ : σ2.1 77 0 = nI (P + 256 * A) ∧ σ2.1 77 1 = nI w ∧ σ2.1 77 2 = nI c ∧ σ2.1 77 3 = nI nx ∧ σ2.1 77 4 = nI rd := hO
            have hM2 := hM.keep2 (σ' := σ2) (fun c a => hK.1 c (by omega))
            have b32 : σ2.1 17 1 = nI s := by rw [hK.1 17 (by decide)]; exact b3
            have hn22 : σ2.1 2 1 = nI n := hM2.1.2.2.2.1
            show am_G _ M_X9_would _ 52 [some (.ref 41), some (.int (nI 1)), some (.int (nI u)), some (.int (nI 3)), some (.ref 75)] [] σ2
            refine am_run 2 (pc' := 54) (ls' := [some (.ref 41), some (.int (nI 1)), some (.int (nI u)), some (.int (nI 3)), some (.ref 75)]) (st' := [.int (nI 1), .int (nI 3)]) (σ' := σ2) rfl ?_
            refine am_ic (ty := 57) (tn := 65) rfl (by decide) rfl rfl (fun (h_6 : nI 3 = nI 1) => ?_) (fun (h_6 : ¬ (nI 3 = nI 1)) => ?_)
            · exact absurd h_6 (by decide)
            refine am_run 2 (pc' := 67) (ls' := [some (.ref 41), some (.int (nI 1)), some (.int (nI u)), some (.int (nI 3)), some (.ref 75)]) (st' := [.int (nI 4), .int (nI 3)]) (σ' := σ2) rfl ?_
            refine am_ic (ty := 70) (tn := 78) rfl (by decide) rfl rfl (fun (h_7 : nI 3 = nI 4) => ?_) (fun (h_7 : ¬ (nI 3 = nI 4)) => ?_)
            · exact absurd h_7 (by decide)
            refine am_run 2 (pc' := 82) (ls' := [some (.ref 41), some (.int (nI 1)), some (.int (nI u)), some (.int (nI 3)), some (.ref 75)]) (st' := [.ref 77]) (σ' := σ2) rfl ?_
            refine am_invv (y := 52) (b := 77) (as := []) (rest := []) rfl rfl rfl rfl rfl rfl rfl (Nat.le_of_ble_eq_true rfl) ?_
            refine am_enter' rfl rfl rfl (by omega) (ls := [some (.ref 77)]) rfl (fun d_8 hd_8 => ?_)
            refine am_run 2 (pc' := 4) (ls' := [some (.ref 77)]) (st' := [.int (σ2.1 77 1)]) (σ' := σ2) rfl ?_
            refine am_top (v' := nI w) o1 ?_
            refine am_if (ty := 11) (tn := 7) rfl (by decide) rfl rfl (fun (h_9 : nI w = 0) => ?_) (fun (h_9 : ¬ (nI w = 0)) => ?_)
            · have h_9 : w = 0 := (am_n0 (by omega)).mp h_9
              omega
            have h_9 : ¬ (w = 0) := fun z => h_9 ((am_n0 (by omega)).mpr z)
            refine am_run 2 (pc' := 12) (ls' := [some (.ref 77)]) (st' := [.int (nI 1)]) (σ' := σ2) rfl ?_
            refine am_retz rfl rfl (by decide) ?_
            show am_G _ M_X9_would _ 85 [some (.ref 41), some (.int (nI 1)), some (.int (nI u)), some (.int (nI 3)), some (.ref 75)] [.int (nI 1)] σ2
            refine am_if (ty := 91) (tn := 88) rfl (by decide) rfl rfl (fun (h_10 : nI 1 = 0) => ?_) (fun (h_10 : ¬ (nI 1 = 0)) => ?_)
            · exact absurd h_10 (by decide)
            refine am_run 1 (pc' := 90) (ls' := [some (.ref 41), some (.int (nI 1)), some (.int (nI u)), some (.int (nI 3)), some (.ref 75)]) (st' := [.int (-1000003)]) (σ' := σ2) rfl ?_
            refine am_reti rfl rfl ?_
            refine ⟨rfl, ?_⟩
            refine am_enter' (M := M_X10_would) rfl rfl rfl (by omega) (ls := [some (.ref 0), some (.int (nI 1)), some (.int (nI u)), some (.int (nI 3)), none]) rfl (fun d2 hd2 => ?_)
            refine am_run 2 (pc' := 2) (ls' := [some (.ref 0), some (.int (nI 1)), some (.int (nI u)), some (.int (nI 3)), none]) (st' := [.int (nI 1), .ref 0]) (σ' := σ2) rfl ?_
            refine am_invv (y := 151) (b := 0) (as := [.int (nI 1)]) (rest := []) rfl rfl rfl rfl rfl rfl rfl (Nat.le_of_ble_eq_true rfl) ?_
            refine c_prog1_1 (by omega) (n := n) (by exact hn22) hn1 hn60 ?_
            show am_G _ M_X10_would _ 5 [some (.ref 0), some (.int (nI 1)), some (.int (nI u)), some (.int (nI 3)), none] [.int (nI 1)] σ2
            refine am_if (ty := 8) (tn := 11) rfl (by decide) rfl rfl (fun (h_101 : nI 1 = 0) => ?_) (fun (h_101 : ¬ (nI 1 = 0)) => ?_)
            · exact absurd h_101 (by decide)
            refine am_run 3 (pc' := 16) (ls' := [some (.ref 0), some (.int (nI 1)), some (.int (nI u)), some (.int (nI 3)), none]) (st' := [.int (nI 255), .int (nI 0), .int (nI u)]) (σ' := σ2) rfl ?_
            refine am_invs (y := 148) (as := [.int (nI u), .int (nI 0), .int (nI 255)]) (rest := []) rfl rfl rfl rfl rfl rfl (Nat.le_of_ble_eq_true rfl) ?_
            refine c_in1 (by omega) (by omega) (by omega) (by omega) ?_
            show am_G _ M_X10_would _ 19 [some (.ref 0), some (.int (nI 1)), some (.int (nI u)), some (.int (nI 3)), none] [.int (nI 1)] σ2
            refine am_if (ty := 31) (tn := 22) rfl (by decide) rfl rfl (fun (h_102 : nI 1 = 0) => ?_) (fun (h_102 : ¬ (nI 1 = 0)) => ?_)
            · exact absurd h_102 (by decide)
            refine am_run 3 (pc' := 25) (ls' := [some (.ref 0), some (.int (nI 1)), some (.int (nI u)), some (.int (nI 3)), none]) (st' := [.int (nI 4), .int (nI 0), .int (nI 3)]) (σ' := σ2) rfl ?_
            refine am_invs (y := 148) (as := [.int (nI 3), .int (nI 0), .int (nI 4)]) (rest := []) rfl rfl rfl rfl rfl rfl (Nat.le_of_ble_eq_true rfl) ?_
            refine c_in1 (by omega) (by omega) (by omega) (by omega) ?_
            show am_G _ M_X10_would _ 28 [some (.ref 0), some (.int (nI 1)), some (.int (nI u)), some (.int (nI 3)), none] [.int (nI 1)] σ2
            refine am_if (ty := 31) (tn := 34) rfl (by decide) rfl rfl (fun (h_103 : nI 1 = 0) => ?_) (fun (h_103 : ¬ (nI 1 = 0)) => ?_)
            · exact absurd h_103 (by decide)
            refine am_run 5 (pc' := 41) (ls' := [some (.ref 0), some (.int (nI 1)), some (.int (nI u)), some (.int (nI 3)), none]) (st' := [.int (nI 1), .ref 17, .int (nI 1), .ref 0]) (σ' := σ2) rfl ?_
            refine am_ialdN (n := 2) (v := nI s) rfl rfl rfl (by decide) b32 (by decide) ?_
            refine am_run 1 (pc' := 43) (ls' := [some (.ref 0), some (.int (nI 1)), some (.int (nI u)), some (.int (nI 3)), none]) (st' := [.int (nI u), .int (nI s), .int (nI 1), .ref 0]) (σ' := σ2) rfl ?_
            refine am_invv (y := 229) (b := 0) (as := [.int (nI 1), .int (nI s), .int (nI u)]) (rest := []) rfl rfl rfl rfl rfl rfl rfl (Nat.le_of_ble_eq_true rfl) ?_
            refine c_settles0 (by omega) hM2 hs hv.2 hu hz hw0 (fun σ3 hS i38 i39 i40 i41 i29 => ?_)
            show am_G _ M_X10_would _ 46 [some (.ref 0), some (.int (nI 1)), some (.int (nI u)), some (.int (nI 3)), none] [.int (nI 0)] σ3
            refine am_run 3 (pc' := 50) (ls' := [some (.ref 0), some (.int (nI 1)), some (.int (nI u)), some (.int (nI 3)), some (.int (nI 0))]) (st' := [.int (nI 1), .int (nI 3)]) (σ' := σ3) rfl ?_
            refine am_ic (ty := 53) (tn := 58) rfl (by decide) rfl rfl (fun (h_104 : nI 3 = nI 1) => ?_) (fun (h_104 : ¬ (nI 3 = nI 1)) => ?_)
            · exact absurd h_104 (by decide)
            refine am_run 2 (pc' := 60) (ls' := [some (.ref 0), some (.int (nI 1)), some (.int (nI u)), some (.int (nI 3)), some (.int (nI 0))]) (st' := [.int (nI 4), .int (nI 3)]) (σ' := σ3) rfl ?_
            refine am_ic (ty := 63) (tn := 68) rfl (by decide) rfl rfl (fun (h_105 : nI 3 = nI 4) => ?_) (fun (h_105 : ¬ (nI 3 = nI 4)) => ?_)
            · exact absurd h_105 (by decide)
            refine am_run 1 (pc' := 70) (ls' := [some (.ref 0), some (.int (nI 1)), some (.int (nI u)), some (.int (nI 3)), some (.int (nI 0))]) (st' := [.int (nI 0)]) (σ' := σ3) rfl ?_
            refine am_if (ty := 73) (tn := 77) rfl (by decide) rfl rfl (fun (h_106 : nI 0 = 0) => ?_) (fun (h_106 : ¬ (nI 0 = 0)) => ?_)
            rotate_left
            · exact absurd (by decide) h_106
            refine am_run 1 (pc' := 76) (ls' := [some (.ref 0), some (.int (nI 1)), some (.int (nI u)), some (.int (nI 3)), some (.int (nI 0))]) (st' := [.int (-1000003)]) (σ' := σ3) rfl ?_
            refine am_reti rfl rfl ?_
            exact ⟨rfl, ((hK.KI (Or.inl rfl)).tr hS.KI).inv hI⟩
        · by_cases hw0 : w = 0
          · subst hw0
            refine ⟨nI rd, ?_⟩
            refine am_enter' (M := M_X9_would) rfl rfl rfl (by omega) (ls := [some (.ref 41), some (.int (nI 1)), some (.int (nI u)), some (.int (nI 4)), none]) rfl (fun d' hd' => ?_)
            refine am_run 2 (pc' := 2) (ls' := [some (.ref 41), some (.int (nI 1)), some (.int (nI u)), some (.int (nI 4)), none]) (st' := [.int (nI 1), .ref 41]) (σ' := σ) rfl ?_
            refine am_invv (y := 140) (b := 41) (as := [.int (nI 1)]) (rest := []) rfl rfl rfl rfl rfl rfl rfl (Nat.le_of_ble_eq_true rfl) ?_
            refine c_filled1_1 (by omega) hf ?_
            show am_G _ M_X9_would _ 5 [some (.ref 41), some (.int (nI 1)), some (.int (nI u)), some (.int (nI 4)), none] [.ref 75] σ
            refine am_run 4 (pc' := 16) (ls' := [some (.ref 41), some (.int (nI 1)), some (.int (nI u)), some (.int (nI 4)), some (.ref 75)]) (st' := [.int (nI u)]) (σ' := σ) rfl ?_
            refine am_invs (y := 141) (as := [.int (nI u)]) (rest := []) rfl rfl rfl rfl rfl rfl (Nat.le_of_ble_eq_true rfl) ?_
            refine c_sig1 (by omega) (by omega) ?_
            show am_G _ M_X9_would _ 19 [some (.ref 41), some (.int (nI 1)), some (.int (nI u)), some (.int (nI 4)), some (.ref 75)] [.int (nI 1)] σ
            refine am_if (ty := 31) (tn := 22) rfl (by decide) rfl rfl (fun (h_1 : nI 1 = 0) => ?_) (fun (h_1 : ¬ (nI 1 = 0)) => ?_)
            · exact absurd h_1 (by decide)
            refine am_run 1 (pc' := 23) (ls' := [some (.ref 41), some (.int (nI 1)), some (.int (nI u)), some (.int (nI 4)), some (.ref 75)]) (st' := [.int (nI 4)]) (σ' := σ) rfl ?_
            refine am_if (ty := 31) (tn := 26) rfl (by decide) rfl rfl (fun (h_2 : nI 4 < 0) => ?_) (fun (h_2 : ¬ (nI 4 < 0)) => ?_)
            · exact absurd h_2 (by decide)
            refine am_run 2 (pc' := 28) (ls' := [some (.ref 41), some (.int (nI 1)), some (.int (nI u)), some (.int (nI 4)), some (.ref 75)]) (st' := [.int (nI 4), .int (nI 4)]) (σ' := σ) rfl ?_
            refine am_ic (ty := 31) (tn := 34) rfl (by decide) rfl rfl (fun (h_3 : nI 4 < nI 4) => ?_) (fun (h_3 : ¬ (nI 4 < nI 4)) => ?_)
            · exact absurd h_3 (by decide)
            refine am_run 3 (pc' := 40) (ls' := [some (.ref 41), some (.int (nI 1)), some (.int (nI u)), some (.int (nI 4)), some (.ref 75)]) (st' := [.ref 75, .ref 77]) (σ' := σ) rfl ?_
            refine am_invv (y := 66) (b := 75) (as := []) (rest := [.ref 77]) rfl rfl rfl rfl rfl rfl rfl (Nat.le_of_ble_eq_true rfl) ?_
            refine am_enter' rfl rfl rfl (by omega) (ls := [some (.ref 75)]) rfl (fun d_4 hd_4 => ?_)
            refine am_run 2 (pc' := 4) (ls' := [some (.ref 75)]) (st' := [.ref (σ.2 75 1)]) (σ' := σ) rfl ?_
            refine am_reta rfl rfl (Or.inr ⟨_, rfl⟩) ?_
            show am_G _ M_X9_would _ 43 [some (.ref 41), some (.int (nI 1)), some (.int (nI u)), some (.int (nI 4)), some (.ref 75)] [.ref (σ.2 75 1), .ref 77] σ
            refine am_run 1 (pc' := 45) (ls' := [some (.ref 41), some (.int (nI 1)), some (.int (nI u)), some (.int (nI 4)), some (.ref 75)]) (st' := [.ref 75, .ref (σ.2 75 1), .ref 77]) (σ' := σ) rfl ?_
            refine am_invv (y := 67) (b := 75) (as := []) (rest := [.ref (σ.2 75 1), .ref 77]) rfl rfl rfl rfl rfl rfl rfl (Nat.le_of_ble_eq_true rfl) ?_
            refine am_enter' rfl rfl rfl (by omega) (ls := [some (.ref 75)]) rfl (fun d_5 hd_5 => ?_)
            refine am_run 2 (pc' := 4) (ls' := [some (.ref 75)]) (st' := [.int (σ.1 75 3)]) (σ' := σ) rfl ?_
            refine am_top (v' := nI s) a3 ?_
            refine am_reti rfl rfl ?_
            show am_G _ M_X9_would _ 48 [some (.ref 41), some (.int (nI 1)), some (.int (nI u)), some (.int (nI 4)), some (.ref 75)] [.int (nI s), .ref (σ.2 75 1), .ref 77] σ
            refine am_run 1 (pc' := 49) (ls' := [some (.ref 41), some (.int (nI 1)), some (.int (nI u)), some (.int (nI 4)), some (.ref 75)]) (st' := [.int (nI u), .int (nI s), .ref (σ.2 75 1), .ref 77]) (σ' := σ) rfl ?_
            refine am_invv (y := 56) (b := 77) (as := [.ref (σ.2 75 1), .int (nI s), .int (nI u)]) (rest := []) rfl rfl rfl rfl rfl rfl rfl (Nat.le_of_ble_eq_true rfl) ?_
            refine c_determine (by omega) hW hR (show r + 1 ≤ n by omega) hro (Or.inl rfl) hs hu (fun σ2 hK hO => ?_)
            rw [hz] at hO
            obtain ⟨o0, o1, o2, o3, o4⟩ : σ2.1 77 0 = nI (P + 256 * A) ∧ σ2.1 77 1 = nI 0 ∧ σ2.1 77 2 = nI c ∧ σ2.1 77 3 = nI nx ∧ σ2.1 77 4 = nI rd := hO
            have hM2 := hM.keep2 (σ' := σ2) (fun c a => hK.1 c (by omega))
            have b32 : σ2.1 17 1 = nI s := by rw [hK.1 17 (by decide)]; exact b3
            have hn22 : σ2.1 2 1 = nI n := hM2.1.2.2.2.1
            show am_G _ M_X9_would _ 52 [some (.ref 41), some (.int (nI 1)), some (.int (nI u)), some (.int (nI 4)), some (.ref 75)] [] σ2
            refine am_run 2 (pc' := 54) (ls' := [some (.ref 41), some (.int (nI 1)), some (.int (nI u)), some (.int (nI 4)), some (.ref 75)]) (st' := [.int (nI 1), .int (nI 4)]) (σ' := σ2) rfl ?_
            refine am_ic (ty := 57) (tn := 65) rfl (by decide) rfl rfl (fun (h_6 : nI 4 = nI 1) => ?_) (fun (h_6 : ¬ (nI 4 = nI 1)) => ?_)
            · exact absurd h_6 (by decide)
            refine am_run 2 (pc' := 67) (ls' := [some (.ref 41), some (.int (nI 1)), some (.int (nI u)), some (.int (nI 4)), some (.ref 75)]) (st' := [.int (nI 4), .int (nI 4)]) (σ' := σ2) rfl ?_
            refine am_ic (ty := 70) (tn := 78) rfl (by decide) rfl rfl (fun (h_7 : nI 4 = nI 4) => ?_) (fun (h_7 : ¬ (nI 4 = nI 4)) => ?_)
            rotate_left
            · exact absurd (by decide) h_7
            refine am_run 2 (pc' := 74) (ls' := [some (.ref 41), some (.int (nI 1)), some (.int (nI u)), some (.int (nI 4)), some (.ref 75)]) (st' := [.ref 77]) (σ' := σ2) rfl ?_
            refine am_invv (y := 55) (b := 77) (as := []) (rest := []) rfl rfl rfl rfl rfl rfl rfl (Nat.le_of_ble_eq_true rfl) ?_
            refine am_enter' rfl rfl rfl (by omega) (ls := [some (.ref 77)]) rfl (fun d_8 hd_8 => ?_)
            refine am_run 2 (pc' := 4) (ls' := [some (.ref 77)]) (st' := [.int (σ2.1 77 4)]) (σ' := σ2) rfl ?_
            refine am_top (v' := nI rd) o4 ?_
            refine am_reti rfl rfl ?_
            show am_G _ M_X9_would _ 77 [some (.ref 41), some (.int (nI 1)), some (.int (nI u)), some (.int (nI 4)), some (.ref 75)] [.int (nI rd)] σ2
            refine am_reti rfl rfl ?_
            refine ⟨rfl, ?_⟩
            refine am_enter' (M := M_X10_would) rfl rfl rfl (by omega) (ls := [some (.ref 0), some (.int (nI 1)), some (.int (nI u)), some (.int (nI 4)), none]) rfl (fun d2 hd2 => ?_)
            refine am_run 2 (pc' := 2) (ls' := [some (.ref 0), some (.int (nI 1)), some (.int (nI u)), some (.int (nI 4)), none]) (st' := [.int (nI 1), .ref 0]) (σ' := σ2) rfl ?_
            refine am_invv (y := 151) (b := 0) (as := [.int (nI 1)]) (rest := []) rfl rfl rfl rfl rfl rfl rfl (Nat.le_of_ble_eq_true rfl) ?_
            refine c_prog1_1 (by omega) (n := n) (by exact hn22) hn1 hn60 ?_
            show am_G _ M_X10_would _ 5 [some (.ref 0), some (.int (nI 1)), some (.int (nI u)), some (.int (nI 4)), none] [.int (nI 1)] σ2
            refine am_if (ty := 8) (tn := 11) rfl (by decide) rfl rfl (fun (h_101 : nI 1 = 0) => ?_) (fun (h_101 : ¬ (nI 1 = 0)) => ?_)
            · exact absurd h_101 (by decide)
            refine am_run 3 (pc' := 16) (ls' := [some (.ref 0), some (.int (nI 1)), some (.int (nI u)), some (.int (nI 4)), none]) (st' := [.int (nI 255), .int (nI 0), .int (nI u)]) (σ' := σ2) rfl ?_
            refine am_invs (y := 148) (as := [.int (nI u), .int (nI 0), .int (nI 255)]) (rest := []) rfl rfl rfl rfl rfl rfl (Nat.le_of_ble_eq_true rfl) ?_
            refine c_in1 (by omega) (by omega) (by omega) (by omega) ?_
            show am_G _ M_X10_would _ 19 [some (.ref 0), some (.int (nI 1)), some (.int (nI u)), some (.int (nI 4)), none] [.int (nI 1)] σ2
            refine am_if (ty := 31) (tn := 22) rfl (by decide) rfl rfl (fun (h_102 : nI 1 = 0) => ?_) (fun (h_102 : ¬ (nI 1 = 0)) => ?_)
            · exact absurd h_102 (by decide)
            refine am_run 3 (pc' := 25) (ls' := [some (.ref 0), some (.int (nI 1)), some (.int (nI u)), some (.int (nI 4)), none]) (st' := [.int (nI 4), .int (nI 0), .int (nI 4)]) (σ' := σ2) rfl ?_
            refine am_invs (y := 148) (as := [.int (nI 4), .int (nI 0), .int (nI 4)]) (rest := []) rfl rfl rfl rfl rfl rfl (Nat.le_of_ble_eq_true rfl) ?_
            refine c_in1 (by omega) (by omega) (by omega) (by omega) ?_
            show am_G _ M_X10_would _ 28 [some (.ref 0), some (.int (nI 1)), some (.int (nI u)), some (.int (nI 4)), none] [.int (nI 1)] σ2
            refine am_if (ty := 31) (tn := 34) rfl (by decide) rfl rfl (fun (h_103 : nI 1 = 0) => ?_) (fun (h_103 : ¬ (nI 1 = 0)) => ?_)
            · exact absurd h_103 (by decide)
            refine am_run 5 (pc' := 41) (ls' := [some (.ref 0), some (.int (nI 1)), some (.int (nI u)), some (.int (nI 4)), none]) (st' := [.int (nI 1), .ref 17, .int (nI 1), .ref 0]) (σ' := σ2) rfl ?_
            refine am_ialdN (n := 2) (v := nI s) rfl rfl rfl (by decide) b32 (by decide) ?_
            refine am_run 1 (pc' := 43) (ls' := [some (.ref 0), some (.int (nI 1)), some (.int (nI u)), some (.int (nI 4)), none]) (st' := [.int (nI u), .int (nI s), .int (nI 1), .ref 0]) (σ' := σ2) rfl ?_
            refine am_invv (y := 229) (b := 0) (as := [.int (nI 1), .int (nI s), .int (nI u)]) (rest := []) rfl rfl rfl rfl rfl rfl rfl (Nat.le_of_ble_eq_true rfl) ?_
            refine c_settles1 (by omega) hM2 hs hv.2 hu hz (fun σ3 hS i38 i39 i40 i41 i42 i43 i44 i29 => ?_)
            show am_G _ M_X10_would _ 46 [some (.ref 0), some (.int (nI 1)), some (.int (nI u)), some (.int (nI 4)), none] [.int (nI 1)] σ3
            refine am_run 3 (pc' := 50) (ls' := [some (.ref 0), some (.int (nI 1)), some (.int (nI u)), some (.int (nI 4)), some (.int (nI 1))]) (st' := [.int (nI 1), .int (nI 4)]) (σ' := σ3) rfl ?_
            refine am_ic (ty := 53) (tn := 58) rfl (by decide) rfl rfl (fun (h_104 : nI 4 = nI 1) => ?_) (fun (h_104 : ¬ (nI 4 = nI 1)) => ?_)
            · exact absurd h_104 (by decide)
            refine am_run 2 (pc' := 60) (ls' := [some (.ref 0), some (.int (nI 1)), some (.int (nI u)), some (.int (nI 4)), some (.int (nI 1))]) (st' := [.int (nI 4), .int (nI 4)]) (σ' := σ3) rfl ?_
            refine am_ic (ty := 63) (tn := 68) rfl (by decide) rfl rfl (fun (h_105 : nI 4 = nI 4) => ?_) (fun (h_105 : ¬ (nI 4 = nI 4)) => ?_)
            rotate_left
            · exact absurd (by decide) h_105
            refine am_run 2 (pc' := 67) (ls' := [some (.ref 0), some (.int (nI 1)), some (.int (nI u)), some (.int (nI 4)), some (.int (nI 1))]) (st' := [.int (σ3.1 0 40)]) (σ' := σ3) rfl ?_
            refine am_top (v' := nI rd) i40 ?_
            refine am_reti rfl rfl ?_
            exact ⟨rfl, ((hK.KI (Or.inl rfl)).tr hS.KI).inv hI⟩
          · skip
            refine ⟨nI rd, ?_⟩
            refine am_enter' (M := M_X9_would) rfl rfl rfl (by omega) (ls := [some (.ref 41), some (.int (nI 1)), some (.int (nI u)), some (.int (nI 4)), none]) rfl (fun d' hd' => ?_)
            refine am_run 2 (pc' := 2) (ls' := [some (.ref 41), some (.int (nI 1)), some (.int (nI u)), some (.int (nI 4)), none]) (st' := [.int (nI 1), .ref 41]) (σ' := σ) rfl ?_
            refine am_invv (y := 140) (b := 41) (as := [.int (nI 1)]) (rest := []) rfl rfl rfl rfl rfl rfl rfl (Nat.le_of_ble_eq_true rfl) ?_
            refine c_filled1_1 (by omega) hf ?_
            show am_G _ M_X9_would _ 5 [some (.ref 41), some (.int (nI 1)), some (.int (nI u)), some (.int (nI 4)), none] [.ref 75] σ
            refine am_run 4 (pc' := 16) (ls' := [some (.ref 41), some (.int (nI 1)), some (.int (nI u)), some (.int (nI 4)), some (.ref 75)]) (st' := [.int (nI u)]) (σ' := σ) rfl ?_
            refine am_invs (y := 141) (as := [.int (nI u)]) (rest := []) rfl rfl rfl rfl rfl rfl (Nat.le_of_ble_eq_true rfl) ?_
            refine c_sig1 (by omega) (by omega) ?_
            show am_G _ M_X9_would _ 19 [some (.ref 41), some (.int (nI 1)), some (.int (nI u)), some (.int (nI 4)), some (.ref 75)] [.int (nI 1)] σ
            refine am_if (ty := 31) (tn := 22) rfl (by decide) rfl rfl (fun (h_1 : nI 1 = 0) => ?_) (fun (h_1 : ¬ (nI 1 = 0)) => ?_)
            · exact absurd h_1 (by decide)
            refine am_run 1 (pc' := 23) (ls' := [some (.ref 41), some (.int (nI 1)), some (.int (nI u)), some (.int (nI 4)), some (.ref 75)]) (st' := [.int (nI 4)]) (σ' := σ) rfl ?_
            refine am_if (ty := 31) (tn := 26) rfl (by decide) rfl rfl (fun (h_2 : nI 4 < 0) => ?_) (fun (h_2 : ¬ (nI 4 < 0)) => ?_)
            · exact absurd h_2 (by decide)
            refine am_run 2 (pc' := 28) (ls' := [some (.ref 41), some (.int (nI 1)), some (.int (nI u)), some (.int (nI 4)), some (.ref 75)]) (st' := [.int (nI 4), .int (nI 4)]) (σ' := σ) rfl ?_
            refine am_ic (ty := 31) (tn := 34) rfl (by decide) rfl rfl (fun (h_3 : nI 4 < nI 4) => ?_) (fun (h_3 : ¬ (nI 4 < nI 4)) => ?_)
            · exact absurd h_3 (by decide)
            refine am_run 3 (pc' := 40) (ls' := [some (.ref 41), some (.int (nI 1)), some (.int (nI u)), some (.int (nI 4)), some (.ref 75)]) (st' := [.ref 75, .ref 77]) (σ' := σ) rfl ?_
            refine am_invv (y := 66) (b := 75) (as := []) (rest := [.ref 77]) rfl rfl rfl rfl rfl rfl rfl (Nat.le_of_ble_eq_true rfl) ?_
            refine am_enter' rfl rfl rfl (by omega) (ls := [some (.ref 75)]) rfl (fun d_4 hd_4 => ?_)
            refine am_run 2 (pc' := 4) (ls' := [some (.ref 75)]) (st' := [.ref (σ.2 75 1)]) (σ' := σ) rfl ?_
            refine am_reta rfl rfl (Or.inr ⟨_, rfl⟩) ?_
            show am_G _ M_X9_would _ 43 [some (.ref 41), some (.int (nI 1)), some (.int (nI u)), some (.int (nI 4)), some (.ref 75)] [.ref (σ.2 75 1), .ref 77] σ
            refine am_run 1 (pc' := 45) (ls' := [some (.ref 41), some (.int (nI 1)), some (.int (nI u)), some (.int (nI 4)), some (.ref 75)]) (st' := [.ref 75, .ref (σ.2 75 1), .ref 77]) (σ' := σ) rfl ?_
            refine am_invv (y := 67) (b := 75) (as := []) (rest := [.ref (σ.2 75 1), .ref 77]) rfl rfl rfl rfl rfl rfl rfl (Nat.le_of_ble_eq_true rfl) ?_
            refine am_enter' rfl rfl rfl (by omega) (ls := [some (.ref 75)]) rfl (fun d_5 hd_5 => ?_)
            refine am_run 2 (pc' := 4) (ls' := [some (.ref 75)]) (st' := [.int (σ.1 75 3)]) (σ' := σ) rfl ?_
            refine am_top (v' := nI s) a3 ?_
            refine am_reti rfl rfl ?_
            show am_G _ M_X9_would _ 48 [some (.ref 41), some (.int (nI 1)), some (.int (nI u)), some (.int (nI 4)), some (.ref 75)] [.int (nI s), .ref (σ.2 75 1), .ref 77] σ
            refine am_run 1 (pc' := 49) (ls' := [some (.ref 41), some (.int (nI 1)), some (.int (nI u)), some (.int (nI 4)), some (.ref 75)]) (st' := [.int (nI u), .int (nI s), .ref (σ.2 75 1), .ref 77]) (σ' := σ) rfl ?_
            refine am_invv (y := 56) (b := 77) (as := [.ref (σ.2 75 1), .int (nI s), .int (nI u)]) (rest := []) rfl rfl rfl rfl rfl rfl rfl (Nat.le_of_ble_eq_true rfl) ?_
            refine c_determine (by omega) hW hR (show r + 1 ≤ n by omega) hro (Or.inl rfl) hs hu (fun σ2 hK hO => ?_)
            rw [hz] at hO
            obtain ⟨o0, o1, o2, o3, o4⟩ : σ2.1 77 0 = nI (P + 256 * A) ∧ σ2.1 77 1 = nI w ∧ σ2.1 77 2 = nI c ∧ σ2.1 77 3 = nI nx ∧ σ2.1 77 4 = nI rd := hO
            have hM2 := hM.keep2 (σ' := σ2) (fun c a => hK.1 c (by omega))
            have b32 : σ2.1 17 1 = nI s := by rw [hK.1 17 (by decide)]; exact b3
            have hn22 : σ2.1 2 1 = nI n := hM2.1.2.2.2.1
            show am_G _ M_X9_would _ 52 [some (.ref 41), some (.int (nI 1)), some (.int (nI u)), some (.int (nI 4)), some (.ref 75)] [] σ2
            refine am_run 2 (pc' := 54) (ls' := [some (.ref 41), some (.int (nI 1)), some (.int (nI u)), some (.int (nI 4)), some (.ref 75)]) (st' := [.int (nI 1), .int (nI 4)]) (σ' := σ2) rfl ?_
            refine am_ic (ty := 57) (tn := 65) rfl (by decide) rfl rfl (fun (h_6 : nI 4 = nI 1) => ?_) (fun (h_6 : ¬ (nI 4 = nI 1)) => ?_)
            · exact absurd h_6 (by decide)
            refine am_run 2 (pc' := 67) (ls' := [some (.ref 41), some (.int (nI 1)), some (.int (nI u)), some (.int (nI 4)), some (.ref 75)]) (st' := [.int (nI 4), .int (nI 4)]) (σ' := σ2) rfl ?_
            refine am_ic (ty := 70) (tn := 78) rfl (by decide) rfl rfl (fun (h_7 : nI 4 = nI 4) => ?_) (fun (h_7 : ¬ (nI 4 = nI 4)) => ?_)
            rotate_left
            · exact absurd (by decide) h_7
            refine am_run 2 (pc' := 74) (ls' := [some (.ref 41), some (.int (nI 1)), some (.int (nI u)), some (.int (nI 4)), some (.ref 75)]) (st' := [.ref 77]) (σ' := σ2) rfl ?_
            refine am_invv (y := 55) (b := 77) (as := []) (rest := []) rfl rfl rfl rfl rfl rfl rfl (Nat.le_of_ble_eq_true rfl) ?_
            refine am_enter' rfl rfl rfl (by omega) (ls := [some (.ref 77)]) rfl (fun d_8 hd_8 => ?_)
            refine am_run 2 (pc' := 4) (ls' := [some (.ref 77)]) (st' := [.int (σ2.1 77 4)]) (σ' := σ2) rfl ?_
            refine am_top (v' := nI rd) o4 ?_
            refine am_reti rfl rfl ?_
            show am_G _ M_X9_would _ 77 [some (.ref 41), some (.int (nI 1)), some (.int (nI u)), some (.int (nI 4)), some (.ref 75)] [.int (nI rd)] σ2
            refine am_reti rfl rfl ?_
            refine ⟨rfl, ?_⟩
            refine am_enter' (M := M_X10_would) rfl rfl rfl (by omega) (ls := [some (.ref 0), some (.int (nI 1)), some (.int (nI u)), some (.int (nI 4)), none]) rfl (fun d2 hd2 => ?_)
            refine am_run 2 (pc' := 2) (ls' := [some (.ref 0), some (.int (nI 1)), some (.int (nI u)), some (.int (nI 4)), none]) (st' := [.int (nI 1), .ref 0]) (σ' := σ2) rfl ?_
            refine am_invv (y := 151) (b := 0) (as := [.int (nI 1)]) (rest := []) rfl rfl rfl rfl rfl rfl rfl (Nat.le_of_ble_eq_true rfl) ?_
            refine c_prog1_1 (by omega) (n := n) (by exact hn22) hn1 hn60 ?_
            show am_G _ M_X10_would _ 5 [some (.ref 0), some (.int (nI 1)), some (.int (nI u)), some (.int (nI 4)), none] [.int (nI 1)] σ2
            refine am_if (ty := 8) (tn := 11) rfl (by decide) rfl rfl (fun (h_101 : nI 1 = 0) => ?_) (fun (h_101 : ¬ (nI 1 = 0)) => ?_)
            · exact absurd h_101 (by decide)
            refine am_run 3 (pc' := 16) (ls' := [some (.ref 0), some (.int (nI 1)), some (.int (nI u)), some (.int (nI 4)), none]) (st' := [.int (nI 255), .int (nI 0), .int (nI u)]) (σ' := σ2) rfl ?_
            refine am_invs (y := 148) (as := [.int (nI u), .int (nI 0), .int (nI 255)]) (rest := []) rfl rfl rfl rfl rfl rfl (Nat.le_of_ble_eq_true rfl) ?_
            refine c_in1 (by omega) (by omega) (by omega) (by omega) ?_
            show am_G _ M_X10_would _ 19 [some (.ref 0), some (.int (nI 1)), some (.int (nI u)), some (.int (nI 4)), none] [.int (nI 1)] σ2
            refine am_if (ty := 31) (tn := 22) rfl (by decide) rfl rfl (fun (h_102 : nI 1 = 0) => ?_) (fun (h_102 : ¬ (nI 1 = 0)) => ?_)
            · exact absurd h_102 (by decide)
            refine am_run 3 (pc' := 25) (ls' := [some (.ref 0), some (.int (nI 1)), some (.int (nI u)), some (.int (nI 4)), none]) (st' := [.int (nI 4), .int (nI 0), .int (nI 4)]) (σ' := σ2) rfl ?_
            refine am_invs (y := 148) (as := [.int (nI 4), .int (nI 0), .int (nI 4)]) (rest := []) rfl rfl rfl rfl rfl rfl (Nat.le_of_ble_eq_true rfl) ?_
            refine c_in1 (by omega) (by omega) (by omega) (by omega) ?_
            show am_G _ M_X10_would _ 28 [some (.ref 0), some (.int (nI 1)), some (.int (nI u)), some (.int (nI 4)), none] [.int (nI 1)] σ2
            refine am_if (ty := 31) (tn := 34) rfl (by decide) rfl rfl (fun (h_103 : nI 1 = 0) => ?_) (fun (h_103 : ¬ (nI 1 = 0)) => ?_)
            · exact absurd h_103 (by decide)
            refine am_run 5 (pc' := 41) (ls' := [some (.ref 0), some (.int (nI 1)), some (.int (nI u)), some (.int (nI 4)), none]) (st' := [.int (nI 1), .ref 17, .int (nI 1), .ref 0]) (σ' := σ2) rfl ?_
            refine am_ialdN (n := 2) (v := nI s) rfl rfl rfl (by decide) b32 (by decide) ?_
            refine am_run 1 (pc' := 43) (ls' := [some (.ref 0), some (.int (nI 1)), some (.int (nI u)), some (.int (nI 4)), none]) (st' := [.int (nI u), .int (nI s), .int (nI 1), .ref 0]) (σ' := σ2) rfl ?_
            refine am_invv (y := 229) (b := 0) (as := [.int (nI 1), .int (nI s), .int (nI u)]) (rest := []) rfl rfl rfl rfl rfl rfl rfl (Nat.le_of_ble_eq_true rfl) ?_
            refine c_settles0 (by omega) hM2 hs hv.2 hu hz hw0 (fun σ3 hS i38 i39 i40 i41 i29 => ?_)
            show am_G _ M_X10_would _ 46 [some (.ref 0), some (.int (nI 1)), some (.int (nI u)), some (.int (nI 4)), none] [.int (nI 0)] σ3
            refine am_run 3 (pc' := 50) (ls' := [some (.ref 0), some (.int (nI 1)), some (.int (nI u)), some (.int (nI 4)), some (.int (nI 0))]) (st' := [.int (nI 1), .int (nI 4)]) (σ' := σ3) rfl ?_
            refine am_ic (ty := 53) (tn := 58) rfl (by decide) rfl rfl (fun (h_104 : nI 4 = nI 1) => ?_) (fun (h_104 : ¬ (nI 4 = nI 1)) => ?_)
            · exact absurd h_104 (by decide)
            refine am_run 2 (pc' := 60) (ls' := [some (.ref 0), some (.int (nI 1)), some (.int (nI u)), some (.int (nI 4)), some (.int (nI 0))]) (st' := [.int (nI 4), .int (nI 4)]) (σ' := σ3) rfl ?_
            refine am_ic (ty := 63) (tn := 68) rfl (by decide) rfl rfl (fun (h_105 : nI 4 = nI 4) => ?_) (fun (h_105 : ¬ (nI 4 = nI 4)) => ?_)
            rotate_left
            · exact absurd (by decide) h_105
            refine am_run 2 (pc' := 67) (ls' := [some (.ref 0), some (.int (nI 1)), some (.int (nI u)), some (.int (nI 4)), some (.int (nI 0))]) (st' := [.int (σ3.1 0 40)]) (σ' := σ3) rfl ?_
            refine am_top (v' := nI rd) i40 ?_
            refine am_reti rfl rfl ?_
            exact ⟨rfl, ((hK.KI (Or.inl rfl)).tr hS.KI).inv hI⟩
      · rcases id hz with hzn | ⟨hz0, hzb⟩
        · skip
          refine ⟨-1000002, ?_⟩
          refine am_enter' (M := M_X9_would) rfl rfl rfl (by omega) (ls := [some (.ref 41), some (.int (nI 1)), some (.int (nI u)), some (.int z), none]) rfl (fun d' hd' => ?_)
          refine am_run 2 (pc' := 2) (ls' := [some (.ref 41), some (.int (nI 1)), some (.int (nI u)), some (.int z), none]) (st' := [.int (nI 1), .ref 41]) (σ' := σ) rfl ?_
          refine am_invv (y := 140) (b := 41) (as := [.int (nI 1)]) (rest := []) rfl rfl rfl rfl rfl rfl rfl (Nat.le_of_ble_eq_true rfl) ?_
          refine c_filled1_1 (by omega) hf ?_
          show am_G _ M_X9_would _ 5 [some (.ref 41), some (.int (nI 1)), some (.int (nI u)), some (.int z), none] [.ref 75] σ
          refine am_run 4 (pc' := 16) (ls' := [some (.ref 41), some (.int (nI 1)), some (.int (nI u)), some (.int z), some (.ref 75)]) (st' := [.int (nI u)]) (σ' := σ) rfl ?_
          refine am_invs (y := 141) (as := [.int (nI u)]) (rest := []) rfl rfl rfl rfl rfl rfl (Nat.le_of_ble_eq_true rfl) ?_
          refine c_sig1 (by omega) (by omega) ?_
          show am_G _ M_X9_would _ 19 [some (.ref 41), some (.int (nI 1)), some (.int (nI u)), some (.int z), some (.ref 75)] [.int (nI 1)] σ
          refine am_if (ty := 31) (tn := 22) rfl (by decide) rfl rfl (fun (h_1 : nI 1 = 0) => ?_) (fun (h_1 : ¬ (nI 1 = 0)) => ?_)
          · exact absurd h_1 (by decide)
          refine am_run 1 (pc' := 23) (ls' := [some (.ref 41), some (.int (nI 1)), some (.int (nI u)), some (.int z), some (.ref 75)]) (st' := [.int z]) (σ' := σ) rfl ?_
          refine am_if (ty := 31) (tn := 26) rfl (by decide) rfl rfl (fun (h_2 : z < 0) => ?_) (fun (h_2 : ¬ (z < 0)) => ?_)
          rotate_left
          · exact absurd hzn h_2
          refine am_run 1 (pc' := 33) (ls' := [some (.ref 41), some (.int (nI 1)), some (.int (nI u)), some (.int z), some (.ref 75)]) (st' := [.int (-1000002)]) (σ' := σ) rfl ?_
          refine am_reti rfl rfl ?_
          refine ⟨rfl, ?_⟩
          refine am_enter' (M := M_X10_would) rfl rfl rfl (by omega) (ls := [some (.ref 0), some (.int (nI 1)), some (.int (nI u)), some (.int z), none]) rfl (fun d2 hd2 => ?_)
          refine am_run 2 (pc' := 2) (ls' := [some (.ref 0), some (.int (nI 1)), some (.int (nI u)), some (.int z), none]) (st' := [.int (nI 1), .ref 0]) (σ' := σ) rfl ?_
          refine am_invv (y := 151) (b := 0) (as := [.int (nI 1)]) (rest := []) rfl rfl rfl rfl rfl rfl rfl (Nat.le_of_ble_eq_true rfl) ?_
          refine c_prog1_1 (by omega) (n := n) (by exact hn2) hn1 hn60 ?_
          show am_G _ M_X10_would _ 5 [some (.ref 0), some (.int (nI 1)), some (.int (nI u)), some (.int z), none] [.int (nI 1)] σ
          refine am_if (ty := 8) (tn := 11) rfl (by decide) rfl rfl (fun (h_101 : nI 1 = 0) => ?_) (fun (h_101 : ¬ (nI 1 = 0)) => ?_)
          · exact absurd h_101 (by decide)
          refine am_run 3 (pc' := 16) (ls' := [some (.ref 0), some (.int (nI 1)), some (.int (nI u)), some (.int z), none]) (st' := [.int (nI 255), .int (nI 0), .int (nI u)]) (σ' := σ) rfl ?_
          refine am_invs (y := 148) (as := [.int (nI u), .int (nI 0), .int (nI 255)]) (rest := []) rfl rfl rfl rfl rfl rfl (Nat.le_of_ble_eq_true rfl) ?_
          refine c_in1 (by omega) (by omega) (by omega) (by omega) ?_
          show am_G _ M_X10_would _ 19 [some (.ref 0), some (.int (nI 1)), some (.int (nI u)), some (.int z), none] [.int (nI 1)] σ
          refine am_if (ty := 31) (tn := 22) rfl (by decide) rfl rfl (fun (h_102 : nI 1 = 0) => ?_) (fun (h_102 : ¬ (nI 1 = 0)) => ?_)
          · exact absurd h_102 (by decide)
          refine am_run 3 (pc' := 25) (ls' := [some (.ref 0), some (.int (nI 1)), some (.int (nI u)), some (.int z), none]) (st' := [.int (nI 4), .int (nI 0), .int z]) (σ' := σ) rfl ?_
          refine am_invs (y := 148) (as := [.int z, .int (nI 0), .int (nI 4)]) (rest := []) rfl rfl rfl rfl rfl rfl (Nat.le_of_ble_eq_true rfl) ?_
          refine c_in0 (by omega) hz ?_
          show am_G _ M_X10_would _ 28 [some (.ref 0), some (.int (nI 1)), some (.int (nI u)), some (.int z), none] [.int (nI 0)] σ
          refine am_if (ty := 31) (tn := 34) rfl (by decide) rfl rfl (fun (h_103 : nI 0 = 0) => ?_) (fun (h_103 : ¬ (nI 0 = 0)) => ?_)
          rotate_left
          · exact absurd (by decide) h_103
          refine am_run 1 (pc' := 33) (ls' := [some (.ref 0), some (.int (nI 1)), some (.int (nI u)), some (.int z), none]) (st' := [.int (-1000002)]) (σ' := σ) rfl ?_
          refine am_reti rfl rfl ?_
          exact ⟨rfl, hI⟩
        · skip
          refine ⟨-1000002, ?_⟩
          refine am_enter' (M := M_X9_would) rfl rfl rfl (by omega) (ls := [some (.ref 41), some (.int (nI 1)), some (.int (nI u)), some (.int z), none]) rfl (fun d' hd' => ?_)
          refine am_run 2 (pc' := 2) (ls' := [some (.ref 41), some (.int (nI 1)), some (.int (nI u)), some (.int z), none]) (st' := [.int (nI 1), .ref 41]) (σ' := σ) rfl ?_
          refine am_invv (y := 140) (b := 41) (as := [.int (nI 1)]) (rest := []) rfl rfl rfl rfl rfl rfl rfl (Nat.le_of_ble_eq_true rfl) ?_
          refine c_filled1_1 (by omega) hf ?_
          show am_G _ M_X9_would _ 5 [some (.ref 41), some (.int (nI 1)), some (.int (nI u)), some (.int z), none] [.ref 75] σ
          refine am_run 4 (pc' := 16) (ls' := [some (.ref 41), some (.int (nI 1)), some (.int (nI u)), some (.int z), some (.ref 75)]) (st' := [.int (nI u)]) (σ' := σ) rfl ?_
          refine am_invs (y := 141) (as := [.int (nI u)]) (rest := []) rfl rfl rfl rfl rfl rfl (Nat.le_of_ble_eq_true rfl) ?_
          refine c_sig1 (by omega) (by omega) ?_
          show am_G _ M_X9_would _ 19 [some (.ref 41), some (.int (nI 1)), some (.int (nI u)), some (.int z), some (.ref 75)] [.int (nI 1)] σ
          refine am_if (ty := 31) (tn := 22) rfl (by decide) rfl rfl (fun (h_1 : nI 1 = 0) => ?_) (fun (h_1 : ¬ (nI 1 = 0)) => ?_)
          · exact absurd h_1 (by decide)
          refine am_run 1 (pc' := 23) (ls' := [some (.ref 41), some (.int (nI 1)), some (.int (nI u)), some (.int z), some (.ref 75)]) (st' := [.int z]) (σ' := σ) rfl ?_
          refine am_if (ty := 31) (tn := 26) rfl (by decide) rfl rfl (fun (h_2 : z < 0) => ?_) (fun (h_2 : ¬ (z < 0)) => ?_)
          · exact absurd h_2 hz0
          refine am_run 2 (pc' := 28) (ls' := [some (.ref 41), some (.int (nI 1)), some (.int (nI u)), some (.int z), some (.ref 75)]) (st' := [.int (nI 4), .int z]) (σ' := σ) rfl ?_
          refine am_ic (ty := 31) (tn := 34) rfl (by decide) rfl rfl (fun (h_3 : nI 4 < z) => ?_) (fun (h_3 : ¬ (nI 4 < z)) => ?_)
          rotate_left
          · exact absurd hzb h_3
          refine am_run 1 (pc' := 33) (ls' := [some (.ref 41), some (.int (nI 1)), some (.int (nI u)), some (.int z), some (.ref 75)]) (st' := [.int (-1000002)]) (σ' := σ) rfl ?_
          refine am_reti rfl rfl ?_
          refine ⟨rfl, ?_⟩
          refine am_enter' (M := M_X10_would) rfl rfl rfl (by omega) (ls := [some (.ref 0), some (.int (nI 1)), some (.int (nI u)), some (.int z), none]) rfl (fun d2 hd2 => ?_)
          refine am_run 2 (pc' := 2) (ls' := [some (.ref 0), some (.int (nI 1)), some (.int (nI u)), some (.int z), none]) (st' := [.int (nI 1), .ref 0]) (σ' := σ) rfl ?_
          refine am_invv (y := 151) (b := 0) (as := [.int (nI 1)]) (rest := []) rfl rfl rfl rfl rfl rfl rfl (Nat.le_of_ble_eq_true rfl) ?_
          refine c_prog1_1 (by omega) (n := n) (by exact hn2) hn1 hn60 ?_
          show am_G _ M_X10_would _ 5 [some (.ref 0), some (.int (nI 1)), some (.int (nI u)), some (.int z), none] [.int (nI 1)] σ
          refine am_if (ty := 8) (tn := 11) rfl (by decide) rfl rfl (fun (h_101 : nI 1 = 0) => ?_) (fun (h_101 : ¬ (nI 1 = 0)) => ?_)
          · exact absurd h_101 (by decide)
          refine am_run 3 (pc' := 16) (ls' := [some (.ref 0), some (.int (nI 1)), some (.int (nI u)), some (.int z), none]) (st' := [.int (nI 255), .int (nI 0), .int (nI u)]) (σ' := σ) rfl ?_
          refine am_invs (y := 148) (as := [.int (nI u), .int (nI 0), .int (nI 255)]) (rest := []) rfl rfl rfl rfl rfl rfl (Nat.le_of_ble_eq_true rfl) ?_
          refine c_in1 (by omega) (by omega) (by omega) (by omega) ?_
          show am_G _ M_X10_would _ 19 [some (.ref 0), some (.int (nI 1)), some (.int (nI u)), some (.int z), none] [.int (nI 1)] σ
          refine am_if (ty := 31) (tn := 22) rfl (by decide) rfl rfl (fun (h_102 : nI 1 = 0) => ?_) (fun (h_102 : ¬ (nI 1 = 0)) => ?_)
          · exact absurd h_102 (by decide)
          refine am_run 3 (pc' := 25) (ls' := [some (.ref 0), some (.int (nI 1)), some (.int (nI u)), some (.int z), none]) (st' := [.int (nI 4), .int (nI 0), .int z]) (σ' := σ) rfl ?_
          refine am_invs (y := 148) (as := [.int z, .int (nI 0), .int (nI 4)]) (rest := []) rfl rfl rfl rfl rfl rfl (Nat.le_of_ble_eq_true rfl) ?_
          refine c_in0 (by omega) hz ?_
          show am_G _ M_X10_would _ 28 [some (.ref 0), some (.int (nI 1)), some (.int (nI u)), some (.int z), none] [.int (nI 0)] σ
          refine am_if (ty := 31) (tn := 34) rfl (by decide) rfl rfl (fun (h_103 : nI 0 = 0) => ?_) (fun (h_103 : ¬ (nI 0 = 0)) => ?_)
          rotate_left
          · exact absurd (by decide) h_103
          refine am_run 1 (pc' := 33) (ls' := [some (.ref 0), some (.int (nI 1)), some (.int (nI u)), some (.int z), none]) (st' := [.int (-1000002)]) (σ' := σ) rfl ?_
          refine am_reti rfl rfl ?_
          exact ⟨rfl, hI⟩
    · skip
      refine ⟨-1000002, ?_⟩
      refine am_enter' (M := M_X9_would) rfl rfl rfl (by omega) (ls := [some (.ref 41), some (.int (nI 1)), some (.int y), some (.int z), none]) rfl (fun d' hd' => ?_)
      refine am_run 2 (pc' := 2) (ls' := [some (.ref 41), some (.int (nI 1)), some (.int y), some (.int z), none]) (st' := [.int (nI 1), .ref 41]) (σ' := σ) rfl ?_
      refine am_invv (y := 140) (b := 41) (as := [.int (nI 1)]) (rest := []) rfl rfl rfl rfl rfl rfl rfl (Nat.le_of_ble_eq_true rfl) ?_
      refine c_filled1_1 (by omega) hf ?_
      show am_G _ M_X9_would _ 5 [some (.ref 41), some (.int (nI 1)), some (.int y), some (.int z), none] [.ref 75] σ
      refine am_run 4 (pc' := 16) (ls' := [some (.ref 41), some (.int (nI 1)), some (.int y), some (.int z), some (.ref 75)]) (st' := [.int y]) (σ' := σ) rfl ?_
      refine am_invs (y := 141) (as := [.int y]) (rest := []) rfl rfl rfl rfl rfl rfl (Nat.le_of_ble_eq_true rfl) ?_
      refine c_sig0 (by omega) hy ?_
      show am_G _ M_X9_would _ 19 [some (.ref 41), some (.int (nI 1)), some (.int y), some (.int z), some (.ref 75)] [.int (nI 0)] σ
      refine am_if (ty := 31) (tn := 22) rfl (by decide) rfl rfl (fun (h_1 : nI 0 = 0) => ?_) (fun (h_1 : ¬ (nI 0 = 0)) => ?_)
      rotate_left
      · exact absurd (by decide) h_1
      refine am_run 1 (pc' := 33) (ls' := [some (.ref 41), some (.int (nI 1)), some (.int y), some (.int z), some (.ref 75)]) (st' := [.int (-1000002)]) (σ' := σ) rfl ?_
      refine am_reti rfl rfl ?_
      refine ⟨rfl, ?_⟩
      refine am_enter' (M := M_X10_would) rfl rfl rfl (by omega) (ls := [some (.ref 0), some (.int (nI 1)), some (.int y), some (.int z), none]) rfl (fun d2 hd2 => ?_)
      refine am_run 2 (pc' := 2) (ls' := [some (.ref 0), some (.int (nI 1)), some (.int y), some (.int z), none]) (st' := [.int (nI 1), .ref 0]) (σ' := σ) rfl ?_
      refine am_invv (y := 151) (b := 0) (as := [.int (nI 1)]) (rest := []) rfl rfl rfl rfl rfl rfl rfl (Nat.le_of_ble_eq_true rfl) ?_
      refine c_prog1_1 (by omega) (n := n) (by exact hn2) hn1 hn60 ?_
      show am_G _ M_X10_would _ 5 [some (.ref 0), some (.int (nI 1)), some (.int y), some (.int z), none] [.int (nI 1)] σ
      refine am_if (ty := 8) (tn := 11) rfl (by decide) rfl rfl (fun (h_101 : nI 1 = 0) => ?_) (fun (h_101 : ¬ (nI 1 = 0)) => ?_)
      · exact absurd h_101 (by decide)
      refine am_run 3 (pc' := 16) (ls' := [some (.ref 0), some (.int (nI 1)), some (.int y), some (.int z), none]) (st' := [.int (nI 255), .int (nI 0), .int y]) (σ' := σ) rfl ?_
      refine am_invs (y := 148) (as := [.int y, .int (nI 0), .int (nI 255)]) (rest := []) rfl rfl rfl rfl rfl rfl (Nat.le_of_ble_eq_true rfl) ?_
      refine c_in0 (by omega) hy ?_
      show am_G _ M_X10_would _ 19 [some (.ref 0), some (.int (nI 1)), some (.int y), some (.int z), none] [.int (nI 0)] σ
      refine am_if (ty := 31) (tn := 22) rfl (by decide) rfl rfl (fun (h_102 : nI 0 = 0) => ?_) (fun (h_102 : ¬ (nI 0 = 0)) => ?_)
      rotate_left
      · exact absurd (by decide) h_102
      refine am_run 1 (pc' := 33) (ls' := [some (.ref 0), some (.int (nI 1)), some (.int y), some (.int z), none]) (st' := [.int (-1000002)]) (σ' := σ) rfl ?_
      refine am_reti rfl rfl ?_
      exact ⟨rfl, hI⟩

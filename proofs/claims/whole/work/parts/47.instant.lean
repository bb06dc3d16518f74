theorem KJ.cB {σ σ' : am_M} {j q : Nat} (hq : q = 73 ∨ q = 75) (h : KJ σ σ' j q) (a b n : Nat) : KJ σ (am_cp σ' (q + 1) (q + 1) a b n) j q := by
  have e : ∀ c, c ≠ q + 1 → (am_cp σ' (q + 1) (q + 1) a b n).1 c = σ'.1 c := fun c hc => if_neg hc
  exact h.tr ⟨fun c a => e c (by omega), by rw [e q (by omega)], fun k a => by rw [e 0 (by omega)], fun k a => ⟨by rw [e 17 (by omega)], by rw [e 19 (by omega)]⟩, fun k a => by rw [e 18 (by omega)], fun c a => rfl, fun g => g⟩
theorem KJ.b18 {σ σ' σ'' : am_M} {j q : Nat} (hq : q = 73 ∨ q = 75) (h : KJ σ σ' j q) (h1 : ∀ c, c ≠ 18 → σ''.1 c = σ'.1 c) (h2 : σ''.2 = σ'.2) (h3 : ∀ x, x < 20 * j ∨ 20 * j + 19 ≤ x → σ''.1 18 x = σ'.1 18 x) : KJ σ σ'' j q :=
  h.tr ⟨fun c a => h1 c (by omega), by rw [h1 q (by omega)], fun k a => by rw [h1 0 (by omega)], fun k a => ⟨by rw [h1 17 (by omega)], by rw [h1 19 (by omega)]⟩, fun k a => h3 k (by omega), fun c a => by rw [h2], KI.gs h2⟩
theorem am_cpr {σ : am_M} {c0 c1 a b n : Nat} (k : Nat) (h : b ≤ k ∧ k < b + n) : (am_cp σ c0 c1 a b n).1 c1 k = σ.1 c0 (a + (k - b)) := by
  show (if c1 = c1 then va_cpy (σ.1 c0) (σ.1 c1) a b n else σ.1 c1) k = _
  rw [if_pos rfl]
  exact if_pos h
set_option maxRecDepth 10000 in
set_option maxHeartbeats 2000000 in
theorem pr_instant {d : Nat} (hd : 600 ≤ d) {σ : am_M} (hI : Inv σ) (x y : Int32) : PR d 126 230 [.int x, .int y] σ := by
  rcases pl_cases hI x with hN | ⟨rfl, hF⟩ | ⟨rfl, hF⟩
  · refine ⟨-1000001, ?_⟩
    refine am_enter' (M := M_X9_instant) rfl rfl rfl (by omega) (ls := [some (.ref 41), some (.int x), some (.int y), none]) rfl (fun d' hd' => ?_)
    refine am_run 2 (pc' := 2) (ls' := [some (.ref 41), some (.int x), some (.int y), none]) (st' := [.int x, .ref 41]) (σ' := σ) rfl ?_
    refine am_invv (y := 140) (b := 41) (as := [.int x]) (rest := []) rfl rfl rfl rfl rfl rfl rfl (Nat.le_of_ble_eq_true rfl) ?_
    refine c_nf (by omega) hN ?_
    show am_G _ M_X9_instant _ 5 [some (.ref 41), some (.int x), some (.int y), none] [.null] σ
    refine am_run 4 (pc' := 12) (ls' := [some (.ref 41), some (.int x), some (.int y), some (.null)]) (st' := [.int (-1000001)]) (σ' := σ) rfl ?_
    refine am_reti rfl rfl ?_
    refine ⟨rfl, ?_⟩
    refine am_enter' (M := M_X10_instant) rfl rfl rfl (by omega) (ls := [some (.ref 0), some (.int x), some (.int y)]) rfl (fun d2 hd2 => ?_)
    refine am_run 2 (pc' := 2) (ls' := [some (.ref 0), some (.int x), some (.int y)]) (st' := [.int x, .ref 0]) (σ' := σ) rfl ?_
    refine am_invv (y := 151) (b := 0) (as := [.int x]) (rest := []) rfl rfl rfl rfl rfl rfl rfl (Nat.le_of_ble_eq_true rfl) ?_
    refine c_np (by omega) hN ?_
    show am_G _ M_X10_instant _ 5 [some (.ref 0), some (.int x), some (.int y)] [.int (nI 0)] σ
    refine am_if (ty := 8) (tn := 11) rfl (by decide) rfl rfl (fun (h_101 : nI 0 = 0) => ?_) (fun (h_101 : ¬ (nI 0 = 0)) => ?_)
    rotate_left
    · exact absurd (by decide) h_101
    refine am_run 1 (pc' := 10) (ls' := [some (.ref 0), some (.int x), some (.int y)]) (st' := [.int (-1000001)]) (σ' := σ) rfl ?_
    refine am_reti rfl rfl ?_
    exact ⟨rfl, hI⟩
  · obtain ⟨hf, p, n, r, kk, rk, od, dp, ow, s, m, hP, hH⟩ := hF
    obtain ⟨hn1, hR, hro, hM, hk1, hk2, hkk, hND⟩ := id hP
    obtain ⟨a3, b3, hv, a4, b4, hm, hh⟩ := id hH
    have hW := hM.1.2.1
    have hn60 := hW.1
    have hs := hv.1
    have hrn : r < n := hM.2.1.2.1
    have hn2 := hM.1.2.2.2.1
    rcases i32_in y (k := 255) (by decide) with ⟨u, hu0, rfl⟩ | hy
    · have hu : u < 256 := by omega
      obtain ⟨b1, b2, b3_, b4_, b5_, b6_⟩ := oc_b (s := s) hW (show r + 1 ≤ n by omega) hu
      have hnv := oc_vs hM s hu
      generalize hz : oc p (r + 1) s u = z0 at b1 b2 b3_ b4_ b5_ b6_ hnv
      obtain ⟨P, A, w, c, nx, rd⟩ := z0
      have b1 : P < 256 := b1
      have b2 : A < 256 := b2
      have b3_ : w ≤ 256 := b3_
      have b4_ : c ≤ 6 := b4_
      have b5_ : nx < 1048576 := b5_
      have b6_ : rd ≤ 9 := b6_
      have hnv : VS p r nx := hnv
      by_cases hw0 : w = 0
      · subst hw0
        by_cases hm20 : m = 20
        · subst hm20
          refine ⟨nI P, ?_⟩
          refine am_enter' (M := M_X9_instant) rfl rfl rfl (by omega) (ls := [some (.ref 41), some (.int (nI 0)), some (.int (nI u)), none]) rfl (fun d' hd' => ?_)
          refine am_run 2 (pc' := 2) (ls' := [some (.ref 41), some (.int (nI 0)), some (.int (nI u)), none]) (st' := [.int (nI 0), .ref 41]) (σ' := σ) rfl ?_
          refine am_invv (y := 140) (b := 41) (as := [.int (nI 0)]) (rest := []) rfl rfl rfl rfl rfl rfl rfl (Nat.le_of_ble_eq_true rfl) ?_
          refine c_filled0_1 (by omega) hf ?_
          show am_G _ M_X9_instant _ 5 [some (.ref 41), some (.int (nI 0)), some (.int (nI u)), none] [.ref 73] σ
          refine am_run 4 (pc' := 14) (ls' := [some (.ref 41), some (.int (nI 0)), some (.int (nI u)), some (.ref 73)]) (st' := [.int (nI u)]) (σ' := σ) rfl ?_
          refine am_invs (y := 141) (as := [.int (nI u)]) (rest := []) rfl rfl rfl rfl rfl rfl (Nat.le_of_ble_eq_true rfl) ?_
          refine c_sig1 (by omega) (by omega) ?_
          show am_G _ M_X9_instant _ 17 [some (.ref 41), some (.int (nI 0)), some (.int (nI u)), some (.ref 73)] [.int (nI 1)] σ
          refine am_if (ty := 20) (tn := 23) rfl (by decide) rfl rfl (fun (h_1 : nI 1 = 0) => ?_) (fun (h_1 : ¬ (nI 1 = 0)) => ?_)
          · exact absurd h_1 (by decide)
          refine am_run 3 (pc' := 28) (ls' := [some (.ref 41), some (.int (nI 0)), some (.int (nI u)), some (.ref 73)]) (st' := [.ref 73, .ref 77]) (σ' := σ) rfl ?_
          refine am_invv (y := 66) (b := 73) (as := []) (rest := [.ref 77]) rfl rfl rfl rfl rfl rfl rfl (Nat.le_of_ble_eq_true rfl) ?_
          refine am_enter' rfl rfl rfl (by omega) (ls := [some (.ref 73)]) rfl (fun d_2 hd_2 => ?_)
          refine am_run 2 (pc' := 4) (ls' := [some (.ref 73)]) (st' := [.ref (σ.2 73 1)]) (σ' := σ) rfl ?_
          refine am_reta rfl rfl (Or.inr ⟨_, rfl⟩) ?_
          show am_G _ M_X9_instant _ 31 [some (.ref 41), some (.int (nI 0)), some (.int (nI u)), some (.ref 73)] [.ref (σ.2 73 1), .ref 77] σ
          refine am_run 1 (pc' := 32) (ls' := [some (.ref 41), some (.int (nI 0)), some (.int (nI u)), some (.ref 73)]) (st' := [.ref 73, .ref (σ.2 73 1), .ref 77]) (σ' := σ) rfl ?_
          refine am_invv (y := 67) (b := 73) (as := []) (rest := [.ref (σ.2 73 1), .ref 77]) rfl rfl rfl rfl rfl rfl rfl (Nat.le_of_ble_eq_true rfl) ?_
          refine am_enter' rfl rfl rfl (by omega) (ls := [some (.ref 73)]) rfl (fun d_3 hd_3 => ?_)
          refine am_run 2 (pc' := 4) (ls' := [some (.ref 73)]) (st' := [.int (σ.1 73 3)]) (σ' := σ) rfl ?_
          refine am_top (v' := nI s) a3 ?_
          refine am_reti rfl rfl ?_
          show am_G _ M_X9_instant _ 35 [some (.ref 41), some (.int (nI 0)), some (.int (nI u)), some (.ref 73)] [.int (nI s), .ref (σ.2 73 1), .ref 77] σ
          refine am_run 1 (pc' := 36) (ls' := [some (.ref 41), some (.int (nI 0)), some (.int (nI u)), some (.ref 73)]) (st' := [.int (nI u), .int (nI s), .ref (σ.2 73 1), .ref 77]) (σ' := σ) rfl ?_
          refine am_invv (y := 56) (b := 77) (as := [.ref (σ.2 73 1), .int (nI s), .int (nI u)]) (rest := []) rfl rfl rfl rfl rfl rfl rfl (Nat.le_of_ble_eq_true rfl) ?_
          refine c_determine (by omega) hW hR (show r + 1 ≤ n by omega) hro (Or.inl rfl) hs hu (fun σ2 hK hO => ?_)
          rw [hz] at hO
          obtain ⟨o0, o1, o2, o3, o4⟩ : σ2.1 77 0 = nI (P + 256 * A) ∧ σ2.1 77 1 = nI 0 ∧ σ2.1 77 2 = nI c ∧ σ2.1 77 3 = nI nx ∧ σ2.1 77 4 = nI rd := hO
          have hM2 := hM.keep2 (σ' := σ2) (fun c a => hK.1 c (by omega))
          have b32 : σ2.1 17 0 = nI s := by rw [hK.1 17 (by decide)]; exact b3
          have hn22 : σ2.1 2 0 = nI n := hM2.1.2.2.2.1
          have a32 : σ2.1 73 3 = nI s := by rw [hK.1 73 (by decide)]; exact a3
          have a42 : σ2.1 73 4 = nI 20 := by rw [hK.1 73 (by decide)]; exact a4
          show am_G _ M_X9_instant _ 39 [some (.ref 41), some (.int (nI 0)), some (.int (nI u)), some (.ref 73)] [] σ2
          refine am_run 2 (pc' := 43) (ls' := [some (.ref 41), some (.int (nI 0)), some (.int (nI u)), some (.ref 73)]) (st' := [.ref 77]) (σ' := σ2) rfl ?_
          refine am_invv (y := 52) (b := 77) (as := []) (rest := []) rfl rfl rfl rfl rfl rfl rfl (Nat.le_of_ble_eq_true rfl) ?_
          refine am_enter' rfl rfl rfl (by omega) (ls := [some (.ref 77)]) rfl (fun d_4 hd_4 => ?_)
          refine am_run 2 (pc' := 4) (ls' := [some (.ref 77)]) (st' := [.int (σ2.1 77 1)]) (σ' := σ2) rfl ?_
          refine am_top (v' := nI 0) o1 ?_
          refine am_if (ty := 11) (tn := 7) rfl (by decide) rfl rfl (fun (h_5 : nI 0 = 0) => ?_) (fun (h_5 : ¬ (nI 0 = 0)) => ?_)
          rotate_left
          · exact absurd (by decide) h_5
          refine am_run 1 (pc' := 12) (ls' := [some (.ref 77)]) (st' := [.int (nI 0)]) (σ' := σ2) rfl ?_
          refine am_retz rfl rfl (by decide) ?_
          show am_G _ M_X9_instant _ 46 [some (.ref 41), some (.int (nI 0)), some (.int (nI u)), some (.ref 73)] [.int (nI 0)] σ2
          refine am_if (ty := 52) (tn := 49) rfl (by decide) rfl rfl (fun (h_6 : nI 0 = 0) => ?_) (fun (h_6 : ¬ (nI 0 = 0)) => ?_)
          rotate_left
          · exact absurd (by decide) h_6
          refine am_run 3 (pc' := 57) (ls' := [some (.ref 41), some (.int (nI 0)), some (.int (nI u)), some (.ref 73)]) (st' := [.ref 77, .ref 73]) (σ' := σ2) rfl ?_
          refine am_invv (y := 54) (b := 77) (as := []) (rest := [.ref 73]) rfl rfl rfl rfl rfl rfl rfl (Nat.le_of_ble_eq_true rfl) ?_
          refine am_enter' rfl rfl rfl (by omega) (ls := [some (.ref 77)]) rfl (fun d_7 hd_7 => ?_)
          refine am_run 2 (pc' := 4) (ls' := [some (.ref 77)]) (st' := [.int (σ2.1 77 3)]) (σ' := σ2) rfl ?_
          refine am_top (v' := nI nx) o3 ?_
          refine am_reti rfl rfl ?_
          show am_G _ M_X9_instant _ 60 [some (.ref 41), some (.int (nI 0)), some (.int (nI u)), some (.ref 73)] [.int (nI nx), .ref 73] σ2
          refine am_invv (y := 71) (b := 73) (as := [.int (nI nx)]) (rest := []) rfl rfl rfl rfl rfl rfl rfl (Nat.le_of_ble_eq_true rfl) ?_
          refine am_enter' rfl rfl rfl (by omega) (ls := [some (.ref 73), some (.int (nI nx))]) rfl (fun d_8 hd_8 => ?_)
          refine am_run 2 (pc' := 4) (ls' := [some (.ref 73), some (.int (nI nx))]) (st' := [.int (σ2.1 73 4)]) (σ' := σ2) rfl ?_
          refine am_top (v' := nI 20) a42 ?_
          refine am_run 1 (pc' := 6) (ls' := [some (.ref 73), some (.int (nI nx))]) (st' := [.int (nI 20), .int (nI 20)]) (σ' := σ2) rfl ?_
          refine am_ic (ty := 30) (tn := 9) rfl (by decide) rfl rfl (fun (h_9 : nI 20 < nI 20) => ?_) (fun (h_9 : ¬ (nI 20 < nI 20)) => ?_)
          · exact absurd h_9 (by decide)
          refine am_run 7 (pc' := 21) (ls' := [some (.ref 73), some (.int (nI nx))]) (st' := [.int (nI 19), .int (nI 0), .ref 74, .int (nI 1), .ref 74]) (σ' := σ2) rfl ?_
          refine am_cps rfl rfl rfl rfl (by decide) (by decide) (by decide) (by decide) (by decide) (Nat.le_of_ble_eq_true rfl) ?_
          refine am_run 0 (pc' := 24) (ls' := [some (.ref 73), some (.int (nI nx))]) (st' := []) (σ' := (am_cp σ2 74 74 1 0 19)) rfl ?_
          refine am_run 5 (pc' := 34) (ls' := [some (.ref 73), some (.int (nI nx))]) (st' := [.int (nI 19)]) (σ' := (am_wr (am_cp σ2 74 74 1 0 19) 73 4 (nI 19))) rfl ?_
          refine am_if (ty := 60) (tn := 37) rfl (by decide) rfl rfl (fun (h_10 : nI 19 < 0) => ?_) (fun (h_10 : ¬ (nI 19 < 0)) => ?_)
          · exact absurd h_10 (by decide)
          refine am_run 6 (pc' := 49) (ls' := [some (.ref 73), some (.int (nI nx))]) (st' := [.int (σ2.1 73 3), .int (nI 19), .ref 74]) (σ' := (am_wr (am_cp σ2 74 74 1 0 19) 73 4 (nI 19))) rfl ?_
          refine am_top (v' := nI s) a32 ?_
          refine am_iastN (n := 20) rfl rfl rfl (by decide) (by decide) ?_
          refine am_run 5 (pc' := 57) (ls' := [some (.ref 73), some (.int (nI nx))]) (st' := [.int (nI 19 + nI 1), .ref 73]) (σ' := (am_wr (am_wr (am_cp σ2 74 74 1 0 19) 73 4 (nI 19)) 74 19 (nI s))) rfl ?_
          refine am_top (v' := nI 20) (nI_add _ _) ?_
          refine am_run 4 (pc' := 65) (ls' := [some (.ref 73), some (.int (nI nx))]) (st' := []) (σ' := (am_wr (am_wr (am_wr (am_wr (am_cp σ2 74 74 1 0 19) 73 4 (nI 19)) 74 19 (nI s)) 73 4 (nI 20)) 73 3 (nI nx))) rfl ?_
          refine am_retv rfl rfl ?_
          show am_G _ M_X9_instant _ 63 [some (.ref 41), some (.int (nI 0)), some (.int (nI u)), some (.ref 73)] [] (am_wr (am_wr (am_wr (am_wr (am_cp σ2 74 74 1 0 19) 73 4 (nI 19)) 74 19 (nI s)) 73 4 (nI 20)) 73 3 (nI nx))
          refine am_run 2 (pc' := 67) (ls' := [some (.ref 41), some (.int (nI 0)), some (.int (nI u)), some (.ref 73)]) (st' := [.ref 77]) (σ' := (am_wr (am_wr (am_wr (am_wr (am_cp σ2 74 74 1 0 19) 73 4 (nI 19)) 74 19 (nI s)) 73 4 (nI 20)) 73 3 (nI nx))) rfl ?_
          refine am_invv (y := 50) (b := 77) (as := []) (rest := []) rfl rfl rfl rfl rfl rfl rfl (Nat.le_of_ble_eq_true rfl) ?_
          refine c_o_present (by omega) (Or.inl rfl) b1 (by exact o0) ?_
          show am_G _ M_X9_instant _ 70 [some (.ref 41), some (.int (nI 0)), some (.int (nI u)), some (.ref 73)] [.int (nI P)] (am_wr (am_wr (am_wr (am_wr (am_cp σ2 74 74 1 0 19) 73 4 (nI 19)) 74 19 (nI s)) 73 4 (nI 20)) 73 3 (nI nx))
          refine am_reti rfl rfl ?_
          refine ⟨rfl, ?_⟩
          have hJ5 : KJ σ (am_wr (am_wr (am_wr (am_wr (am_cp σ2 74 74 1 0 19) 73 4 (nI 19)) 74 19 (nI s)) 73 4 (nI 20)) 73 3 (nI nx)) 0 73 := (((((((hK.KI (Or.inl rfl)).KJ (Or.inl rfl)).cB (Or.inl rfl) _ _ _).w3 (Or.inl rfl) (by decide) _).wB (Or.inl rfl) _ _).w3 (Or.inl rfl) (by decide) _).w3 (Or.inl rfl) (by decide) _)
          have hM5 : MI (am_wr (am_wr (am_wr (am_wr (am_cp σ2 74 74 1 0 19) 73 4 (nI 19)) 74 19 (nI s)) 73 4 (nI 20)) 73 3 (nI nx)) 0 p n r rk od dp ow := hM.keep2 (fun c a => by rw [am_wr_ne _ (by omega), am_wr_ne _ (by omega), am_wr_ne _ (by omega), am_wr_ne _ (by omega), show (am_cp σ2 74 74 1 0 19).1 c = σ2.1 c from if_neg (by omega), hK.1 c (by omega)])
          have x3 : (am_wr (am_wr (am_wr (am_wr (am_cp σ2 74 74 1 0 19) 73 4 (nI 19)) 74 19 (nI s)) 73 4 (nI 20)) 73 3 (nI nx)).1 73 3 = nI nx := rfl
          have x4 : (am_wr (am_wr (am_wr (am_wr (am_cp σ2 74 74 1 0 19) 73 4 (nI 19)) 74 19 (nI s)) 73 4 (nI 20)) 73 3 (nI nx)).1 73 4 = nI 20 := rfl
          have y17 : (am_wr (am_wr (am_wr (am_wr (am_cp σ2 74 74 1 0 19) 73 4 (nI 19)) 74 19 (nI s)) 73 4 (nI 20)) 73 3 (nI nx)).1 17 0 = nI s := b32
          have y19 : (am_wr (am_wr (am_wr (am_wr (am_cp σ2 74 74 1 0 19) 73 4 (nI 19)) 74 19 (nI s)) 73 4 (nI 20)) 73 3 (nI nx)).1 19 0 = nI 20 := by show σ2.1 19 0 = _; rw [hK.1 19 (by decide)]; exact b4
          have y18 : ∀ k, (am_wr (am_wr (am_wr (am_wr (am_cp σ2 74 74 1 0 19) 73 4 (nI 19)) 74 19 (nI s)) 73 4 (nI 20)) 73 3 (nI nx)).1 18 k = σ.1 18 k := fun k => by show σ2.1 18 k = _; rw [hK.1 18 (by decide)]
          have x5 : ∀ i, i < 19 → (am_wr (am_wr (am_wr (am_wr (am_cp σ2 74 74 1 0 19) 73 4 (nI 19)) 74 19 (nI s)) 73 4 (nI 20)) 73 3 (nI nx)).1 74 i = σ.1 74 (i + 1) := fun i hi => by
            show (am_wr (am_wr (am_cp σ2 74 74 1 0 19) 73 4 (nI 19)) 74 19 (nI s)).1 74 i = _
            rw [am_diff _ _ _ _ _ (by omega), am_wr_ne _ (by decide), am_cpr i (by omega), hK.1 74 (by decide), show 1 + (i - 0) = i + 1 by omega]
          have x6 : (am_wr (am_wr (am_wr (am_wr (am_cp σ2 74 74 1 0 19) 73 4 (nI 19)) 74 19 (nI s)) 73 4 (nI 20)) 73 3 (nI nx)).1 74 19 = nI s := rfl
          generalize (am_wr (am_wr (am_wr (am_wr (am_cp σ2 74 74 1 0 19) 73 4 (nI 19)) 74 19 (nI s)) 73 4 (nI 20)) 73 3 (nI nx)) = σ5 at hJ5 hM5 x3 x4 y17 y19 y18 x5 x6 ⊢
          have hn25 := hM5.1.2.2.2.1
          refine am_enter' (M := M_X10_instant) rfl rfl rfl (by omega) (ls := [some (.ref 0), some (.int (nI 0)), some (.int (nI u))]) rfl (fun d2 hd2 => ?_)
          refine am_run 2 (pc' := 2) (ls' := [some (.ref 0), some (.int (nI 0)), some (.int (nI u))]) (st' := [.int (nI 0), .ref 0]) (σ' := σ5) rfl ?_
          refine am_invv (y := 151) (b := 0) (as := [.int (nI 0)]) (rest := []) rfl rfl rfl rfl rfl rfl rfl (Nat.le_of_ble_eq_true rfl) ?_
          refine c_prog0_1 (by omega) (n := n) (by exact hn25) hn1 hn60 ?_
          show am_G _ M_X10_instant _ 5 [some (.ref 0), some (.int (nI 0)), some (.int (nI u))] [.int (nI 1)] σ5
          refine am_if (ty := 8) (tn := 11) rfl (by decide) rfl rfl (fun (h_101 : nI 1 = 0) => ?_) (fun (h_101 : ¬ (nI 1 = 0)) => ?_)
          · exact absurd h_101 (by decide)
          refine am_run 3 (pc' := 16) (ls' := [some (.ref 0), some (.int (nI 0)), some (.int (nI u))]) (st' := [.int (nI 255), .int (nI 0), .int (nI u)]) (σ' := σ5) rfl ?_
          refine am_invs (y := 148) (as := [.int (nI u), .int (nI 0), .int (nI 255)]) (rest := []) rfl rfl rfl rfl rfl rfl (Nat.le_of_ble_eq_true rfl) ?_
          refine c_in1 (by omega) (by omega) (by omega) (by omega) ?_
          show am_G _ M_X10_instant _ 19 [some (.ref 0), some (.int (nI 0)), some (.int (nI u))] [.int (nI 1)] σ5
          refine am_if (ty := 22) (tn := 25) rfl (by decide) rfl rfl (fun (h_102 : nI 1 = 0) => ?_) (fun (h_102 : ¬ (nI 1 = 0)) => ?_)
          · exact absurd h_102 (by decide)
          refine am_run 5 (pc' := 32) (ls' := [some (.ref 0), some (.int (nI 0)), some (.int (nI u))]) (st' := [.int (nI 0), .ref 17, .int (nI 0), .ref 0]) (σ' := σ5) rfl ?_
          refine am_ialdN (n := 2) (v := nI s) rfl rfl rfl (by decide) y17 (by decide) ?_
          refine am_run 1 (pc' := 34) (ls' := [some (.ref 0), some (.int (nI 0)), some (.int (nI u))]) (st' := [.int (nI u), .int (nI s), .int (nI 0), .ref 0]) (σ' := σ5) rfl ?_
          refine am_invv (y := 229) (b := 0) (as := [.int (nI 0), .int (nI s), .int (nI u)]) (rest := []) rfl rfl rfl rfl rfl rfl rfl (Nat.le_of_ble_eq_true rfl) ?_
          refine c_settles1 (by omega) hM5 hs hv.2 hu hz (fun σ6 hS i38 i39 i40 i41 i42 i43 i44 i29 => ?_)
          have z17 : σ6.1 17 0 = nI s := by rw [hS.1 17 (by decide) (by decide) (by decide) (by decide)]; exact y17
          have z19 : σ6.1 19 0 = nI 20 := by rw [hS.1 19 (by decide) (by decide) (by decide) (by decide)]; exact y19
          have z18 : ∀ k, σ6.1 18 k = σ.1 18 k := fun k => by rw [hS.1 18 (by decide) (by decide) (by decide) (by decide)]; exact y18 k
          show am_G _ M_X10_instant _ 37 [some (.ref 0), some (.int (nI 0)), some (.int (nI u))] [.int (nI 1)] σ6
          refine am_if (ty := 40) (tn := 44) rfl (by decide) rfl rfl (fun (h_103 : nI 1 = 0) => ?_) (fun (h_103 : ¬ (nI 1 = 0)) => ?_)
          · exact absurd h_103 (by decide)
          refine am_run 3 (pc' := 49) (ls' := [some (.ref 0), some (.int (nI 0)), some (.int (nI u))]) (st' := [.int (nI 0), .ref 19]) (σ' := σ6) rfl ?_
          refine am_ialdN (n := 2) (v := nI 20) rfl rfl rfl (by decide) z19 (by decide) ?_
          refine am_run 1 (pc' := 52) (ls' := [some (.ref 0), some (.int (nI 0)), some (.int (nI u))]) (st' := [.int (nI 20), .int (nI 20)]) (σ' := σ6) rfl ?_
          refine am_ic (ty := 55) (tn := 88) rfl (by decide) rfl rfl (fun (h_104 : nI 20 = nI 20) => ?_) (fun (h_104 : ¬ (nI 20 = nI 20)) => ?_)
          rotate_left
          · exact absurd (by decide) h_104
          refine am_run 5 (pc' := 63) (ls' := [some (.ref 0), some (.int (nI 0)), some (.int (nI u))]) (st' := [.int (nI 20 * nI 0), .ref 18]) (σ' := σ6) rfl ?_
          refine am_top (v' := nI 0) (am_nmul _ _) ?_
          refine am_run 2 (pc' := 65) (ls' := [some (.ref 0), some (.int (nI 0)), some (.int (nI u))]) (st' := [.int (nI 0 + nI 1), .ref 18]) (σ' := σ6) rfl ?_
          refine am_top (v' := nI 1) (nI_add _ _) ?_
          refine am_run 5 (pc' := 73) (ls' := [some (.ref 0), some (.int (nI 0)), some (.int (nI u))]) (st' := [.int (nI 20 * nI 0), .ref 18, .int (nI 1), .ref 18]) (σ' := σ6) rfl ?_
          refine am_top (v' := nI 0) (am_nmul _ _) ?_
          refine am_run 1 (pc' := 75) (ls' := [some (.ref 0), some (.int (nI 0)), some (.int (nI u))]) (st' := [.int (nI 19), .int (nI 0), .ref 18, .int (nI 1), .ref 18]) (σ' := σ6) rfl ?_
          refine am_invs (y := 180) (as := [.ref 18, .int (nI 1), .ref 18, .int (nI 0), .int (nI 19)]) (rest := []) rfl rfl rfl rfl rfl rfl (Nat.le_of_ble_eq_true rfl) ?_
          refine c_bring (by omega) (c0 := 18) (c1 := 18) (n0 := 40) (n1 := 40) (a := 1) (b := 0) (n := 19) rfl rfl rfl rfl (by decide) (by decide) (by decide) (by decide) (Or.inr (by decide)) (fun σ7 g1 g2 g3 g4 => ?_)
          show am_G _ M_X10_instant _ 78 [some (.ref 0), some (.int (nI 0)), some (.int (nI u))] [] σ7
          refine am_run 4 (pc' := 84) (ls' := [some (.ref 0), some (.int (nI 0)), some (.int (nI u))]) (st' := [.int (nI 0), .ref 19, .int (nI 0), .ref 19]) (σ' := σ7) rfl ?_
          refine am_ialdN (n := 2) (v := nI 20) rfl rfl rfl (by decide) (by show σ7.1 19 0 = _; rw [g1 19 (by decide)]; exact z19) (by decide) ?_
          refine am_run 2 (pc' := 87) (ls' := [some (.ref 0), some (.int (nI 0)), some (.int (nI u))]) (st' := [.int (nI 20 - nI 1), .int (nI 0), .ref 19]) (σ' := σ7) rfl ?_
          refine am_top (v' := nI 19) (nx_sub (by decide)) ?_
          refine am_iastN (n := 2) rfl rfl rfl (by decide) (by decide) ?_
          refine am_run 5 (pc' := 96) (ls' := [some (.ref 0), some (.int (nI 0)), some (.int (nI u))]) (st' := [.int (nI 20 * nI 0), .ref 18]) (σ' := (am_wr σ7 19 0 (nI 19))) rfl ?_
          refine am_top (v' := nI 0) (am_nmul _ _) ?_
          refine am_run 3 (pc' := 101) (ls' := [some (.ref 0), some (.int (nI 0)), some (.int (nI u))]) (st' := [.int (nI 0), .ref 19, .int (nI 0), .ref 18]) (σ' := (am_wr σ7 19 0 (nI 19))) rfl ?_
          refine am_ialdN (n := 2) (v := nI 19) rfl rfl rfl (by decide) rfl (by decide) ?_
          refine am_run 1 (pc' := 103) (ls' := [some (.ref 0), some (.int (nI 0)), some (.int (nI u))]) (st' := [.int (nI 0 + nI 19), .ref 18]) (σ' := (am_wr σ7 19 0 (nI 19))) rfl ?_
          refine am_top (v' := nI 19) (nI_add _ _) ?_
          refine am_run 3 (pc' := 108) (ls' := [some (.ref 0), some (.int (nI 0)), some (.int (nI u))]) (st' := [.int (nI 0), .ref 17, .int (nI 19), .ref 18]) (σ' := (am_wr σ7 19 0 (nI 19))) rfl ?_
          refine am_ialdN (n := 2) (v := nI s) rfl rfl rfl (by decide) (by show σ7.1 17 0 = _; rw [g1 17 (by decide)]; exact z17) (by decide) ?_
          refine am_iastN (n := 40) rfl rfl rfl (by decide) (by decide) ?_
          refine am_run 4 (pc' := 116) (ls' := [some (.ref 0), some (.int (nI 0)), some (.int (nI u))]) (st' := [.int (nI 0), .ref 19, .int (nI 0), .ref 19]) (σ' := (am_wr (am_wr σ7 19 0 (nI 19)) 18 19 (nI s))) rfl ?_
          refine am_ialdN (n := 2) (v := nI 19) rfl rfl rfl (by decide) rfl (by decide) ?_
          refine am_run 2 (pc' := 119) (ls' := [some (.ref 0), some (.int (nI 0)), some (.int (nI u))]) (st' := [.int (nI 19 + nI 1), .int (nI 0), .ref 19]) (σ' := (am_wr (am_wr σ7 19 0 (nI 19)) 18 19 (nI s))) rfl ?_
          refine am_top (v' := nI 20) (nI_add _ _) ?_
          refine am_iastN (n := 2) rfl rfl rfl (by decide) (by decide) ?_
          refine am_run 5 (pc' := 129) (ls' := [some (.ref 0), some (.int (nI 0)), some (.int (nI u))]) (st' := [.int (σ7.1 0 44), .int (nI 0), .ref 17]) (σ' := (am_wr (am_wr (am_wr σ7 19 0 (nI 19)) 18 19 (nI s)) 19 0 (nI 20))) rfl ?_
          refine am_top (v' := nI nx) (by show σ7.1 0 44 = _; rw [g1 0 (by decide)]; exact i44) ?_
          refine am_iastN (n := 2) rfl rfl rfl (by decide) (by decide) ?_
          refine am_run 2 (pc' := 134) (ls' := [some (.ref 0), some (.int (nI 0)), some (.int (nI u))]) (st' := [.int (σ7.1 0 42)]) (σ' := (am_wr (am_wr (am_wr (am_wr σ7 19 0 (nI 19)) 18 19 (nI s)) 19 0 (nI 20)) 17 0 (nI nx))) rfl ?_
          refine am_top (v' := nI P) (by show σ7.1 0 42 = _; rw [g1 0 (by decide)]; exact i42) ?_
          refine am_reti rfl rfl ?_
          have hJ6 : KJ σ (am_wr (am_wr (am_wr (am_wr σ7 19 0 (nI 19)) 18 19 (nI s)) 19 0 (nI 20)) 17 0 (nI nx)) 0 73 := ((((((hJ5.tr (hS.KI.KJ (Or.inl rfl))).b18 (Or.inl rfl) g1 g2 (fun x hx => g4 x (by omega))).w19 (Or.inl rfl) _).w18 (Or.inl rfl) (by omega) _).w19 (Or.inl rfl) _).w17 (Or.inl rfl) _)
          refine ⟨rfl, hI.hs (Or.inl ⟨rfl, rfl⟩) hJ6 hf hP (s := nx) (m := 20) ⟨by show σ7.1 73 3 = _; rw [g1 73 (by decide), hS.1 73 (by decide) (by decide) (by decide) (by decide)]; exact x3, rfl, hnv, by show σ7.1 73 4 = _; rw [g1 73 (by decide), hS.1 73 (by decide) (by decide) (by decide) (by decide)]; exact x4, rfl, by omega, fun i hi => ?_⟩⟩
          by_cases e : i = 19
          · subst e
            exact ⟨s, by show σ7.1 74 19 = _; rw [g1 74 (by decide), hS.1 74 (by decide) (by decide) (by decide) (by decide)]; exact x6, by show (am_wr (am_wr σ7 19 0 (nI 19)) 18 19 (nI s)).1 18 19 = _; exact am_same _ _ _ _, hv⟩
          · obtain ⟨s1, e1, e2, e3⟩ := hh (i + 1) (by omega)
            refine ⟨s1, by show σ7.1 74 i = _; rw [g1 74 (by decide), hS.1 74 (by decide) (by decide) (by decide) (by decide), x5 i (by omega)]; exact e1, ?_, e3⟩
            show (am_wr (am_wr σ7 19 0 (nI 19)) 18 19 (nI s)).1 18 (0 + i) = _
            rw [am_diff _ _ _ _ _ (by omega), am_wr_ne _ (by decide), g3 i (by omega), z18, show 1 + i = 0 + (i + 1) by omega]
            exact e2
        · skip
          refine ⟨nI P, ?_⟩
          refine am_enter' (M := M_X9_instant) rfl rfl rfl (by omega) (ls := [some (.ref 41), some (.int (nI 0)), some (.int (nI u)), none]) rfl (fun d' hd' => ?_)
          refine am_run 2 (pc' := 2) (ls' := [some (.ref 41), some (.int (nI 0)), some (.int (nI u)), none]) (st' := [.int (nI 0), .ref 41]) (σ' := σ) rfl ?_
          refine am_invv (y := 140) (b := 41) (as := [.int (nI 0)]) (rest := []) rfl rfl rfl rfl rfl rfl rfl (Nat.le_of_ble_eq_true rfl) ?_
          refine c_filled0_1 (by omega) hf ?_
          show am_G _ M_X9_instant _ 5 [some (.ref 41), some (.int (nI 0)), some (.int (nI u)), none] [.ref 73] σ
          refine am_run 4 (pc' := 14) (ls' := [some (.ref 41), some (.int (nI 0)), some (.int (nI u)), some (.ref 73)]) (st' := [.int (nI u)]) (σ' := σ) rfl ?_
          refine am_invs (y := 141) (as := [.int (nI u)]) (rest := []) rfl rfl rfl rfl rfl rfl (Nat.le_of_ble_eq_true rfl) ?_
          refine c_sig1 (by omega) (by omega) ?_
          show am_G _ M_X9_instant _ 17 [some (.ref 41), some (.int (nI 0)), some (.int (nI u)), some (.ref 73)] [.int (nI 1)] σ
          refine am_if (ty := 20) (tn := 23) rfl (by decide) rfl rfl (fun (h_1 : nI 1 = 0) => ?_) (fun (h_1 : ¬ (nI 1 = 0)) => ?_)
          · exact absurd h_1 (by decide)
          refine am_run 3 (pc' := 28) (ls' := [some (.ref 41), some (.int (nI 0)), some (.int (nI u)), some (.ref 73)]) (st' := [.ref 73, .ref 77]) (σ' := σ) rfl ?_
          refine am_invv (y := 66) (b := 73) (as := []) (rest := [.ref 77]) rfl rfl rfl rfl rfl rfl rfl (Nat.le_of_ble_eq_true rfl) ?_
          refine am_enter' rfl rfl rfl (by omega) (ls := [some (.ref 73)]) rfl (fun d_2 hd_2 => ?_)
          refine am_run 2 (pc' := 4) (ls' := [some (.ref 73)]) (st' := [.ref (σ.2 73 1)]) (σ' := σ) rfl ?_
          refine am_reta rfl rfl (Or.inr ⟨_, rfl⟩) ?_
          show am_G _ M_X9_instant _ 31 [some (.ref 41), some (.int (nI 0)), some (.int (nI u)), some (.ref 73)] [.ref (σ.2 73 1), .ref 77] σ
          refine am_run 1 (pc' := 32) (ls' := [some (.ref 41), some (.int (nI 0)), some (.int (nI u)), some (.ref 73)]) (st' := [.ref 73, .ref (σ.2 73 1), .ref 77]) (σ' := σ) rfl ?_
          refine am_invv (y := 67) (b := 73) (as := []) (rest := [.ref (σ.2 73 1), .ref 77]) rfl rfl rfl rfl rfl rfl rfl (Nat.le_of_ble_eq_true rfl) ?_
          refine am_enter' rfl rfl rfl (by omega) (ls := [some (.ref 73)]) rfl (fun d_3 hd_3 => ?_)
          refine am_run 2 (pc' := 4) (ls' := [some (.ref 73)]) (st' := [.int (σ.1 73 3)]) (σ' := σ) rfl ?_
          refine am_top (v' := nI s) a3 ?_
          refine am_reti rfl rfl ?_
          show am_G _ M_X9_instant _ 35 [some (.ref 41), some (.int (nI 0)), some (.int (nI u)), some (.ref 73)] [.int (nI s), .ref (σ.2 73 1), .ref 77] σ
          refine am_run 1 (pc' := 36) (ls' := [some (.ref 41), some (.int (nI 0)), some (.int (nI u)), some (.ref 73)]) (st' := [.int (nI u), .int (nI s), .ref (σ.2 73 1), .ref 77]) (σ' := σ) rfl ?_
          refine am_invv (y := 56) (b := 77) (as := [.ref (σ.2 73 1), .int (nI s), .int (nI u)]) (rest := []) rfl rfl rfl rfl rfl rfl rfl (Nat.le_of_ble_eq_true rfl) ?_
          refine c_determine (by omega) hW hR (show r + 1 ≤ n by omega) hro (Or.inl rfl) hs hu (fun σ2 hK hO => ?_)
          rw [hz] at hO
          obtain ⟨o0, o1, o2, o3, o4⟩ : σ2.1 77 0 = nI (P + 256 * A) ∧ σ2.1 77 1 = nI 0 ∧ σ2.1 77 2 = nI c ∧ σ2.1 77 3 = nI nx ∧ σ2.1 77 4 = nI rd := hO
          have hM2 := hM.keep2 (σ' := σ2) (fun c a => hK.1 c (by omega))
          have b32 : σ2.1 17 0 = nI s := by rw [hK.1 17 (by decide)]; exact b3
          have hn22 : σ2.1 2 0 = nI n := hM2.1.2.2.2.1
          have a32 : σ2.1 73 3 = nI s := by rw [hK.1 73 (by decide)]; exact a3
          have a42 : σ2.1 73 4 = nI m := by rw [hK.1 73 (by decide)]; exact a4
          show am_G _ M_X9_instant _ 39 [some (.ref 41), some (.int (nI 0)), some (.int (nI u)), some (.ref 73)] [] σ2
          refine am_run 2 (pc' := 43) (ls' := [some (.ref 41), some (.int (nI 0)), some (.int (nI u)), some (.ref 73)]) (st' := [.ref 77]) (σ' := σ2) rfl ?_
          refine am_invv (y := 52) (b := 77) (as := []) (rest := []) rfl rfl rfl rfl rfl rfl rfl (Nat.le_of_ble_eq_true rfl) ?_
          refine am_enter' rfl rfl rfl (by omega) (ls := [some (.ref 77)]) rfl (fun d_4 hd_4 => ?_)
          refine am_run 2 (pc' := 4) (ls' := [some (.ref 77)]) (st' := [.int (σ2.1 77 1)]) (σ' := σ2) rfl ?_
          refine am_top (v' := nI 0) o1 ?_
          refine am_if (ty := 11) (tn := 7) rfl (by decide) rfl rfl (fun (h_5 : nI 0 = 0) => ?_) (fun (h_5 : ¬ (nI 0 = 0)) => ?_)
          rotate_left
          · exact absurd (by decide) h_5
          refine am_run 1 (pc' := 12) (ls' := [some (.ref 77)]) (st' := [.int (nI 0)]) (σ' := σ2) rfl ?_
          refine am_retz rfl rfl (by decide) ?_
          show am_G _ M_X9_instant _ 46 [some (.ref 41), some (.int (nI 0)), some (.int (nI u)), some (.ref 73)] [.int (nI 0)] σ2
          refine am_if (ty := 52) (tn := 49) rfl (by decide) rfl rfl (fun (h_6 : nI 0 = 0) => ?_) (fun (h_6 : ¬ (nI 0 = 0)) => ?_)
          rotate_left
          · exact absurd (by decide) h_6
          refine am_run 3 (pc' := 57) (ls' := [some (.ref 41), some (.int (nI 0)), some (.int (nI u)), some (.ref 73)]) (st' := [.ref 77, .ref 73]) (σ' := σ2) rfl ?_
          refine am_invv (y := 54) (b := 77) (as := []) (rest := [.ref 73]) rfl rfl rfl rfl rfl rfl rfl (Nat.le_of_ble_eq_true rfl) ?_
          refine am_enter' rfl rfl rfl (by omega) (ls := [some (.ref 77)]) rfl (fun d_7 hd_7 => ?_)
          refine am_run 2 (pc' := 4) (ls' := [some (.ref 77)]) (st' := [.int (σ2.1 77 3)]) (σ' := σ2) rfl ?_
          refine am_top (v' := nI nx) o3 ?_
          refine am_reti rfl rfl ?_
          show am_G _ M_X9_instant _ 60 [some (.ref 41), some (.int (nI 0)), some (.int (nI u)), some (.ref 73)] [.int (nI nx), .ref 73] σ2
          refine am_invv (y := 71) (b := 73) (as := [.int (nI nx)]) (rest := []) rfl rfl rfl rfl rfl rfl rfl (Nat.le_of_ble_eq_true rfl) ?_
          refine am_enter' rfl rfl rfl (by omega) (ls := [some (.ref 73), some (.int (nI nx))]) rfl (fun d_8 hd_8 => ?_)
          refine am_run 2 (pc' := 4) (ls' := [some (.ref 73), some (.int (nI nx))]) (st' := [.int (σ2.1 73 4)]) (σ' := σ2) rfl ?_
          refine am_top (v' := nI m) a42 ?_
          refine am_run 1 (pc' := 6) (ls' := [some (.ref 73), some (.int (nI nx))]) (st' := [.int (nI 20), .int (nI m)]) (σ' := σ2) rfl ?_
          refine am_ic (ty := 30) (tn := 9) rfl (by decide) rfl rfl (fun (h_9 : nI m < nI 20) => ?_) (fun (h_9 : ¬ (nI m < nI 20)) => ?_)
          rotate_left
          · have h_9 : ¬ (m < 20) := fun z => h_9 ((nI_ltI (by omega) (by omega)).mpr z)
            omega
          have h_9 : m < 20 := (nI_ltI (by omega) (by omega)).mp h_9
          refine am_run 2 (pc' := 34) (ls' := [some (.ref 73), some (.int (nI nx))]) (st' := [.int (σ2.1 73 4)]) (σ' := σ2) rfl ?_
          refine am_top (v' := nI m) a42 ?_
          refine am_if (ty := 60) (tn := 37) rfl (by decide) rfl rfl (fun (h_10 : nI m < 0) => ?_) (fun (h_10 : ¬ (nI m < 0)) => ?_)
          · have h_10 : m < 0 := (am_nlt0 (by omega)).mp h_10
            exact absurd h_10 (Nat.not_lt_zero _)
          have h_10 : ¬ (m < 0) := fun z => h_10 ((am_nlt0 (by omega)).mpr z)
          refine am_run 4 (pc' := 45) (ls' := [some (.ref 73), some (.int (nI nx))]) (st' := [.int (σ2.1 73 4), .ref 74]) (σ' := σ2) rfl ?_
          refine am_top (v' := nI m) a42 ?_
          refine am_run 2 (pc' := 49) (ls' := [some (.ref 73), some (.int (nI nx))]) (st' := [.int (σ2.1 73 3), .int (nI m), .ref 74]) (σ' := σ2) rfl ?_
          refine am_top (v' := nI s) a32 ?_
          refine am_iastN (n := 20) rfl rfl rfl (by omega) (by decide) ?_
          refine am_run 3 (pc' := 55) (ls' := [some (.ref 73), some (.int (nI nx))]) (st' := [.int (σ2.1 73 4), .ref 73]) (σ' := (am_wr σ2 74 m (nI s))) rfl ?_
          refine am_top (v' := nI m) a42 ?_
          refine am_run 2 (pc' := 57) (ls' := [some (.ref 73), some (.int (nI nx))]) (st' := [.int (nI m + nI 1), .ref 73]) (σ' := (am_wr σ2 74 m (nI s))) rfl ?_
          refine am_top (v' := nI (m + 1)) (nI_add _ _) ?_
          refine am_run 4 (pc' := 65) (ls' := [some (.ref 73), some (.int (nI nx))]) (st' := []) (σ' := (am_wr (am_wr (am_wr σ2 74 m (nI s)) 73 4 (nI (m + 1))) 73 3 (nI nx))) rfl ?_
          refine am_retv rfl rfl ?_
          show am_G _ M_X9_instant _ 63 [some (.ref 41), some (.int (nI 0)), some (.int (nI u)), some (.ref 73)] [] (am_wr (am_wr (am_wr σ2 74 m (nI s)) 73 4 (nI (m + 1))) 73 3 (nI nx))
          refine am_run 2 (pc' := 67) (ls' := [some (.ref 41), some (.int (nI 0)), some (.int (nI u)), some (.ref 73)]) (st' := [.ref 77]) (σ' := (am_wr (am_wr (am_wr σ2 74 m (nI s)) 73 4 (nI (m + 1))) 73 3 (nI nx))) rfl ?_
          refine am_invv (y := 50) (b := 77) (as := []) (rest := []) rfl rfl rfl rfl rfl rfl rfl (Nat.le_of_ble_eq_true rfl) ?_
          refine c_o_present (by omega) (Or.inl rfl) b1 (by exact o0) ?_
          show am_G _ M_X9_instant _ 70 [some (.ref 41), some (.int (nI 0)), some (.int (nI u)), some (.ref 73)] [.int (nI P)] (am_wr (am_wr (am_wr σ2 74 m (nI s)) 73 4 (nI (m + 1))) 73 3 (nI nx))
          refine am_reti rfl rfl ?_
          refine ⟨rfl, ?_⟩
          have hJ5 : KJ σ (am_wr (am_wr (am_wr σ2 74 m (nI s)) 73 4 (nI (m + 1))) 73 3 (nI nx)) 0 73 := (((((hK.KI (Or.inl rfl)).KJ (Or.inl rfl)).wB (Or.inl rfl) _ _).w3 (Or.inl rfl) (by decide) _).w3 (Or.inl rfl) (by decide) _)
          have hM5 : MI (am_wr (am_wr (am_wr σ2 74 m (nI s)) 73 4 (nI (m + 1))) 73 3 (nI nx)) 0 p n r rk od dp ow := hM.keep2 (fun c a => by rw [am_wr_ne _ (by omega), am_wr_ne _ (by omega), am_wr_ne _ (by omega), hK.1 c (by omega)])
          have x3 : (am_wr (am_wr (am_wr σ2 74 m (nI s)) 73 4 (nI (m + 1))) 73 3 (nI nx)).1 73 3 = nI nx := rfl
          have x4 : (am_wr (am_wr (am_wr σ2 74 m (nI s)) 73 4 (nI (m + 1))) 73 3 (nI nx)).1 73 4 = nI (m + 1) := rfl
          have y17 : (am_wr (am_wr (am_wr σ2 74 m (nI s)) 73 4 (nI (m + 1))) 73 3 (nI nx)).1 17 0 = nI s := b32
          have y19 : (am_wr (am_wr (am_wr σ2 74 m (nI s)) 73 4 (nI (m + 1))) 73 3 (nI nx)).1 19 0 = nI m := by show σ2.1 19 0 = _; rw [hK.1 19 (by decide)]; exact b4
          have y18 : ∀ k, (am_wr (am_wr (am_wr σ2 74 m (nI s)) 73 4 (nI (m + 1))) 73 3 (nI nx)).1 18 k = σ.1 18 k := fun k => by show σ2.1 18 k = _; rw [hK.1 18 (by decide)]
          have x5 : ∀ i, i < m → (am_wr (am_wr (am_wr σ2 74 m (nI s)) 73 4 (nI (m + 1))) 73 3 (nI nx)).1 74 i = σ.1 74 i := fun i hi => by
            show (am_wr σ2 74 m (nI s)).1 74 i = _
            rw [am_diff _ _ _ _ _ (by omega), hK.1 74 (by decide)]
          have x6 : (am_wr (am_wr (am_wr σ2 74 m (nI s)) 73 4 (nI (m + 1))) 73 3 (nI nx)).1 74 m = nI s := by show (am_wr σ2 74 m (nI s)).1 74 m = _; exact am_same _ _ _ _
          generalize (am_wr (am_wr (am_wr σ2 74 m (nI s)) 73 4 (nI (m + 1))) 73 3 (nI nx)) = σ5 at hJ5 hM5 x3 x4 y17 y19 y18 x5 x6 ⊢
          have hn25 := hM5.1.2.2.2.1
          refine am_enter' (M := M_X10_instant) rfl rfl rfl (by omega) (ls := [some (.ref 0), some (.int (nI 0)), some (.int (nI u))]) rfl (fun d2 hd2 => ?_)
          refine am_run 2 (pc' := 2) (ls' := [some (.ref 0), some (.int (nI 0)), some (.int (nI u))]) (st' := [.int (nI 0), .ref 0]) (σ' := σ5) rfl ?_
          refine am_invv (y := 151) (b := 0) (as := [.int (nI 0)]) (rest := []) rfl rfl rfl rfl rfl rfl rfl (Nat.le_of_ble_eq_true rfl) ?_
          refine c_prog0_1 (by omega) (n := n) (by exact hn25) hn1 hn60 ?_
          show am_G _ M_X10_instant _ 5 [some (.ref 0), some (.int (nI 0)), some (.int (nI u))] [.int (nI 1)] σ5
          refine am_if (ty := 8) (tn := 11) rfl (by decide) rfl rfl (fun (h_101 : nI 1 = 0) => ?_) (fun (h_101 : ¬ (nI 1 = 0)) => ?_)
          · exact absurd h_101 (by decide)
          refine am_run 3 (pc' := 16) (ls' := [some (.ref 0), some (.int (nI 0)), some (.int (nI u))]) (st' := [.int (nI 255), .int (nI 0), .int (nI u)]) (σ' := σ5) rfl ?_
          refine am_invs (y := 148) (as := [.int (nI u), .int (nI 0), .int (nI 255)]) (rest := []) rfl rfl rfl rfl rfl rfl (Nat.le_of_ble_eq_true rfl) ?_
          refine c_in1 (by omega) (by omega) (by omega) (by omega) ?_
          show am_G _ M_X10_instant _ 19 [some (.ref 0), some (.int (nI 0)), some (.int (nI u))] [.int (nI 1)] σ5
          refine am_if (ty := 22) (tn := 25) rfl (by decide) rfl rfl (fun (h_102 : nI 1 = 0) => ?_) (fun (h_102 : ¬ (nI 1 = 0)) => ?_)
          · exact absurd h_102 (by decide)
          refine am_run 5 (pc' := 32) (ls' := [some (.ref 0), some (.int (nI 0)), some (.int (nI u))]) (st' := [.int (nI 0), .ref 17, .int (nI 0), .ref 0]) (σ' := σ5) rfl ?_
          refine am_ialdN (n := 2) (v := nI s) rfl rfl rfl (by decide) y17 (by decide) ?_
          refine am_run 1 (pc' := 34) (ls' := [some (.ref 0), some (.int (nI 0)), some (.int (nI u))]) (st' := [.int (nI u), .int (nI s), .int (nI 0), .ref 0]) (σ' := σ5) rfl ?_
          refine am_invv (y := 229) (b := 0) (as := [.int (nI 0), .int (nI s), .int (nI u)]) (rest := []) rfl rfl rfl rfl rfl rfl rfl (Nat.le_of_ble_eq_true rfl) ?_
          refine c_settles1 (by omega) hM5 hs hv.2 hu hz (fun σ6 hS i38 i39 i40 i41 i42 i43 i44 i29 => ?_)
          have z17 : σ6.1 17 0 = nI s := by rw [hS.1 17 (by decide) (by decide) (by decide) (by decide)]; exact y17
          have z19 : σ6.1 19 0 = nI m := by rw [hS.1 19 (by decide) (by decide) (by decide) (by decide)]; exact y19
          have z18 : ∀ k, σ6.1 18 k = σ.1 18 k := fun k => by rw [hS.1 18 (by decide) (by decide) (by decide) (by decide)]; exact y18 k
          show am_G _ M_X10_instant _ 37 [some (.ref 0), some (.int (nI 0)), some (.int (nI u))] [.int (nI 1)] σ6
          refine am_if (ty := 40) (tn := 44) rfl (by decide) rfl rfl (fun (h_103 : nI 1 = 0) => ?_) (fun (h_103 : ¬ (nI 1 = 0)) => ?_)
          · exact absurd h_103 (by decide)
          refine am_run 3 (pc' := 49) (ls' := [some (.ref 0), some (.int (nI 0)), some (.int (nI u))]) (st' := [.int (nI 0), .ref 19]) (σ' := σ6) rfl ?_
          refine am_ialdN (n := 2) (v := nI m) rfl rfl rfl (by decide) z19 (by decide) ?_
          refine am_run 1 (pc' := 52) (ls' := [some (.ref 0), some (.int (nI 0)), some (.int (nI u))]) (st' := [.int (nI 20), .int (nI m)]) (σ' := σ6) rfl ?_
          refine am_ic (ty := 55) (tn := 88) rfl (by decide) rfl rfl (fun (h_104 : nI m = nI 20) => ?_) (fun (h_104 : ¬ (nI m = nI 20)) => ?_)
          · have h_104 : m = 20 := (nI_eq (by omega) (by omega)).mp h_104
            omega
          have h_104 : ¬ (m = 20) := fun z => h_104 ((nI_eq (by omega) (by omega)).mpr z)
          refine am_run 5 (pc' := 96) (ls' := [some (.ref 0), some (.int (nI 0)), some (.int (nI u))]) (st' := [.int (nI 20 * nI 0), .ref 18]) (σ' := σ6) rfl ?_
          refine am_top (v' := nI 0) (am_nmul _ _) ?_
          refine am_run 3 (pc' := 101) (ls' := [some (.ref 0), some (.int (nI 0)), some (.int (nI u))]) (st' := [.int (nI 0), .ref 19, .int (nI 0), .ref 18]) (σ' := σ6) rfl ?_
          refine am_ialdN (n := 2) (v := nI m) rfl rfl rfl (by decide) z19 (by decide) ?_
          refine am_run 1 (pc' := 103) (ls' := [some (.ref 0), some (.int (nI 0)), some (.int (nI u))]) (st' := [.int (nI 0 + nI m), .ref 18]) (σ' := σ6) rfl ?_
          refine am_top (v' := nI (0 + m)) (nI_add _ _) ?_
          refine am_run 3 (pc' := 108) (ls' := [some (.ref 0), some (.int (nI 0)), some (.int (nI u))]) (st' := [.int (nI 0), .ref 17, .int (nI (0 + m)), .ref 18]) (σ' := σ6) rfl ?_
          refine am_ialdN (n := 2) (v := nI s) rfl rfl rfl (by decide) z17 (by decide) ?_
          refine am_iastN (n := 40) rfl rfl rfl (by omega) (by decide) ?_
          refine am_run 4 (pc' := 116) (ls' := [some (.ref 0), some (.int (nI 0)), some (.int (nI u))]) (st' := [.int (nI 0), .ref 19, .int (nI 0), .ref 19]) (σ' := (am_wr σ6 18 (0 + m) (nI s))) rfl ?_
          refine am_ialdN (n := 2) (v := nI m) rfl rfl rfl (by decide) z19 (by decide) ?_
          refine am_run 2 (pc' := 119) (ls' := [some (.ref 0), some (.int (nI 0)), some (.int (nI u))]) (st' := [.int (nI m + nI 1), .int (nI 0), .ref 19]) (σ' := (am_wr σ6 18 (0 + m) (nI s))) rfl ?_
          refine am_top (v' := nI (m + 1)) (nI_add _ _) ?_
          refine am_iastN (n := 2) rfl rfl rfl (by decide) (by decide) ?_
          refine am_run 5 (pc' := 129) (ls' := [some (.ref 0), some (.int (nI 0)), some (.int (nI u))]) (st' := [.int (σ6.1 0 44), .int (nI 0), .ref 17]) (σ' := (am_wr (am_wr σ6 18 (0 + m) (nI s)) 19 0 (nI (m + 1)))) rfl ?_
          refine am_top (v' := nI nx) i44 ?_
          refine am_iastN (n := 2) rfl rfl rfl (by decide) (by decide) ?_
          refine am_run 2 (pc' := 134) (ls' := [some (.ref 0), some (.int (nI 0)), some (.int (nI u))]) (st' := [.int (σ6.1 0 42)]) (σ' := (am_wr (am_wr (am_wr σ6 18 (0 + m) (nI s)) 19 0 (nI (m + 1))) 17 0 (nI nx))) rfl ?_
          refine am_top (v' := nI P) i42 ?_
          refine am_reti rfl rfl ?_
          have hJ6 : KJ σ (am_wr (am_wr (am_wr σ6 18 (0 + m) (nI s)) 19 0 (nI (m + 1))) 17 0 (nI nx)) 0 73 := ((((hJ5.tr (hS.KI.KJ (Or.inl rfl))).w18 (Or.inl rfl) (by omega) _).w19 (Or.inl rfl) _).w17 (Or.inl rfl) _)
          refine ⟨rfl, hI.hs (Or.inl ⟨rfl, rfl⟩) hJ6 hf hP (s := nx) (m := m + 1) ⟨by show σ6.1 73 3 = _; rw [hS.1 73 (by decide) (by decide) (by decide) (by decide)]; exact x3, rfl, hnv, by show σ6.1 73 4 = _; rw [hS.1 73 (by decide) (by decide) (by decide) (by decide)]; exact x4, rfl, by omega, fun i hi => ?_⟩⟩
          by_cases e : i = m
          · subst e
            exact ⟨s, by show σ6.1 74 i = _; rw [hS.1 74 (by decide) (by decide) (by decide) (by decide)]; exact x6, by show (am_wr σ6 18 (0 + i) (nI s)).1 18 (0 + i) = _; exact am_same _ _ _ _, hv⟩
          · obtain ⟨s1, e1, e2, e3⟩ := hh i (by omega)
            refine ⟨s1, by show σ6.1 74 i = _; rw [hS.1 74 (by decide) (by decide) (by decide) (by decide), x5 i (by omega)]; exact e1, ?_, e3⟩
            show (am_wr σ6 18 (0 + m) (nI s)).1 18 (0 + i) = _
            rw [am_diff _ _ _ _ _ (by omega), z18]
            exact e2
      · refine ⟨-1000003, ?_⟩
        refine am_enter' (M := M_X9_instant) rfl rfl rfl (by omega) (ls := [some (.ref 41), some (.int (nI 0)), some (.int (nI u)), none]) rfl (fun d' hd' => ?_)
        refine am_run 2 (pc' := 2) (ls' := [some (.ref 41), some (.int (nI 0)), some (.int (nI u)), none]) (st' := [.int (nI 0), .ref 41]) (σ' := σ) rfl ?_
        refine am_invv (y := 140) (b := 41) (as := [.int (nI 0)]) (rest := []) rfl rfl rfl rfl rfl rfl rfl (Nat.le_of_ble_eq_true rfl) ?_
        refine c_filled0_1 (by omega) hf ?_
        show am_G _ M_X9_instant _ 5 [some (.ref 41), some (.int (nI 0)), some (.int (nI u)), none] [.ref 73] σ
        refine am_run 4 (pc' := 14) (ls' := [some (.ref 41), some (.int (nI 0)), some (.int (nI u)), some (.ref 73)]) (st' := [.int (nI u)]) (σ' := σ) rfl ?_
        refine am_invs (y := 141) (as := [.int (nI u)]) (rest := []) rfl rfl rfl rfl rfl rfl (Nat.le_of_ble_eq_true rfl) ?_
        refine c_sig1 (by omega) (by omega) ?_
        show am_G _ M_X9_instant _ 17 [some (.ref 41), some (.int (nI 0)), some (.int (nI u)), some (.ref 73)] [.int (nI 1)] σ
        refine am_if (ty := 20) (tn := 23) rfl (by decide) rfl rfl (fun (h_1 : nI 1 = 0) => ?_) (fun (h_1 : ¬ (nI 1 = 0)) => ?_)
        · exact absurd h_1 (by decide)
        refine am_run 3 (pc' := 28) (ls' := [some (.ref 41), some (.int (nI 0)), some (.int (nI u)), some (.ref 73)]) (st' := [.ref 73, .ref 77]) (σ' := σ) rfl ?_
        refine am_invv (y := 66) (b := 73) (as := []) (rest := [.ref 77]) rfl rfl rfl rfl rfl rfl rfl (Nat.le_of_ble_eq_true rfl) ?_
        refine am_enter' rfl rfl rfl (by omega) (ls := [some (.ref 73)]) rfl (fun d_2 hd_2 => ?_)
        refine am_run 2 (pc' := 4) (ls' := [some (.ref 73)]) (st' := [.ref (σ.2 73 1)]) (σ' := σ) rfl ?_
        refine am_reta rfl rfl (Or.inr ⟨_, rfl⟩) ?_
        show am_G _ M_X9_instant _ 31 [some (.ref 41), some (.int (nI 0)), some (.int (nI u)), some (.ref 73)] [.ref (σ.2 73 1), .ref 77] σ
        refine am_run 1 (pc' := 32) (ls' := [some (.ref 41), some (.int (nI 0)), some (.int (nI u)), some (.ref 73)]) (st' := [.ref 73, .ref (σ.2 73 1), .ref 77]) (σ' := σ) rfl ?_
        refine am_invv (y := 67) (b := 73) (as := []) (rest := [.ref (σ.2 73 1), .ref 77]) rfl rfl rfl rfl rfl rfl rfl (Nat.le_of_ble_eq_true rfl) ?_
        refine am_enter' rfl rfl rfl (by omega) (ls := [some (.ref 73)]) rfl (fun d_3 hd_3 => ?_)
        refine am_run 2 (pc' := 4) (ls' := [some (.ref 73)]) (st' := [.int (σ.1 73 3)]) (σ' := σ) rfl ?_
        refine am_top (v' := nI s) a3 ?_
        refine am_reti rfl rfl ?_
        show am_G _ M_X9_instant _ 35 [some (.ref 41), some (.int (nI 0)), some (.int (nI u)), some (.ref 73)] [.int (nI s), .ref (σ.2 73 1), .ref 77] σ
        refine am_run 1 (pc' := 36) (ls' := [some (.ref 41), some (.int (nI 0)), some (.int (nI u)), some (.ref 73)]) (st' := [.int (nI u), .int (nI s), .ref (σ.2 73 1), .ref 77]) (σ' := σ) rfl ?_
        refine am_invv (y := 56) (b := 77) (as := [.ref (σ.2 73 1), .int (nI s), .int (nI u)]) (rest := []) rfl rfl rfl rfl rfl rfl rfl (Nat.le_of_ble_eq_true rfl) ?_
        refine c_determine (by omega) hW hR (show r + 1 ≤ n by omega) hro (Or.inl rfl) hs hu (fun σ2 hK hO => ?_)
        rw [hz] at hO
        obtain ⟨o0, o1, o2, o3, o4⟩ : σ2.1 77 0 = nI (P + 256 * A) ∧ σ2.1 77 1 = nI w ∧ σ2.1 77 2 = nI c ∧ σ2.1 77 3 = nI nx ∧ σ2.1 77 4 = nI rd := hO
        have hM2 := hM.keep2 (σ' := σ2) (fun c a => hK.1 c (by omega))
        have b32 : σ2.1 17 0 = nI s := by rw [hK.1 17 (by decide)]; exact b3
        have hn22 : σ2.1 2 0 = nI n := hM2.1.2.2.2.1
        show am_G _ M_X9_instant _ 39 [some (.ref 41), some (.int (nI 0)), some (.int (nI u)), some (.ref 73)] [] σ2
        refine am_run 2 (pc' := 43) (ls' := [some (.ref 41), some (.int (nI 0)), some (.int (nI u)), some (.ref 73)]) (st' := [.ref 77]) (σ' := σ2) rfl ?_
        refine am_invv (y := 52) (b := 77) (as := []) (rest := []) rfl rfl rfl rfl rfl rfl rfl (Nat.le_of_ble_eq_true rfl) ?_
        refine am_enter' rfl rfl rfl (by omega) (ls := [some (.ref 77)]) rfl (fun d_4 hd_4 => ?_)
        refine am_run 2 (pc' := 4) (ls' := [some (.ref 77)]) (st' := [.int (σ2.1 77 1)]) (σ' := σ2) rfl ?_
        refine am_top (v' := nI w) o1 ?_
        refine am_if (ty := 11) (tn := 7) rfl (by decide) rfl rfl (fun (h_5 : nI w = 0) => ?_) (fun (h_5 : ¬ (nI w = 0)) => ?_)
        · have h_5 : w = 0 := (am_n0 (by omega)).mp h_5
          omega
        have h_5 : ¬ (w = 0) := fun z => h_5 ((am_n0 (by omega)).mpr z)
        refine am_run 2 (pc' := 12) (ls' := [some (.ref 77)]) (st' := [.int (nI 1)]) (σ' := σ2) rfl ?_
        refine am_retz rfl rfl (by decide) ?_
        show am_G _ M_X9_instant _ 46 [some (.ref 41), some (.int (nI 0)), some (.int (nI u)), some (.ref 73)] [.int (nI 1)] σ2
        refine am_if (ty := 52) (tn := 49) rfl (by decide) rfl rfl (fun (h_6 : nI 1 = 0) => ?_) (fun (h_6 : ¬ (nI 1 = 0)) => ?_)
        · exact absurd h_6 (by decide)
        refine am_run 1 (pc' := 51) (ls' := [some (.ref 41), some (.int (nI 0)), some (.int (nI u)), some (.ref 73)]) (st' := [.int (-1000003)]) (σ' := σ2) rfl ?_
        refine am_reti rfl rfl ?_
        refine ⟨rfl, ?_⟩
        refine am_enter' (M := M_X10_instant) rfl rfl rfl (by omega) (ls := [some (.ref 0), some (.int (nI 0)), some (.int (nI u))]) rfl (fun d2 hd2 => ?_)
        refine am_run 2 (pc' := 2) (ls' := [some (.ref 0), some (.int (nI 0)), some (.int (nI u))]) (st' := [.int (nI 0), .ref 0]) (σ' := σ2) rfl ?_
        refine am_invv (y := 151) (b := 0) (as := [.int (nI 0)]) (rest := []) rfl rfl rfl rfl rfl rfl rfl (Nat.le_of_ble_eq_true rfl) ?_
        refine c_prog0_1 (by omega) (n := n) (by exact hn22) hn1 hn60 ?_
        show am_G _ M_X10_instant _ 5 [some (.ref 0), some (.int (nI 0)), some (.int (nI u))] [.int (nI 1)] σ2
        refine am_if (ty := 8) (tn := 11) rfl (by decide) rfl rfl (fun (h_101 : nI 1 = 0) => ?_) (fun (h_101 : ¬ (nI 1 = 0)) => ?_)
        · exact absurd h_101 (by decide)
        refine am_run 3 (pc' := 16) (ls' := [some (.ref 0), some (.int (nI 0)), some (.int (nI u))]) (st' := [.int (nI 255), .int (nI 0), .int (nI u)]) (σ' := σ2) rfl ?_
        refine am_invs (y := 148) (as := [.int (nI u), .int (nI 0), .int (nI 255)]) (rest := []) rfl rfl rfl rfl rfl rfl (Nat.le_of_ble_eq_true rfl) ?_
        refine c_in1 (by omega) (by omega) (by omega) (by omega) ?_
        show am_G _ M_X10_instant _ 19 [some (.ref 0), some (.int (nI 0)), some (.int (nI u))] [.int (nI 1)] σ2
        refine am_if (ty := 22) (tn := 25) rfl (by decide) rfl rfl (fun (h_102 : nI 1 = 0) => ?_) (fun (h_102 : ¬ (nI 1 = 0)) => ?_)
        · exact absurd h_102 (by decide)
        refine am_run 5 (pc' := 32) (ls' := [some (.ref 0), some (.int (nI 0)), some (.int (nI u))]) (st' := [.int (nI 0), .ref 17, .int (nI 0), .ref 0]) (σ' := σ2) rfl ?_
        refine am_ialdN (n := 2) (v := nI s) rfl rfl rfl (by decide) b32 (by decide) ?_
        refine am_run 1 (pc' := 34) (ls' := [some (.ref 0), some (.int (nI 0)), some (.int (nI u))]) (st' := [.int (nI u), .int (nI s), .int (nI 0), .ref 0]) (σ' := σ2) rfl ?_
        refine am_invv (y := 229) (b := 0) (as := [.int (nI 0), .int (nI s), .int (nI u)]) (rest := []) rfl rfl rfl rfl rfl rfl rfl (Nat.le_of_ble_eq_true rfl) ?_
        refine c_settles0 (by omega) hM2 hs hv.2 hu hz hw0 (fun σ3 hS i38 i39 i40 i41 i29 => ?_)
        show am_G _ M_X10_instant _ 37 [some (.ref 0), some (.int (nI 0)), some (.int (nI u))] [.int (nI 0)] σ3
        refine am_if (ty := 40) (tn := 44) rfl (by decide) rfl rfl (fun (h_103 : nI 0 = 0) => ?_) (fun (h_103 : ¬ (nI 0 = 0)) => ?_)
        rotate_left
        · exact absurd (by decide) h_103
        refine am_run 1 (pc' := 43) (ls' := [some (.ref 0), some (.int (nI 0)), some (.int (nI u))]) (st' := [.int (-1000003)]) (σ' := σ3) rfl ?_
        refine am_reti rfl rfl ?_
        exact ⟨rfl, ((hK.KI (Or.inl rfl)).tr hS.KI).inv hI⟩
    · refine ⟨-1000002, ?_⟩
      refine am_enter' (M := M_X9_instant) rfl rfl rfl (by omega) (ls := [some (.ref 41), some (.int (nI 0)), some (.int y), none]) rfl (fun d' hd' => ?_)
      refine am_run 2 (pc' := 2) (ls' := [some (.ref 41), some (.int (nI 0)), some (.int y), none]) (st' := [.int (nI 0), .ref 41]) (σ' := σ) rfl ?_
      refine am_invv (y := 140) (b := 41) (as := [.int (nI 0)]) (rest := []) rfl rfl rfl rfl rfl rfl rfl (Nat.le_of_ble_eq_true rfl) ?_
      refine c_filled0_1 (by omega) hf ?_
      show am_G _ M_X9_instant _ 5 [some (.ref 41), some (.int (nI 0)), some (.int y), none] [.ref 73] σ
      refine am_run 4 (pc' := 14) (ls' := [some (.ref 41), some (.int (nI 0)), some (.int y), some (.ref 73)]) (st' := [.int y]) (σ' := σ) rfl ?_
      refine am_invs (y := 141) (as := [.int y]) (rest := []) rfl rfl rfl rfl rfl rfl (Nat.le_of_ble_eq_true rfl) ?_
      refine c_sig0 (by omega) hy ?_
      show am_G _ M_X9_instant _ 17 [some (.ref 41), some (.int (nI 0)), some (.int y), some (.ref 73)] [.int (nI 0)] σ
      refine am_if (ty := 20) (tn := 23) rfl (by decide) rfl rfl (fun (h_1 : nI 0 = 0) => ?_) (fun (h_1 : ¬ (nI 0 = 0)) => ?_)
      rotate_left
      · exact absurd (by decide) h_1
      refine am_run 1 (pc' := 22) (ls' := [some (.ref 41), some (.int (nI 0)), some (.int y), some (.ref 73)]) (st' := [.int (-1000002)]) (σ' := σ) rfl ?_
      refine am_reti rfl rfl ?_
      refine ⟨rfl, ?_⟩
      refine am_enter' (M := M_X10_instant) rfl rfl rfl (by omega) (ls := [some (.ref 0), some (.int (nI 0)), some (.int y)]) rfl (fun d2 hd2 => ?_)
      refine am_run 2 (pc' := 2) (ls' := [some (.ref 0), some (.int (nI 0)), some (.int y)]) (st' := [.int (nI 0), .ref 0]) (σ' := σ) rfl ?_
      refine am_invv (y := 151) (b := 0) (as := [.int (nI 0)]) (rest := []) rfl rfl rfl rfl rfl rfl rfl (Nat.le_of_ble_eq_true rfl) ?_
      refine c_prog0_1 (by omega) (n := n) (by exact hn2) hn1 hn60 ?_
      show am_G _ M_X10_instant _ 5 [some (.ref 0), some (.int (nI 0)), some (.int y)] [.int (nI 1)] σ
      refine am_if (ty := 8) (tn := 11) rfl (by decide) rfl rfl (fun (h_101 : nI 1 = 0) => ?_) (fun (h_101 : ¬ (nI 1 = 0)) => ?_)
      · exact absurd h_101 (by decide)
      refine am_run 3 (pc' := 16) (ls' := [some (.ref 0), some (.int (nI 0)), some (.int y)]) (st' := [.int (nI 255), .int (nI 0), .int y]) (σ' := σ) rfl ?_
      refine am_invs (y := 148) (as := [.int y, .int (nI 0), .int (nI 255)]) (rest := []) rfl rfl rfl rfl rfl rfl (Nat.le_of_ble_eq_true rfl) ?_
      refine c_in0 (by omega) hy ?_
      show am_G _ M_X10_instant _ 19 [some (.ref 0), some (.int (nI 0)), some (.int y)] [.int (nI 0)] σ
      refine am_if (ty := 22) (tn := 25) rfl (by decide) rfl rfl (fun (h_102 : nI 0 = 0) => ?_) (fun (h_102 : ¬ (nI 0 = 0)) => ?_)
      rotate_left
      · exact absurd (by decide) h_102
      refine am_run 1 (pc' := 24) (ls' := [some (.ref 0), some (.int (nI 0)), some (.int y)]) (st' := [.int (-1000002)]) (σ' := σ) rfl ?_
      refine am_reti rfl rfl ?_
      exact ⟨rfl, hI⟩
  · obtain ⟨hf, p, n, r, kk, rk, od, dp, ow, s, m, hP, hH⟩ := hF
    obtain ⟨hn1, hR, hro, hM, hk1, hk2, hkk, hND⟩ := id hP
    obtain ⟨a3, b3, hv, a4, b4, hm, hh⟩ := id hH
    have hW := hM.1.2.1
    have hn60 := hW.1
    have hs := hv.1
    have hrn : r < n := hM.2.1.2.1
    have hn2 := hM.1.2.2.2.1
    rcases i32_in y (k := 255) (by decide) with ⟨u, hu0, rfl⟩ | hy
    · have hu : u < 256 := by omega
      obtain ⟨b1, b2, b3_, b4_, b5_, b6_⟩ := oc_b (s := s) hW (show r + 1 ≤ n by omega) hu
      have hnv := oc_vs hM s hu
      generalize hz : oc p (r + 1) s u = z0 at b1 b2 b3_ b4_ b5_ b6_ hnv
      obtain ⟨P, A, w, c, nx, rd⟩ := z0
      have b1 : P < 256 := b1
      have b2 : A < 256 := b2
      have b3_ : w ≤ 256 := b3_
      have b4_ : c ≤ 6 := b4_
      have b5_ : nx < 1048576 := b5_
      have b6_ : rd ≤ 9 := b6_
      have hnv : VS p r nx := hnv
      by_cases hw0 : w = 0
      · subst hw0
        by_cases hm20 : m = 20
        · subst hm20
          refine ⟨nI P, ?_⟩
          refine am_enter' (M := M_X9_instant) rfl rfl rfl (by omega) (ls := [some (.ref 41), some (.int (nI 1)), some (.int (nI u)), none]) rfl (fun d' hd' => ?_)
          refine am_run 2 (pc' := 2) (ls' := [some (.ref 41), some (.int (nI 1)), some (.int (nI u)), none]) (st' := [.int (nI 1), .ref 41]) (σ' := σ) rfl ?_
          refine am_invv (y := 140) (b := 41) (as := [.int (nI 1)]) (rest := []) rfl rfl rfl rfl rfl rfl rfl (Nat.le_of_ble_eq_true rfl) ?_
          refine c_filled1_1 (by omega) hf ?_
          show am_G _ M_X9_instant _ 5 [some (.ref 41), some (.int (nI 1)), some (.int (nI u)), none] [.ref 75] σ
          refine am_run 4 (pc' := 14) (ls' := [some (.ref 41), some (.int (nI 1)), some (.int (nI u)), some (.ref 75)]) (st' := [.int (nI u)]) (σ' := σ) rfl ?_
          refine am_invs (y := 141) (as := [.int (nI u)]) (rest := []) rfl rfl rfl rfl rfl rfl (Nat.le_of_ble_eq_true rfl) ?_
          refine c_sig1 (by omega) (by omega) ?_
          show am_G _ M_X9_instant _ 17 [some (.ref 41), some (.int (nI 1)), some (.int (nI u)), some (.ref 75)] [.int (nI 1)] σ
          refine am_if (ty := 20) (tn := 23) rfl (by decide) rfl rfl (fun (h_1 : nI 1 = 0) => ?_) (fun (h_1 : ¬ (nI 1 = 0)) => ?_)
          · exact absurd h_1 (by decide)
          refine am_run 3 (pc' := 28) (ls' := [some (.ref 41), some (.int (nI 1)), some (.int (nI u)), some (.ref 75)]) (st' := [.ref 75, .ref 77]) (σ' := σ) rfl ?_
          refine am_invv (y := 66) (b := 75) (as := []) (rest := [.ref 77]) rfl rfl rfl rfl rfl rfl rfl (Nat.le_of_ble_eq_true rfl) ?_
          refine am_enter' rfl rfl rfl (by omega) (ls := [some (.ref 75)]) rfl (fun d_2 hd_2 => ?_)
          refine am_run 2 (pc' := 4) (ls' := [some (.ref 75)]) (st' := [.ref (σ.2 75 1)]) (σ' := σ) rfl ?_
          refine am_reta rfl rfl (Or.inr ⟨_, rfl⟩) ?_
          show am_G _ M_X9_instant _ 31 [some (.ref 41), some (.int (nI 1)), some (.int (nI u)), some (.ref 75)] [.ref (σ.2 75 1), .ref 77] σ
          refine am_run 1 (pc' := 32) (ls' := [some (.ref 41), some (.int (nI 1)), some (.int (nI u)), some (.ref 75)]) (st' := [.ref 75, .ref (σ.2 75 1), .ref 77]) (σ' := σ) rfl ?_
          refine am_invv (y := 67) (b := 75) (as := []) (rest := [.ref (σ.2 75 1), .ref 77]) rfl rfl rfl rfl rfl rfl rfl (Nat.le_of_ble_eq_true rfl) ?_
          refine am_enter' rfl rfl rfl (by omega) (ls := [some (.ref 75)]) rfl (fun d_3 hd_3 => ?_)
          refine am_run 2 (pc' := 4) (ls' := [some (.ref 75)]) (st' := [.int (σ.1 75 3)]) (σ' := σ) rfl ?_
          refine am_top (v' := nI s) a3 ?_
          refine am_reti rfl rfl ?_
          show am_G _ M_X9_instant _ 35 [some (.ref 41), some (.int (nI 1)), some (.int (nI u)), some (.ref 75)] [.int (nI s), .ref (σ.2 75 1), .ref 77] σ
          refine am_run 1 (pc' := 36) (ls' := [some (.ref 41), some (.int (nI 1)), some (.int (nI u)), some (.ref 75)]) (st' := [.int (nI u), .int (nI s), .ref (σ.2 75 1), .ref 77]) (σ' := σ) rfl ?_
          refine am_invv (y := 56) (b := 77) (as := [.ref (σ.2 75 1), .int (nI s), .int (nI u)]) (rest := []) rfl rfl rfl rfl rfl rfl rfl (Nat.le_of_ble_eq_true rfl) ?_
          refine c_determine (by omega) hW hR (show r + 1 ≤ n by omega) hro (Or.inl rfl) hs hu (fun σ2 hK hO => ?_)
          rw [hz] at hO
          obtain ⟨o0, o1, o2, o3, o4⟩ : σ2.1 77 0 = nI (P + 256 * A) ∧ σ2.1 77 1 = nI 0 ∧ σ2.1 77 2 = nI c ∧ σ2.1 77 3 = nI nx ∧ σ2.1 77 4 = nI rd := hO
          have hM2 := hM.keep2 (σ' := σ2) (fun c a => hK.1 c (by omega))
          have b32 : σ2.1 17 1 = nI s := by rw [hK.1 17 (by decide)]; exact b3
          have hn22 : σ2.1 2 1 = nI n := hM2.1.2.2.2.1
          have a32 : σ2.1 75 3 = nI s := by rw [hK.1 75 (by decide)]; exact a3
          have a42 : σ2.1 75 4 = nI 20 := by rw [hK.1 75 (by decide)]; exact a4
          show am_G _ M_X9_instant _ 39 [some (.ref 41), some (.int (nI 1)), some (.int (nI u)), some (.ref 75)] [] σ2
          refine am_run 2 (pc' := 43) (ls' := [some (.ref 41), some (.int (nI 1)), some (.int (nI u)), some (.ref 75)]) (st' := [.ref 77]) (σ' := σ2) rfl ?_
          refine am_invv (y := 52) (b := 77) (as := []) (rest := []) rfl rfl rfl rfl rfl rfl rfl (Nat.le_of_ble_eq_true rfl) ?_
          refine am_enter' rfl rfl rfl (by omega) (ls := [some (.ref 77)]) rfl (fun d_4 hd_4 => ?_)
          refine am_run 2 (pc' := 4) (ls' := [some (.ref 77)]) (st' := [.int (σ2.1 77 1)]) (σ' := σ2) rfl ?_
          refine am_top (v' := nI 0) o1 ?_
          refine am_if (ty := 11) (tn := 7) rfl (by decide) rfl rfl (fun (h_5 : nI 0 = 0) => ?_) (fun (h_5 : ¬ (nI 0 = 0)) => ?_)
          rotate_left
          · exact absurd (by decide) h_5
          refine am_run 1 (pc' := 12) (ls' := [some (.ref 77)]) (st' := [.int (nI 0)]) (σ' := σ2) rfl ?_
          refine am_retz rfl rfl (by decide) ?_
          show am_G _ M_X9_instant _ 46 [some (.ref 41), some (.int (nI 1)), some (.int (nI u)), some (.ref 75)] [.int (nI 0)] σ2
          refine am_if (ty := 52) (tn := 49) rfl (by decide) rfl rfl (fun (h_6 : nI 0 = 0) => ?_) (fun (h_6 : ¬ (nI 0 = 0)) => ?_)
          rotate_left
          · exact absurd (by decide) h_6
          refine am_run 3 (pc' := 57) (ls' := [some (.ref 41), some (.int (nI 1)), some (.int (nI u)), some (.ref 75)]) (st' := [.ref 77, .ref 75]) (σ' := σ2) rfl ?_
          refine am_invv (y := 54) (b := 77) (as := []) (rest := [.ref 75]) rfl rfl rfl rfl rfl rfl rfl (Nat.le_of_ble_eq_true rfl) ?_
          refine am_enter' rfl rfl rfl (by omega) (ls := [some (.ref 77)]) rfl (fun d_7 hd_7 => ?_)
          refine am_run 2 (pc' := 4) (ls' := [some (.ref 77)]) (st' := [.int (σ2.1 77 3)]) (σ' := σ2) rfl ?_
          refine am_top (v' := nI nx) o3 ?_
          refine am_reti rfl rfl ?_
          show am_G _ M_X9_instant _ 60 [some (.ref 41), some (.int (nI 1)), some (.int (nI u)), some (.ref 75)] [.int (nI nx), .ref 75] σ2
          refine am_invv (y := 71) (b := 75) (as := [.int (nI nx)]) (rest := []) rfl rfl rfl rfl rfl rfl rfl (Nat.le_of_ble_eq_true rfl) ?_
          refine am_enter' rfl rfl rfl (by omega) (ls := [some (.ref 75), some (.int (nI nx))]) rfl (fun d_8 hd_8 => ?_)
          refine am_run 2 (pc' := 4) (ls' := [some (.ref 75), some (.int (nI nx))]) (st' := [.int (σ2.1 75 4)]) (σ' := σ2) rfl ?_
          refine am_top (v' := nI 20) a42 ?_
          refine am_run 1 (pc' := 6) (ls' := [some (.ref 75), some (.int (nI nx))]) (st' := [.int (nI 20), .int (nI 20)]) (σ' := σ2) rfl ?_
          refine am_ic (ty := 30) (tn := 9) rfl (by decide) rfl rfl (fun (h_9 : nI 20 < nI 20) => ?_) (fun (h_9 : ¬ (nI 20 < nI 20)) => ?_)
          · exact absurd h_9 (by decide)
          refine am_run 7 (pc' := 21) (ls' := [some (.ref 75), some (.int (nI nx))]) (st' := [.int (nI 19), .int (nI 0), .ref 76, .int (nI 1), .ref 76]) (σ' := σ2) rfl ?_
          refine am_cps rfl rfl rfl rfl (by decide) (by decide) (by decide) (by decide) (by decide) (Nat.le_of_ble_eq_true rfl) ?_
          refine am_run 0 (pc' := 24) (ls' := [some (.ref 75), some (.int (nI nx))]) (st' := []) (σ' := (am_cp σ2 76 76 1 0 19)) rfl ?_
          refine am_run 5 (pc' := 34) (ls' := [some (.ref 75), some (.int (nI nx))]) (st' := [.int (nI 19)]) (σ' := (am_wr (am_cp σ2 76 76 1 0 19) 75 4 (nI 19))) rfl ?_
          refine am_if (ty := 60) (tn := 37) rfl (by decide) rfl rfl (fun (h_10 : nI 19 < 0) => ?_) (fun (h_10 : ¬ (nI 19 < 0)) => ?_)
          · exact absurd h_10 (by decide)
          refine am_run 6 (pc' := 49) (ls' := [some (.ref 75), some (.int (nI nx))]) (st' := [.int (σ2.1 75 3), .int (nI 19), .ref 76]) (σ' := (am_wr (am_cp σ2 76 76 1 0 19) 75 4 (nI 19))) rfl ?_
          refine am_top (v' := nI s) a32 ?_
          refine am_iastN (n := 20) rfl rfl rfl (by decide) (by decide) ?_
          refine am_run 5 (pc' := 57) (ls' := [some (.ref 75), some (.int (nI nx))]) (st' := [.int (nI 19 + nI 1), .ref 75]) (σ' := (am_wr (am_wr (am_cp σ2 76 76 1 0 19) 75 4 (nI 19)) 76 19 (nI s))) rfl ?_
          refine am_top (v' := nI 20) (nI_add _ _) ?_
          refine am_run 4 (pc' := 65) (ls' := [some (.ref 75), some (.int (nI nx))]) (st' := []) (σ' := (am_wr (am_wr (am_wr (am_wr (am_cp σ2 76 76 1 0 19) 75 4 (nI 19)) 76 19 (nI s)) 75 4 (nI 20)) 75 3 (nI nx))) rfl ?_
          refine am_retv rfl rfl ?_
          show am_G _ M_X9_instant _ 63 [some (.ref 41), some (.int (nI 1)), some (.int (nI u)), some (.ref 75)] [] (am_wr (am_wr (am_wr (am_wr (am_cp σ2 76 76 1 0 19) 75 4 (nI 19)) 76 19 (nI s)) 75 4 (nI 20)) 75 3 (nI nx))
          refine am_run 2 (pc' := 67) (ls' := [some (.ref 41), some (.int (nI 1)), some (.int (nI u)), some (.ref 75)]) (st' := [.ref 77]) (σ' := (am_wr (am_wr (am_wr (am_wr (am_cp σ2 76 76 1 0 19) 75 4 (nI 19)) 76 19 (nI s)) 75 4 (nI 20)) 75 3 (nI nx))) rfl ?_
          refine am_invv (y := 50) (b := 77) (as := []) (rest := []) rfl rfl rfl rfl rfl rfl rfl (Nat.le_of_ble_eq_true rfl) ?_
          refine c_o_present (by omega) (Or.inl rfl) b1 (by exact o0) ?_
          show am_G _ M_X9_instant _ 70 [some (.ref 41), some (.int (nI 1)), some (.int (nI u)), some (.ref 75)] [.int (nI P)] (am_wr (am_wr (am_wr (am_wr (am_cp σ2 76 76 1 0 19) 75 4 (nI 19)) 76 19 (nI s)) 75 4 (nI 20)) 75 3 (nI nx))
          refine am_reti rfl rfl ?_
          refine ⟨rfl, ?_⟩
          have hJ5 : KJ σ (am_wr (am_wr (am_wr (am_wr (am_cp σ2 76 76 1 0 19) 75 4 (nI 19)) 76 19 (nI s)) 75 4 (nI 20)) 75 3 (nI nx)) 1 75 := (((((((hK.KI (Or.inl rfl)).KJ (Or.inr rfl)).cB (Or.inr rfl) _ _ _).w3 (Or.inr rfl) (by decide) _).wB (Or.inr rfl) _ _).w3 (Or.inr rfl) (by decide) _).w3 (Or.inr rfl) (by decide) _)
          have hM5 : MI (am_wr (am_wr (am_wr (am_wr (am_cp σ2 76 76 1 0 19) 75 4 (nI 19)) 76 19 (nI s)) 75 4 (nI 20)) 75 3 (nI nx)) 1 p n r rk od dp ow := hM.keep2 (fun c a => by rw [am_wr_ne _ (by omega), am_wr_ne _ (by omega), am_wr_ne _ (by omega), am_wr_ne _ (by omega), show (am_cp σ2 76 76 1 0 19).1 c = σ2.1 c from if_neg (by omega), hK.1 c (by omega)])
          have x3 : (am_wr (am_wr (am_wr (am_wr (am_cp σ2 76 76 1 0 19) 75 4 (nI 19)) 76 19 (nI s)) 75 4 (nI 20)) 75 3 (nI nx)).1 75 3 = nI nx := rfl
          have x4 : (am_wr (am_wr (am_wr (am_wr (am_cp σ2 76 76 1 0 19) 75 4 (nI 19)) 76 19 (nI s)) 75 4 (nI 20)) 75 3 (nI nx)).1 75 4 = nI 20 := rfl
          have y17 : (am_wr (am_wr (am_wr (am_wr (am_cp σ2 76 76 1 0 19) 75 4 (nI 19)) 76 19 (nI s)) 75 4 (nI 20)) 75 3 (nI nx)).1 17 1 = nI s := b32
          have y19 : (am_wr (am_wr (am_wr (am_wr (am_cp σ2 76 76 1 0 19) 75 4 (nI 19)) 76 19 (nI s)) 75 4 (nI 20)) 75 3 (nI nx)).1 19 1 = nI 20 := by show σ2.1 19 1 = _; rw [hK.1 19 (by decide)]; exact b4
          have y18 : ∀ k, (am_wr (am_wr (am_wr (am_wr (am_cp σ2 76 76 1 0 19) 75 4 (nI 19)) 76 19 (nI s)) 75 4 (nI 20)) 75 3 (nI nx)).1 18 k = σ.1 18 k := fun k => by show σ2.1 18 k = _; rw [hK.1 18 (by decide)]
          have x5 : ∀ i, i < 19 → (am_wr (am_wr (am_wr (am_wr (am_cp σ2 76 76 1 0 19) 75 4 (nI 19)) 76 19 (nI s)) 75 4 (nI 20)) 75 3 (nI nx)).1 76 i = σ.1 76 (i + 1) := fun i hi => by
            show (am_wr (am_wr (am_cp σ2 76 76 1 0 19) 75 4 (nI 19)) 76 19 (nI s)).1 76 i = _
            rw [am_diff _ _ _ _ _ (by omega), am_wr_ne _ (by decide), am_cpr i (by omega), hK.1 76 (by decide), show 1 + (i - 0) = i + 1 by omega]
          have x6 : (am_wr (am_wr (am_wr (am_wr (am_cp σ2 76 76 1 0 19) 75 4 (nI 19)) 76 19 (nI s)) 75 4 (nI 20)) 75 3 (nI nx)).1 76 19 = nI s := rfl
          generalize (am_wr (am_wr (am_wr (am_wr (am_cp σ2 76 76 1 0 19) 75 4 (nI 19)) 76 19 (nI s)) 75 4 (nI 20)) 75 3 (nI nx)) = σ5 at hJ5 hM5 x3 x4 y17 y19 y18 x5 x6 ⊢
          have hn25 := hM5.1.2.2.2.1
          refine am_enter' (M := M_X10_instant) rfl rfl rfl (by omega) (ls := [some (.ref 0), some (.int (nI 1)), some (.int (nI u))]) rfl (fun d2 hd2 => ?_)
          refine am_run 2 (pc' := 2) (ls' := [some (.ref 0), some (.int (nI 1)), some (.int (nI u))]) (st' := [.int (nI 1), .ref 0]) (σ' := σ5) rfl ?_
          refine am_invv (y := 151) (b := 0) (as := [.int (nI 1)]) (rest := []) rfl rfl rfl rfl rfl rfl rfl (Nat.le_of_ble_eq_true rfl) ?_
          refine c_prog1_1 (by omega) (n := n) (by exact hn25) hn1 hn60 ?_
          show am_G _ M_X10_instant _ 5 [some (.ref 0), some (.int (nI 1)), some (.int (nI u))] [.int (nI 1)] σ5
          refine am_if (ty := 8) (tn := 11) rfl (by decide) rfl rfl (fun (h_101 : nI 1 = 0) => ?_) (fun (h_101 : ¬ (nI 1 = 0)) => ?_)
          · exact absurd h_101 (by decide)
          refine am_run 3 (pc' := 16) (ls' := [some (.ref 0), some (.int (nI 1)), some (.int (nI u))]) (st' := [.int (nI 255), .int (nI 0), .int (nI u)]) (σ' := σ5) rfl ?_
          refine am_invs (y := 148) (as := [.int (nI u), .int (nI 0), .int (nI 255)]) (rest := []) rfl rfl rfl rfl rfl rfl (Nat.le_of_ble_eq_true rfl) ?_
          refine c_in1 (by omega) (by omega) (by omega) (by omega) ?_
          show am_G _ M_X10_instant _ 19 [some (.ref 0), some (.int (nI 1)), some (.int (nI u))] [.int (nI 1)] σ5
          refine am_if (ty := 22) (tn := 25) rfl (by decide) rfl rfl (fun (h_102 : nI 1 = 0) => ?_) (fun (h_102 : ¬ (nI 1 = 0)) => ?_)
          · exact absurd h_102 (by decide)
          refine am_run 5 (pc' := 32) (ls' := [some (.ref 0), some (.int (nI 1)), some (.int (nI u))]) (st' := [.int (nI 1), .ref 17, .int (nI 1), .ref 0]) (σ' := σ5) rfl ?_
          refine am_ialdN (n := 2) (v := nI s) rfl rfl rfl (by decide) y17 (by decide) ?_
          refine am_run 1 (pc' := 34) (ls' := [some (.ref 0), some (.int (nI 1)), some (.int (nI u))]) (st' := [.int (nI u), .int (nI s), .int (nI 1), .ref 0]) (σ' := σ5) rfl ?_
          refine am_invv (y := 229) (b := 0) (as := [.int (nI 1), .int (nI s), .int (nI u)]) (rest := []) rfl rfl rfl rfl rfl rfl rfl (Nat.le_of_ble_eq_true rfl) ?_
          refine c_settles1 (by omega) hM5 hs hv.2 hu hz (fun σ6 hS i38 i39 i40 i41 i42 i43 i44 i29 => ?_)
          have z17 : σ6.1 17 1 = nI s := by rw [hS.1 17 (by decide) (by decide) (by decide) (by decide)]; exact y17
          have z19 : σ6.1 19 1 = nI 20 := by rw [hS.1 19 (by decide) (by decide) (by decide) (by decide)]; exact y19
          have z18 : ∀ k, σ6.1 18 k = σ.1 18 k := fun k => by rw [hS.1 18 (by decide) (by decide) (by decide) (by decide)]; exact y18 k
          show am_G _ M_X10_instant _ 37 [some (.ref 0), some (.int (nI 1)), some (.int (nI u))] [.int (nI 1)] σ6
          refine am_if (ty := 40) (tn := 44) rfl (by decide) rfl rfl (fun (h_103 : nI 1 = 0) => ?_) (fun (h_103 : ¬ (nI 1 = 0)) => ?_)
          · exact absurd h_103 (by decide)
          refine am_run 3 (pc' := 49) (ls' := [some (.ref 0), some (.int (nI 1)), some (.int (nI u))]) (st' := [.int (nI 1), .ref 19]) (σ' := σ6) rfl ?_
          refine am_ialdN (n := 2) (v := nI 20) rfl rfl rfl (by decide) z19 (by decide) ?_
          refine am_run 1 (pc' := 52) (ls' := [some (.ref 0), some (.int (nI 1)), some (.int (nI u))]) (st' := [.int (nI 20), .int (nI 20)]) (σ' := σ6) rfl ?_
          refine am_ic (ty := 55) (tn := 88) rfl (by decide) rfl rfl (fun (h_104 : nI 20 = nI 20) => ?_) (fun (h_104 : ¬ (nI 20 = nI 20)) => ?_)
          rotate_left
          · exact absurd (by decide) h_104
          refine am_run 5 (pc' := 63) (ls' := [some (.ref 0), some (.int (nI 1)), some (.int (nI u))]) (st' := [.int (nI 20 * nI 1), .ref 18]) (σ' := σ6) rfl ?_
          refine am_top (v' := nI 20) (am_nmul _ _) ?_
          refine am_run 2 (pc' := 65) (ls' := [some (.ref 0), some (.int (nI 1)), some (.int (nI u))]) (st' := [.int (nI 20 + nI 1), .ref 18]) (σ' := σ6) rfl ?_
          refine am_top (v' := nI 21) (nI_add _ _) ?_
          refine am_run 5 (pc' := 73) (ls' := [some (.ref 0), some (.int (nI 1)), some (.int (nI u))]) (st' := [.int (nI 20 * nI 1), .ref 18, .int (nI 21), .ref 18]) (σ' := σ6) rfl ?_
          refine am_top (v' := nI 20) (am_nmul _ _) ?_
          refine am_run 1 (pc' := 75) (ls' := [some (.ref 0), some (.int (nI 1)), some (.int (nI u))]) (st' := [.int (nI 19), .int (nI 20), .ref 18, .int (nI 21), .ref 18]) (σ' := σ6) rfl ?_
          refine am_invs (y := 180) (as := [.ref 18, .int (nI 21), .ref 18, .int (nI 20), .int (nI 19)]) (rest := []) rfl rfl rfl rfl rfl rfl (Nat.le_of_ble_eq_true rfl) ?_
          refine c_bring (by omega) (c0 := 18) (c1 := 18) (n0 := 40) (n1 := 40) (a := 21) (b := 20) (n := 19) rfl rfl rfl rfl (by decide) (by decide) (by decide) (by decide) (Or.inr (by decide)) (fun σ7 g1 g2 g3 g4 => ?_)
          show am_G _ M_X10_instant _ 78 [some (.ref 0), some (.int (nI 1)), some (.int (nI u))] [] σ7
          refine am_run 4 (pc' := 84) (ls' := [some (.ref 0), some (.int (nI 1)), some (.int (nI u))]) (st' := [.int (nI 1), .ref 19, .int (nI 1), .ref 19]) (σ' := σ7) rfl ?_
          refine am_ialdN (n := 2) (v := nI 20) rfl rfl rfl (by decide) (by show σ7.1 19 1 = _; rw [g1 19 (by decide)]; exact z19) (by decide) ?_
          refine am_run 2 (pc' := 87) (ls' := [some (.ref 0), some (.int (nI 1)), some (.int (nI u))]) (st' := [.int (nI 20 - nI 1), .int (nI 1), .ref 19]) (σ' := σ7) rfl ?_
          refine am_top (v' := nI 19) (nx_sub (by decide)) ?_
          refine am_iastN (n := 2) rfl rfl rfl (by decide) (by decide) ?_
          refine am_run 5 (pc' := 96) (ls' := [some (.ref 0), some (.int (nI 1)), some (.int (nI u))]) (st' := [.int (nI 20 * nI 1), .ref 18]) (σ' := (am_wr σ7 19 1 (nI 19))) rfl ?_
          refine am_top (v' := nI 20) (am_nmul _ _) ?_
          refine am_run 3 (pc' := 101) (ls' := [some (.ref 0), some (.int (nI 1)), some (.int (nI u))]) (st' := [.int (nI 1), .ref 19, .int (nI 20), .ref 18]) (σ' := (am_wr σ7 19 1 (nI 19))) rfl ?_
          refine am_ialdN (n := 2) (v := nI 19) rfl rfl rfl (by decide) rfl (by decide) ?_
          refine am_run 1 (pc' := 103) (ls' := [some (.ref 0), some (.int (nI 1)), some (.int (nI u))]) (st' := [.int (nI 20 + nI 19), .ref 18]) (σ' := (am_wr σ7 19 1 (nI 19))) rfl ?_
          refine am_top (v' := nI 39) (nI_add _ _) ?_
          refine am_run 3 (pc' := 108) (ls' := [some (.ref 0), some (.int (nI 1)), some (.int (nI u))]) (st' := [.int (nI 1), .ref 17, .int (nI 39), .ref 18]) (σ' := (am_wr σ7 19 1 (nI 19))) rfl ?_
          refine am_ialdN (n := 2) (v := nI s) rfl rfl rfl (by decide) (by show σ7.1 17 1 = _; rw [g1 17 (by decide)]; exact z17) (by decide) ?_
          refine am_iastN (n := 40) rfl rfl rfl (by decide) (by decide) ?_
          refine am_run 4 (pc' := 116) (ls' := [some (.ref 0), some (.int (nI 1)), some (.int (nI u))]) (st' := [.int (nI 1), .ref 19, .int (nI 1), .ref 19]) (σ' := (am_wr (am_wr σ7 19 1 (nI 19)) 18 39 (nI s))) rfl ?_
          refine am_ialdN (n := 2) (v := nI 19) rfl rfl rfl (by decide) rfl (by decide) ?_
          refine am_run 2 (pc' := 119) (ls' := [some (.ref 0), some (.int (nI 1)), some (.int (nI u))]) (st' := [.int (nI 19 + nI 1), .int (nI 1), .ref 19]) (σ' := (am_wr (am_wr σ7 19 1 (nI 19)) 18 39 (nI s))) rfl ?_
          refine am_top (v' := nI 20) (nI_add _ _) ?_
          refine am_iastN (n := 2) rfl rfl rfl (by decide) (by decide) ?_
          refine am_run 5 (pc' := 129) (ls' := [some (.ref 0), some (.int (nI 1)), some (.int (nI u))]) (st' := [.int (σ7.1 0 44), .int (nI 1), .ref 17]) (σ' := (am_wr (am_wr (am_wr σ7 19 1 (nI 19)) 18 39 (nI s)) 19 1 (nI 20))) rfl ?_
          refine am_top (v' := nI nx) (by show σ7.1 0 44 = _; rw [g1 0 (by decide)]; exact i44) ?_
          refine am_iastN (n := 2) rfl rfl rfl (by decide) (by decide) ?_
          refine am_run 2 (pc' := 134) (ls' := [some (.ref 0), some (.int (nI 1)), some (.int (nI u))]) (st' := [.int (σ7.1 0 42)]) (σ' := (am_wr (am_wr (am_wr (am_wr σ7 19 1 (nI 19)) 18 39 (nI s)) 19 1 (nI 20)) 17 1 (nI nx))) rfl ?_
          refine am_top (v' := nI P) (by show σ7.1 0 42 = _; rw [g1 0 (by decide)]; exact i42) ?_
          refine am_reti rfl rfl ?_
          have hJ6 : KJ σ (am_wr (am_wr (am_wr (am_wr σ7 19 1 (nI 19)) 18 39 (nI s)) 19 1 (nI 20)) 17 1 (nI nx)) 1 75 := ((((((hJ5.tr (hS.KI.KJ (Or.inr rfl))).b18 (Or.inr rfl) g1 g2 (fun x hx => g4 x (by omega))).w19 (Or.inr rfl) _).w18 (Or.inr rfl) (by omega) _).w19 (Or.inr rfl) _).w17 (Or.inr rfl) _)
          refine ⟨rfl, hI.hs (Or.inr ⟨rfl, rfl⟩) hJ6 hf hP (s := nx) (m := 20) ⟨by show σ7.1 75 3 = _; rw [g1 75 (by decide), hS.1 75 (by decide) (by decide) (by decide) (by decide)]; exact x3, rfl, hnv, by show σ7.1 75 4 = _; rw [g1 75 (by decide), hS.1 75 (by decide) (by decide) (by decide) (by decide)]; exact x4, rfl, by omega, fun i hi => ?_⟩⟩
          by_cases e : i = 19
          · subst e
            exact ⟨s, by show σ7.1 76 19 = _; rw [g1 76 (by decide), hS.1 76 (by decide) (by decide) (by decide) (by decide)]; exact x6, by show (am_wr (am_wr σ7 19 1 (nI 19)) 18 39 (nI s)).1 18 39 = _; exact am_same _ _ _ _, hv⟩
          · obtain ⟨s1, e1, e2, e3⟩ := hh (i + 1) (by omega)
            refine ⟨s1, by show σ7.1 76 i = _; rw [g1 76 (by decide), hS.1 76 (by decide) (by decide) (by decide) (by decide), x5 i (by omega)]; exact e1, ?_, e3⟩
            show (am_wr (am_wr σ7 19 1 (nI 19)) 18 39 (nI s)).1 18 (20 + i) = _
            rw [am_diff _ _ _ _ _ (by omega), am_wr_ne _ (by decide), g3 i (by omega), z18, show 21 + i = 20 + (i + 1) by omega]
            exact e2
        · skip
          refine ⟨nI P, ?_⟩
          refine am_enter' (M := M_X9_instant) rfl rfl rfl (by omega) (ls := [some (.ref 41), some (.int (nI 1)), some (.int (nI u)), none]) rfl (fun d' hd' => ?_)
          refine am_run 2 (pc' := 2) (ls' := [some (.ref 41), some (.int (nI 1)), some (.int (nI u)), none]) (st' := [.int (nI 1), .ref 41]) (σ' := σ) rfl ?_
          refine am_invv (y := 140) (b := 41) (as := [.int (nI 1)]) (rest := []) rfl rfl rfl rfl rfl rfl rfl (Nat.le_of_ble_eq_true rfl) ?_
          refine c_filled1_1 (by omega) hf ?_
          show am_G _ M_X9_instant _ 5 [some (.ref 41), some (.int (nI 1)), some (.int (nI u)), none] [.ref 75] σ
          refine am_run 4 (pc' := 14) (ls' := [some (.ref 41), some (.int (nI 1)), some (.int (nI u)), some (.ref 75)]) (st' := [.int (nI u)]) (σ' := σ) rfl ?_
          refine am_invs (y := 141) (as := [.int (nI u)]) (rest := []) rfl rfl rfl rfl rfl rfl (Nat.le_of_ble_eq_true rfl) ?_
          refine c_sig1 (by omega) (by omega) ?_
          show am_G _ M_X9_instant _ 17 [some (.ref 41), some (.int (nI 1)), some (.int (nI u)), some (.ref 75)] [.int (nI 1)] σ
          refine am_if (ty := 20) (tn := 23) rfl (by decide) rfl rfl (fun (h_1 : nI 1 = 0) => ?_) (fun (h_1 : ¬ (nI 1 = 0)) => ?_)
          · exact absurd h_1 (by decide)
          refine am_run 3 (pc' := 28) (ls' := [some (.ref 41), some (.int (nI 1)), some (.int (nI u)), some (.ref 75)]) (st' := [.ref 75, .ref 77]) (σ' := σ) rfl ?_
          refine am_invv (y := 66) (b := 75) (as := []) (rest := [.ref 77]) rfl rfl rfl rfl rfl rfl rfl (Nat.le_of_ble_eq_true rfl) ?_
          refine am_enter' rfl rfl rfl (by omega) (ls := [some (.ref 75)]) rfl (fun d_2 hd_2 => ?_)
          refine am_run 2 (pc' := 4) (ls' := [some (.ref 75)]) (st' := [.ref (σ.2 75 1)]) (σ' := σ) rfl ?_
          refine am_reta rfl rfl (Or.inr ⟨_, rfl⟩) ?_
          show am_G _ M_X9_instant _ 31 [some (.ref 41), some (.int (nI 1)), some (.int (nI u)), some (.ref 75)] [.ref (σ.2 75 1), .ref 77] σ
          refine am_run 1 (pc' := 32) (ls' := [some (.ref 41), some (.int (nI 1)), some (.int (nI u)), some (.ref 75)]) (st' := [.ref 75, .ref (σ.2 75 1), .ref 77]) (σ' := σ) rfl ?_
          refine am_invv (y := 67) (b := 75) (as := []) (rest := [.ref (σ.2 75 1), .ref 77]) rfl rfl rfl rfl rfl rfl rfl (Nat.le_of_ble_eq_true rfl) ?_
          refine am_enter' rfl rfl rfl (by omega) (ls := [some (.ref 75)]) rfl (fun d_3 hd_3 => ?_)
          refine am_run 2 (pc' := 4) (ls' := [some (.ref 75)]) (st' := [.int (σ.1 75 3)]) (σ' := σ) rfl ?_
          refine am_top (v' := nI s) a3 ?_
          refine am_reti rfl rfl ?_
          show am_G _ M_X9_instant _ 35 [some (.ref 41), some (.int (nI 1)), some (.int (nI u)), some (.ref 75)] [.int (nI s), .ref (σ.2 75 1), .ref 77] σ
          refine am_run 1 (pc' := 36) (ls' := [some (.ref 41), some (.int (nI 1)), some (.int (nI u)), some (.ref 75)]) (st' := [.int (nI u), .int (nI s), .ref (σ.2 75 1), .ref 77]) (σ' := σ) rfl ?_
          refine am_invv (y := 56) (b := 77) (as := [.ref (σ.2 75 1), .int (nI s), .int (nI u)]) (rest := []) rfl rfl rfl rfl rfl rfl rfl (Nat.le_of_ble_eq_true rfl) ?_
          refine c_determine (by omega) hW hR (show r + 1 ≤ n by omega) hro (Or.inl rfl) hs hu (fun σ2 hK hO => ?_)
          rw [hz] at hO
          obtain ⟨o0, o1, o2, o3, o4⟩ : σ2.1 77 0 = nI (P + 256 * A) ∧ σ2.1 77 1 = nI 0 ∧ σ2.1 77 2 = nI c ∧ σ2.1 77 3 = nI nx ∧ σ2.1 77 4 = nI rd := hO
          have hM2 := hM.keep2 (σ' := σ2) (fun c a => hK.1 c (by omega))
          have b32 : σ2.1 17 1 = nI s := by rw [hK.1 17 (by decide)]; exact b3
          have hn22 : σ2.1 2 1 = nI n := hM2.1.2.2.2.1
          have a32 : σ2.1 75 3 = nI s := by rw [hK.1 75 (by decide)]; exact a3
          have a42 : σ2.1 75 4 = nI m := by rw [hK.1 75 (by decide)]; exact a4
          show am_G _ M_X9_instant _ 39 [some (.ref 41), some (.int (nI 1)), some (.int (nI u)), some (.ref 75)] [] σ2
          refine am_run 2 (pc' := 43) (ls' := [some (.ref 41), some (.int (nI 1)), some (.int (nI u)), some (.ref 75)]) (st' := [.ref 77]) (σ' := σ2) rfl ?_
          refine am_invv (y := 52) (b := 77) (as := []) (rest := []) rfl rfl rfl rfl rfl rfl rfl (Nat.le_of_ble_eq_true rfl) ?_
          refine am_enter' rfl rfl rfl (by omega) (ls := [some (.ref 77)]) rfl (fun d_4 hd_4 => ?_)
          refine am_run 2 (pc' := 4) (ls' := [some (.ref 77)]) (st' := [.int (σ2.1 77 1)]) (σ' := σ2) rfl ?_
          refine am_top (v' := nI 0) o1 ?_
          refine am_if (ty := 11) (tn := 7) rfl (by decide) rfl rfl (fun (h_5 : nI 0 = 0) => ?_) (fun (h_5 : ¬ (nI 0 = 0)) => ?_)
          rotate_left
          · exact absurd (by decide) h_5
          refine am_run 1 (pc' := 12) (ls' := [some (.ref 77)]) (st' := [.int (nI 0)]) (σ' := σ2) rfl ?_
          refine am_retz rfl rfl (by decide) ?_
          show am_G _ M_X9_instant _ 46 [some (.ref 41), some (.int (nI 1)), some (.int (nI u)), some (.ref 75)] [.int (nI 0)] σ2
          refine am_if (ty := 52) (tn := 49) rfl (by decide) rfl rfl (fun (h_6 : nI 0 = 0) => ?_) (fun (h_6 : ¬ (nI 0 = 0)) => ?_)
          rotate_left
          · exact absurd (by decide) h_6
          refine am_run 3 (pc' := 57) (ls' := [some (.ref 41), some (.int (nI 1)), some (.int (nI u)), some (.ref 75)]) (st' := [.ref 77, .ref 75]) (σ' := σ2) rfl ?_
          refine am_invv (y := 54) (b := 77) (as := []) (rest := [.ref 75]) rfl rfl rfl rfl rfl rfl rfl (Nat.le_of_ble_eq_true rfl) ?_
          refine am_enter' rfl rfl rfl (by omega) (ls := [some (.ref 77)]) rfl (fun d_7 hd_7 => ?_)
          refine am_run 2 (pc' := 4) (ls' := [some (.ref 77)]) (st' := [.int (σ2.1 77 3)]) (σ' := σ2) rfl ?_
          refine am_top (v' := nI nx) o3 ?_
          refine am_reti rfl rfl ?_
          show am_G _ M_X9_instant _ 60 [some (.ref 41), some (.int (nI 1)), some (.int (nI u)), some (.ref 75)] [.int (nI nx), .ref 75] σ2
          refine am_invv (y := 71) (b := 75) (as := [.int (nI nx)]) (rest := []) rfl rfl rfl rfl rfl rfl rfl (Nat.le_of_ble_eq_true rfl) ?_
          refine am_enter' rfl rfl rfl (by omega) (ls := [some (.ref 75), some (.int (nI nx))]) rfl (fun d_8 hd_8 => ?_)
          refine am_run 2 (pc' := 4) (ls' := [some (.ref 75), some (.int (nI nx))]) (st' := [.int (σ2.1 75 4)]) (σ' := σ2) rfl ?_
          refine am_top (v' := nI m) a42 ?_
          refine am_run 1 (pc' := 6) (ls' := [some (.ref 75), some (.int (nI nx))]) (st' := [.int (nI 20), .int (nI m)]) (σ' := σ2) rfl ?_
          refine am_ic (ty := 30) (tn := 9) rfl (by decide) rfl rfl (fun (h_9 : nI m < nI 20) => ?_) (fun (h_9 : ¬ (nI m < nI 20)) => ?_)
          rotate_left
          · have h_9 : ¬ (m < 20) := fun z => h_9 ((nI_ltI (by omega) (by omega)).mpr z)
            omega
          have h_9 : m < 20 := (nI_ltI (by omega) (by omega)).mp h_9
          refine am_run 2 (pc' := 34) (ls' := [some (.ref 75), some (.int (nI nx))]) (st' := [.int (σ2.1 75 4)]) (σ' := σ2) rfl ?_
          refine am_top (v' := nI m) a42 ?_
          refine am_if (ty := 60) (tn := 37) rfl (by decide) rfl rfl (fun (h_10 : nI m < 0) => ?_) (fun (h_10 : ¬ (nI m < 0)) => ?_)
          · have h_10 : m < 0 := (am_nlt0 (by omega)).mp h_10
            exact absurd h_10 (Nat.not_lt_zero _)
          have h_10 : ¬ (m < 0) := fun z => h_10 ((am_nlt0 (by omega)).mpr z)
          refine am_run 4 (pc' := 45) (ls' := [some (.ref 75), some (.int (nI nx))]) (st' := [.int (σ2.1 75 4), .ref 76]) (σ' := σ2) rfl ?_
          refine am_top (v' := nI m) a42 ?_
          refine am_run 2 (pc' := 49) (ls' := [some (.ref 75), some (.int (nI nx))]) (st' := [.int (σ2.1 75 3), .int (nI m), .ref 76]) (σ' := σ2) rfl ?_
          refine am_top (v' := nI s) a32 ?_
          refine am_iastN (n := 20) rfl rfl rfl (by omega) (by decide) ?_
          refine am_run 3 (pc' := 55) (ls' := [some (.ref 75), some (.int (nI nx))]) (st' := [.int (σ2.1 75 4), .ref 75]) (σ' := (am_wr σ2 76 m (nI s))) rfl ?_
          refine am_top (v' := nI m) a42 ?_
          refine am_run 2 (pc' := 57) (ls' := [some (.ref 75), some (.int (nI nx))]) (st' := [.int (nI m + nI 1), .ref 75]) (σ' := (am_wr σ2 76 m (nI s))) rfl ?_
          refine am_top (v' := nI (m + 1)) (nI_add _ _) ?_
          refine am_run 4 (pc' := 65) (ls' := [some (.ref 75), some (.int (nI nx))]) (st' := []) (σ' := (am_wr (am_wr (am_wr σ2 76 m (nI s)) 75 4 (nI (m + 1))) 75 3 (nI nx))) rfl ?_
          refine am_retv rfl rfl ?_
          show am_G _ M_X9_instant _ 63 [some (.ref 41), some (.int (nI 1)), some (.int (nI u)), some (.ref 75)] [] (am_wr (am_wr (am_wr σ2 76 m (nI s)) 75 4 (nI (m + 1))) 75 3 (nI nx))
          refine am_run 2 (pc' := 67) (ls' := [some (.ref 41), some (.int (nI 1)), some (.int (nI u)), some (.ref 75)]) (st' := [.ref 77]) (σ' := (am_wr (am_wr (am_wr σ2 76 m (nI s)) 75 4 (nI (m + 1))) 75 3 (nI nx))) rfl ?_
          refine am_invv (y := 50) (b := 77) (as := []) (rest := []) rfl rfl rfl rfl rfl rfl rfl (Nat.le_of_ble_eq_true rfl) ?_
          refine c_o_present (by omega) (Or.inl rfl) b1 (by exact o0) ?_
          show am_G _ M_X9_instant _ 70 [some (.ref 41), some (.int (nI 1)), some (.int (nI u)), some (.ref 75)] [.int (nI P)] (am_wr (am_wr (am_wr σ2 76 m (nI s)) 75 4 (nI (m + 1))) 75 3 (nI nx))
          refine am_reti rfl rfl ?_
          refine ⟨rfl, ?_⟩
          have hJ5 : KJ σ (am_wr (am_wr (am_wr σ2 76 m (nI s)) 75 4 (nI (m + 1))) 75 3 (nI nx)) 1 75 := (((((hK.KI (Or.inl rfl)).KJ (Or.inr rfl)).wB (Or.inr rfl) _ _).w3 (Or.inr rfl) (by decide) _).w3 (Or.inr rfl) (by decide) _)
          have hM5 : MI (am_wr (am_wr (am_wr σ2 76 m (nI s)) 75 4 (nI (m + 1))) 75 3 (nI nx)) 1 p n r rk od dp ow := hM.keep2 (fun c a => by rw [am_wr_ne _ (by omega), am_wr_ne _ (by omega), am_wr_ne _ (by omega), hK.1 c (by omega)])
          have x3 : (am_wr (am_wr (am_wr σ2 76 m (nI s)) 75 4 (nI (m + 1))) 75 3 (nI nx)).1 75 3 = nI nx := rfl
          have x4 : (am_wr (am_wr (am_wr σ2 76 m (nI s)) 75 4 (nI (m + 1))) 75 3 (nI nx)).1 75 4 = nI (m + 1) := rfl
          have y17 : (am_wr (am_wr (am_wr σ2 76 m (nI s)) 75 4 (nI (m + 1))) 75 3 (nI nx)).1 17 1 = nI s := b32
          have y19 : (am_wr (am_wr (am_wr σ2 76 m (nI s)) 75 4 (nI (m + 1))) 75 3 (nI nx)).1 19 1 = nI m := by show σ2.1 19 1 = _; rw [hK.1 19 (by decide)]; exact b4
          have y18 : ∀ k, (am_wr (am_wr (am_wr σ2 76 m (nI s)) 75 4 (nI (m + 1))) 75 3 (nI nx)).1 18 k = σ.1 18 k := fun k => by show σ2.1 18 k = _; rw [hK.1 18 (by decide)]
          have x5 : ∀ i, i < m → (am_wr (am_wr (am_wr σ2 76 m (nI s)) 75 4 (nI (m + 1))) 75 3 (nI nx)).1 76 i = σ.1 76 i := fun i hi => by
            show (am_wr σ2 76 m (nI s)).1 76 i = _
            rw [am_diff _ _ _ _ _ (by omega), hK.1 76 (by decide)]
          have x6 : (am_wr (am_wr (am_wr σ2 76 m (nI s)) 75 4 (nI (m + 1))) 75 3 (nI nx)).1 76 m = nI s := by show (am_wr σ2 76 m (nI s)).1 76 m = _; exact am_same _ _ _ _
          generalize (am_wr (am_wr (am_wr σ2 76 m (nI s)) 75 4 (nI (m + 1))) 75 3 (nI nx)) = σ5 at hJ5 hM5 x3 x4 y17 y19 y18 x5 x6 ⊢
          have hn25 := hM5.1.2.2.2.1
          refine am_enter' (M := M_X10_instant) rfl rfl rfl (by omega) (ls := [some (.ref 0), some (.int (nI 1)), some (.int (nI u))]) rfl (fun d2 hd2 => ?_)
          refine am_run 2 (pc' := 2) (ls' := [some (.ref 0), some (.int (nI 1)), some (.int (nI u))]) (st' := [.int (nI 1), .ref 0]) (σ' := σ5) rfl ?_
          refine am_invv (y := 151) (b := 0) (as := [.int (nI 1)]) (rest := []) rfl rfl rfl rfl rfl rfl rfl (Nat.le_of_ble_eq_true rfl) ?_
          refine c_prog1_1 (by omega) (n := n) (by exact hn25) hn1 hn60 ?_
          show am_G _ M_X10_instant _ 5 [some (.ref 0), some (.int (nI 1)), some (.int (nI u))] [.int (nI 1)] σ5
          refine am_if (ty := 8) (tn := 11) rfl (by decide) rfl rfl (fun (h_101 : nI 1 = 0) => ?_) (fun (h_101 : ¬ (nI 1 = 0)) => ?_)
          · exact absurd h_101 (by decide)
          refine am_run 3 (pc' := 16) (ls' := [some (.ref 0), some (.int (nI 1)), some (.int (nI u))]) (st' := [.int (nI 255), .int (nI 0), .int (nI u)]) (σ' := σ5) rfl ?_
          refine am_invs (y := 148) (as := [.int (nI u), .int (nI 0), .int (nI 255)]) (rest := []) rfl rfl rfl rfl rfl rfl (Nat.le_of_ble_eq_true rfl) ?_
          refine c_in1 (by omega) (by omega) (by omega) (by omega) ?_
          show am_G _ M_X10_instant _ 19 [some (.ref 0), some (.int (nI 1)), some (.int (nI u))] [.int (nI 1)] σ5
          refine am_if (ty := 22) (tn := 25) rfl (by decide) rfl rfl (fun (h_102 : nI 1 = 0) => ?_) (fun (h_102 : ¬ (nI 1 = 0)) => ?_)
          · exact absurd h_102 (by decide)
          refine am_run 5 (pc' := 32) (ls' := [some (.ref 0), some (.int (nI 1)), some (.int (nI u))]) (st' := [.int (nI 1), .ref 17, .int (nI 1), .ref 0]) (σ' := σ5) rfl ?_
          refine am_ialdN (n := 2) (v := nI s) rfl rfl rfl (by decide) y17 (by decide) ?_
          refine am_run 1 (pc' := 34) (ls' := [some (.ref 0), some (.int (nI 1)), some (.int (nI u))]) (st' := [.int (nI u), .int (nI s), .int (nI 1), .ref 0]) (σ' := σ5) rfl ?_
          refine am_invv (y := 229) (b := 0) (as := [.int (nI 1), .int (nI s), .int (nI u)]) (rest := []) rfl rfl rfl rfl rfl rfl rfl (Nat.le_of_ble_eq_true rfl) ?_
          refine c_settles1 (by omega) hM5 hs hv.2 hu hz (fun σ6 hS i38 i39 i40 i41 i42 i43 i44 i29 => ?_)
          have z17 : σ6.1 17 1 = nI s := by rw [hS.1 17 (by decide) (by decide) (by decide) (by decide)]; exact y17
          have z19 : σ6.1 19 1 = nI m := by rw [hS.1 19 (by decide) (by decide) (by decide) (by decide)]; exact y19
          have z18 : ∀ k, σ6.1 18 k = σ.1 18 k := fun k => by rw [hS.1 18 (by decide) (by decide) (by decide) (by decide)]; exact y18 k
          show am_G _ M_X10_instant _ 37 [some (.ref 0), some (.int (nI 1)), some (.int (nI u))] [.int (nI 1)] σ6
          refine am_if (ty := 40) (tn := 44) rfl (by decide) rfl rfl (fun (h_103 : nI 1 = 0) => ?_) (fun (h_103 : ¬ (nI 1 = 0)) => ?_)
          · exact absurd h_103 (by decide)
          refine am_run 3 (pc' := 49) (ls' := [some (.ref 0), some (.int (nI 1)), some (.int (nI u))]) (st' := [.int (nI 1), .ref 19]) (σ' := σ6) rfl ?_
          refine am_ialdN (n := 2) (v := nI m) rfl rfl rfl (by decide) z19 (by decide) ?_
          refine am_run 1 (pc' := 52) (ls' := [some (.ref 0), some (.int (nI 1)), some (.int (nI u))]) (st' := [.int (nI 20), .int (nI m)]) (σ' := σ6) rfl ?_
          refine am_ic (ty := 55) (tn := 88) rfl (by decide) rfl rfl (fun (h_104 : nI m = nI 20) => ?_) (fun (h_104 : ¬ (nI m = nI 20)) => ?_)
          · have h_104 : m = 20 := (nI_eq (by omega) (by omega)).mp h_104
            omega
          have h_104 : ¬ (m = 20) := fun z => h_104 ((nI_eq (by omega) (by omega)).mpr z)
          refine am_run 5 (pc' := 96) (ls' := [some (.ref 0), some (.int (nI 1)), some (.int (nI u))]) (st' := [.int (nI 20 * nI 1), .ref 18]) (σ' := σ6) rfl ?_
          refine am_top (v' := nI 20) (am_nmul _ _) ?_
          refine am_run 3 (pc' := 101) (ls' := [some (.ref 0), some (.int (nI 1)), some (.int (nI u))]) (st' := [.int (nI 1), .ref 19, .int (nI 20), .ref 18]) (σ' := σ6) rfl ?_
          refine am_ialdN (n := 2) (v := nI m) rfl rfl rfl (by decide) z19 (by decide) ?_
          refine am_run 1 (pc' := 103) (ls' := [some (.ref 0), some (.int (nI 1)), some (.int (nI u))]) (st' := [.int (nI 20 + nI m), .ref 18]) (σ' := σ6) rfl ?_
          refine am_top (v' := nI (20 + m)) (nI_add _ _) ?_
          refine am_run 3 (pc' := 108) (ls' := [some (.ref 0), some (.int (nI 1)), some (.int (nI u))]) (st' := [.int (nI 1), .ref 17, .int (nI (20 + m)), .ref 18]) (σ' := σ6) rfl ?_
          refine am_ialdN (n := 2) (v := nI s) rfl rfl rfl (by decide) z17 (by decide) ?_
          refine am_iastN (n := 40) rfl rfl rfl (by omega) (by decide) ?_
          refine am_run 4 (pc' := 116) (ls' := [some (.ref 0), some (.int (nI 1)), some (.int (nI u))]) (st' := [.int (nI 1), .ref 19, .int (nI 1), .ref 19]) (σ' := (am_wr σ6 18 (20 + m) (nI s))) rfl ?_
          refine am_ialdN (n := 2) (v := nI m) rfl rfl rfl (by decide) z19 (by decide) ?_
          refine am_run 2 (pc' := 119) (ls' := [some (.ref 0), some (.int (nI 1)), some (.int (nI u))]) (st' := [.int (nI m + nI 1), .int (nI 1), .ref 19]) (σ' := (am_wr σ6 18 (20 + m) (nI s))) rfl ?_
          refine am_top (v' := nI (m + 1)) (nI_add _ _) ?_
          refine am_iastN (n := 2) rfl rfl rfl (by decide) (by decide) ?_
          refine am_run 5 (pc' := 129) (ls' := [some (.ref 0), some (.int (nI 1)), some (.int (nI u))]) (st' := [.int (σ6.1 0 44), .int (nI 1), .ref 17]) (σ' := (am_wr (am_wr σ6 18 (20 + m) (nI s)) 19 1 (nI (m + 1)))) rfl ?_
          refine am_top (v' := nI nx) i44 ?_
          refine am_iastN (n := 2) rfl rfl rfl (by decide) (by decide) ?_
          refine am_run 2 (pc' := 134) (ls' := [some (.ref 0), some (.int (nI 1)), some (.int (nI u))]) (st' := [.int (σ6.1 0 42)]) (σ' := (am_wr (am_wr (am_wr σ6 18 (20 + m) (nI s)) 19 1 (nI (m + 1))) 17 1 (nI nx))) rfl ?_
          refine am_top (v' := nI P) i42 ?_
          refine am_reti rfl rfl ?_
          have hJ6 : KJ σ (am_wr (am_wr (am_wr σ6 18 (20 + m) (nI s)) 19 1 (nI (m + 1))) 17 1 (nI nx)) 1 75 := ((((hJ5.tr (hS.KI.KJ (Or.inr rfl))).w18 (Or.inr rfl) (by omega) _).w19 (Or.inr rfl) _).w17 (Or.inr rfl) _)
          refine ⟨rfl, hI.hs (Or.inr ⟨rfl, rfl⟩) hJ6 hf hP (s := nx) (m := m + 1) ⟨by show σ6.1 75 3 = _; rw [hS.1 75 (by decide) (by decide) (by decide) (by decide)]; exact x3, rfl, hnv, by show σ6.1 75 4 = _; rw [hS.1 75 (by decide) (by decide) (by decide) (by decide)]; exact x4, rfl, by omega, fun i hi => ?_⟩⟩
          by_cases e : i = m
          · subst e
            exact ⟨s, by show σ6.1 76 i = _; rw [hS.1 76 (by decide) (by decide) (by decide) (by decide)]; exact x6, by show (am_wr σ6 18 (20 + i) (nI s)).1 18 (20 + i) = _; exact am_same _ _ _ _, hv⟩
          · obtain ⟨s1, e1, e2, e3⟩ := hh i (by omega)
            refine ⟨s1, by show σ6.1 76 i = _; rw [hS.1 76 (by decide) (by decide) (by decide) (by decide), x5 i (by omega)]; exact e1, ?_, e3⟩
            show (am_wr σ6 18 (20 + m) (nI s)).1 18 (20 + i) = _
            rw [am_diff _ _ _ _ _ (by omega), z18]
            exact e2
      · refine ⟨-1000003, ?_⟩
        refine am_enter' (M := M_X9_instant) rfl rfl rfl (by omega) (ls := [some (.ref 41), some (.int (nI 1)), some (.int (nI u)), none]) rfl (fun d' hd' => ?_)
        refine am_run 2 (pc' := 2) (ls' := [some (.ref 41), some (.int (nI 1)), some (.int (nI u)), none]) (st' := [.int (nI 1), .ref 41]) (σ' := σ) rfl ?_
        refine am_invv (y := 140) (b := 41) (as := [.int (nI 1)]) (rest := []) rfl rfl rfl rfl rfl rfl rfl (Nat.le_of_ble_eq_true rfl) ?_
        refine c_filled1_1 (by omega) hf ?_
        show am_G _ M_X9_instant _ 5 [some (.ref 41), some (.int (nI 1)), some (.int (nI u)), none] [.ref 75] σ
        refine am_run 4 (pc' := 14) (ls' := [some (.ref 41), some (.int (nI 1)), some (.int (nI u)), some (.ref 75)]) (st' := [.int (nI u)]) (σ' := σ) rfl ?_
        refine am_invs (y := 141) (as := [.int (nI u)]) (rest := []) rfl rfl rfl rfl rfl rfl (Nat.le_of_ble_eq_true rfl) ?_
        refine c_sig1 (by omega) (by omega) ?_
        show am_G _ M_X9_instant _ 17 [some (.ref 41), some (.int (nI 1)), some (.int (nI u)), some (.ref 75)] [.int (nI 1)] σ
        refine am_if (ty := 20) (tn := 23) rfl (by decide) rfl rfl (fun (h_1 : nI 1 = 0) => ?_) (fun (h_1 : ¬ (nI 1 = 0)) => ?_)
        · exact absurd h_1 (by decide)
        refine am_run 3 (pc' := 28) (ls' := [some (.ref 41), some (.int (nI 1)), some (.int (nI u)), some (.ref 75)]) (st' := [.ref 75, .ref 77]) (σ' := σ) rfl ?_
        refine am_invv (y := 66) (b := 75) (as := []) (rest := [.ref 77]) rfl rfl rfl rfl rfl rfl rfl (Nat.le_of_ble_eq_true rfl) ?_
        refine am_enter' rfl rfl rfl (by omega) (ls := [some (.ref 75)]) rfl (fun d_2 hd_2 => ?_)
        refine am_run 2 (pc' := 4) (ls' := [some (.ref 75)]) (st' := [.ref (σ.2 75 1)]) (σ' := σ) rfl ?_
        refine am_reta rfl rfl (Or.inr ⟨_, rfl⟩) ?_
        show am_G _ M_X9_instant _ 31 [some (.ref 41), some (.int (nI 1)), some (.int (nI u)), some (.ref 75)] [.ref (σ.2 75 1), .ref 77] σ
        refine am_run 1 (pc' := 32) (ls' := [some (.ref 41), some (.int (nI 1)), some (.int (nI u)), some (.ref 75)]) (st' := [.ref 75, .ref (σ.2 75 1), .ref 77]) (σ' := σ) rfl ?_
        refine am_invv (y := 67) (b := 75) (as := []) (rest := [.ref (σ.2 75 1), .ref 77]) rfl rfl rfl rfl rfl rfl rfl (Nat.le_of_ble_eq_true rfl) ?_
        refine am_enter' rfl rfl rfl (by omega) (ls := [some (.ref 75)]) rfl (fun d_3 hd_3 => ?_)
        refine am_run 2 (pc' := 4) (ls' := [some (.ref 75)]) (st' := [.int (σ.1 75 3)]) (σ' := σ) rfl ?_
        refine am_top (v' := nI s) a3 ?_
        refine am_reti rfl rfl ?_
        show am_G _ M_X9_instant _ 35 [some (.ref 41), some (.int (nI 1)), some (.int (nI u)), some (.ref 75)] [.int (nI s), .ref (σ.2 75 1), .ref 77] σ
        refine am_run 1 (pc' := 36) (ls' := [some (.ref 41), some (.int (nI 1)), some (.int (nI u)), some (.ref 75)]) (st' := [.int (nI u), .int (nI s), .ref (σ.2 75 1), .ref 77]) (σ' := σ) rfl ?_
        refine am_invv (y := 56) (b := 77) (as := [.ref (σ.2 75 1), .int (nI s), .int (nI u)]) (rest := []) rfl rfl rfl rfl rfl rfl rfl (Nat.le_of_ble_eq_true rfl) ?_
        refine c_determine (by omega) hW hR (show r + 1 ≤ n by omega) hro (Or.inl rfl) hs hu (fun σ2 hK hO => ?_)
        rw [hz] at hO
        obtain ⟨o0, o1, o2, o3, o4⟩ : σ2.1 77 0 = nI (P + 256 * A) ∧ σ2.1 77 1 = nI w ∧ σ2.1 77 2 = nI c ∧ σ2.1 77 3 = nI nx ∧ σ2.1 77 4 = nI rd := hO
        have hM2 := hM.keep2 (σ' := σ2) (fun c a => hK.1 c (by omega))
        have b32 : σ2.1 17 1 = nI s := by rw [hK.1 17 (by decide)]; exact b3
        have hn22 : σ2.1 2 1 = nI n := hM2.1.2.2.2.1
        show am_G _ M_X9_instant _ 39 [some (.ref 41), some (.int (nI 1)), some (.int (nI u)), some (.ref 75)] [] σ2
        refine am_run 2 (pc' := 43) (ls' := [some (.ref 41), some (.int (nI 1)), some (.int (nI u)), some (.ref 75)]) (st' := [.ref 77]) (σ' := σ2) rfl ?_
        refine am_invv (y := 52) (b := 77) (as := []) (rest := []) rfl rfl rfl rfl rfl rfl rfl (Nat.le_of_ble_eq_true rfl) ?_
        refine am_enter' rfl rfl rfl (by omega) (ls := [some (.ref 77)]) rfl (fun d_4 hd_4 => ?_)
        refine am_run 2 (pc' := 4) (ls' := [some (.ref 77)]) (st' := [.int (σ2.1 77 1)]) (σ' := σ2) rfl ?_
        refine am_top (v' := nI w) o1 ?_
        refine am_if (ty := 11) (tn := 7) rfl (by decide) rfl rfl (fun (h_5 : nI w = 0) => ?_) (fun (h_5 : ¬ (nI w = 0)) => ?_)
        · have h_5 : w = 0 := (am_n0 (by omega)).mp h_5
          omega
        have h_5 : ¬ (w = 0) := fun z => h_5 ((am_n0 (by omega)).mpr z)
        refine am_run 2 (pc' := 12) (ls' := [some (.ref 77)]) (st' := [.int (nI 1)]) (σ' := σ2) rfl ?_
        refine am_retz rfl rfl (by decide) ?_
        show am_G _ M_X9_instant _ 46 [some (.ref 41), some (.int (nI 1)), some (.int (nI u)), some (.ref 75)] [.int (nI 1)] σ2
        refine am_if (ty := 52) (tn := 49) rfl (by decide) rfl rfl (fun (h_6 : nI 1 = 0) => ?_) (fun (h_6 : ¬ (nI 1 = 0)) => ?_)
        · exact absurd h_6 (by decide)
        refine am_run 1 (pc' := 51) (ls' := [some (.ref 41), some (.int (nI 1)), some (.int (nI u)), some (.ref 75)]) (st' := [.int (-1000003)]) (σ' := σ2) rfl ?_
        refine am_reti rfl rfl ?_
        refine ⟨rfl, ?_⟩
        refine am_enter' (M := M_X10_instant) rfl rfl rfl (by omega) (ls := [some (.ref 0), some (.int (nI 1)), some (.int (nI u))]) rfl (fun d2 hd2 => ?_)
        refine am_run 2 (pc' := 2) (ls' := [some (.ref 0), some (.int (nI 1)), some (.int (nI u))]) (st' := [.int (nI 1), .ref 0]) (σ' := σ2) rfl ?_
        refine am_invv (y := 151) (b := 0) (as := [.int (nI 1)]) (rest := []) rfl rfl rfl rfl rfl rfl rfl (Nat.le_of_ble_eq_true rfl) ?_
        refine c_prog1_1 (by omega) (n := n) (by exact hn22) hn1 hn60 ?_
        show am_G _ M_X10_instant _ 5 [some (.ref 0), some (.int (nI 1)), some (.int (nI u))] [.int (nI 1)] σ2
        refine am_if (ty := 8) (tn := 11) rfl (by decide) rfl rfl (fun (h_101 : nI 1 = 0) => ?_) (fun (h_101 : ¬ (nI 1 = 0)) => ?_)
        · exact absurd h_101 (by decide)
        refine am_run 3 (pc' := 16) (ls' := [some (.ref 0), some (.int (nI 1)), some (.int (nI u))]) (st' := [.int (nI 255), .int (nI 0), .int (nI u)]) (σ' := σ2) rfl ?_
        refine am_invs (y := 148) (as := [.int (nI u), .int (nI 0), .int (nI 255)]) (rest := []) rfl rfl rfl rfl rfl rfl (Nat.le_of_ble_eq_true rfl) ?_
        refine c_in1 (by omega) (by omega) (by omega) (by omega) ?_
        show am_G _ M_X10_instant _ 19 [some (.ref 0), some (.int (nI 1)), some (.int (nI u))] [.int (nI 1)] σ2
        refine am_if (ty := 22) (tn := 25) rfl (by decide) rfl rfl (fun (h_102 : nI 1 = 0) => ?_) (fun (h_102 : ¬ (nI 1 = 0)) => ?_)
        · exact absurd h_102 (by decide)
        refine am_run 5 (pc' := 32) (ls' := [some (.ref 0), some (.int (nI 1)), some (.int (nI u))]) (st' := [.int (nI 1), .ref 17, .int (nI 1), .ref 0]) (σ' := σ2) rfl ?_
        refine am_ialdN (n := 2) (v := nI s) rfl rfl rfl (by decide) b32 (by decide) ?_
        refine am_run 1 (pc' := 34) (ls' := [some (.ref 0), some (.int (nI 1)), some (.int (nI u))]) (st' := [.int (nI u), .int (nI s), .int (nI 1), .ref 0]) (σ' := σ2) rfl ?_
        refine am_invv (y := 229) (b := 0) (as := [.int (nI 1), .int (nI s), .int (nI u)]) (rest := []) rfl rfl rfl rfl rfl rfl rfl (Nat.le_of_ble_eq_true rfl) ?_
        refine c_settles0 (by omega) hM2 hs hv.2 hu hz hw0 (fun σ3 hS i38 i39 i40 i41 i29 => ?_)
        show am_G _ M_X10_instant _ 37 [some (.ref 0), some (.int (nI 1)), some (.int (nI u))] [.int (nI 0)] σ3
        refine am_if (ty := 40) (tn := 44) rfl (by decide) rfl rfl (fun (h_103 : nI 0 = 0) => ?_) (fun (h_103 : ¬ (nI 0 = 0)) => ?_)
        rotate_left
        · exact absurd (by decide) h_103
        refine am_run 1 (pc' := 43) (ls' := [some (.ref 0), some (.int (nI 1)), some (.int (nI u))]) (st' := [.int (-1000003)]) (σ' := σ3) rfl ?_
        refine am_reti rfl rfl ?_
        exact ⟨rfl, ((hK.KI (Or.inl rfl)).tr hS.KI).inv hI⟩
    · refine ⟨-1000002, ?_⟩
      refine am_enter' (M := M_X9_instant) rfl rfl rfl (by omega) (ls := [some (.ref 41), some (.int (nI 1)), some (.int y), none]) rfl (fun d' hd' => ?_)
      refine am_run 2 (pc' := 2) (ls' := [some (.ref 41), some (.int (nI 1)), some (.int y), none]) (st' := [.int (nI 1), .ref 41]) (σ' := σ) rfl ?_
      refine am_invv (y := 140) (b := 41) (as := [.int (nI 1)]) (rest := []) rfl rfl rfl rfl rfl rfl rfl (Nat.le_of_ble_eq_true rfl) ?_
      refine c_filled1_1 (by omega) hf ?_
      show am_G _ M_X9_instant _ 5 [some (.ref 41), some (.int (nI 1)), some (.int y), none] [.ref 75] σ
      refine am_run 4 (pc' := 14) (ls' := [some (.ref 41), some (.int (nI 1)), some (.int y), some (.ref 75)]) (st' := [.int y]) (σ' := σ) rfl ?_
      refine am_invs (y := 141) (as := [.int y]) (rest := []) rfl rfl rfl rfl rfl rfl (Nat.le_of_ble_eq_true rfl) ?_
      refine c_sig0 (by omega) hy ?_
      show am_G _ M_X9_instant _ 17 [some (.ref 41), some (.int (nI 1)), some (.int y), some (.ref 75)] [.int (nI 0)] σ
      refine am_if (ty := 20) (tn := 23) rfl (by decide) rfl rfl (fun (h_1 : nI 0 = 0) => ?_) (fun (h_1 : ¬ (nI 0 = 0)) => ?_)
      rotate_left
      · exact absurd (by decide) h_1
      refine am_run 1 (pc' := 22) (ls' := [some (.ref 41), some (.int (nI 1)), some (.int y), some (.ref 75)]) (st' := [.int (-1000002)]) (σ' := σ) rfl ?_
      refine am_reti rfl rfl ?_
      refine ⟨rfl, ?_⟩
      refine am_enter' (M := M_X10_instant) rfl rfl rfl (by omega) (ls := [some (.ref 0), some (.int (nI 1)), some (.int y)]) rfl (fun d2 hd2 => ?_)
      refine am_run 2 (pc' := 2) (ls' := [some (.ref 0), some (.int (nI 1)), some (.int y)]) (st' := [.int (nI 1), .ref 0]) (σ' := σ) rfl ?_
      refine am_invv (y := 151) (b := 0) (as := [.int (nI 1)]) (rest := []) rfl rfl rfl rfl rfl rfl rfl (Nat.le_of_ble_eq_true rfl) ?_
      refine c_prog1_1 (by omega) (n := n) (by exact hn2) hn1 hn60 ?_
      show am_G _ M_X10_instant _ 5 [some (.ref 0), some (.int (nI 1)), some (.int y)] [.int (nI 1)] σ
      refine am_if (ty := 8) (tn := 11) rfl (by decide) rfl rfl (fun (h_101 : nI 1 = 0) => ?_) (fun (h_101 : ¬ (nI 1 = 0)) => ?_)
      · exact absurd h_101 (by decide)
      refine am_run 3 (pc' := 16) (ls' := [some (.ref 0), some (.int (nI 1)), some (.int y)]) (st' := [.int (nI 255), .int (nI 0), .int y]) (σ' := σ) rfl ?_
      refine am_invs (y := 148) (as := [.int y, .int (nI 0), .int (nI 255)]) (rest := []) rfl rfl rfl rfl rfl rfl (Nat.le_of_ble_eq_true rfl) ?_
      refine c_in0 (by omega) hy ?_
      show am_G _ M_X10_instant _ 19 [some (.ref 0), some (.int (nI 1)), some (.int y)] [.int (nI 0)] σ
      refine am_if (ty := 22) (tn := 25) rfl (by decide) rfl rfl (fun (h_102 : nI 0 = 0) => ?_) (fun (h_102 : ¬ (nI 0 = 0)) => ?_)
      rotate_left
      · exact absurd (by decide) h_102
      refine am_run 1 (pc' := 24) (ls' := [some (.ref 0), some (.int (nI 1)), some (.int y)]) (st' := [.int (-1000002)]) (σ' := σ) rfl ?_
      refine am_reti rfl rfl ?_
      exact ⟨rfl, hI⟩

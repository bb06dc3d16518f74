set_option maxRecDepth 10000 in
set_option maxHeartbeats 2000000 in
theorem c_found_loop {d : Nat} (hd : 1 ≤ d) {σ0 : am_M} {j a b v : Nat} (ha : a < 256) (hb : b < 256) {Q : am_Q} (hn : ∀ σ', (∀ c, c ≠ 29 → σ'.1 c = σ0.1 c) → σ'.2 = σ0.2 → (∀ g, g < 8 → σ'.1 29 g = nI (sts (a, b) g)) → am_G d M_X10_found Q 127 [some (.ref 0), some (.int (nI j)), some (.int (nI a)), some (.int (nI b)), some (.int (nI v)), some (.int (nI 1)), some (.int (nI 8))] [] σ') : ∀ (m k : Nat) (σ' : am_M), k + m = 8 → (∀ c, c ≠ 29 → σ'.1 c = σ0.1 c) → σ'.2 = σ0.2 → (∀ g, g < k → σ'.1 29 g = nI (sts (a, b) g)) → am_G d M_X10_found Q 80 [some (.ref 0), some (.int (nI j)), some (.int (nI a)), some (.int (nI b)), some (.int (nI v)), some (.int (nI 1)), some (.int (nI k))] [] σ'
  | 0, k, σ', hm, h1, h2, hI => by
    refine am_run 2 (pc' := 84) (ls' := [some (.ref 0), some (.int (nI j)), some (.int (nI a)), some (.int (nI b)), some (.int (nI v)), some (.int (nI 1)), some (.int (nI k))]) (st' := [.int (nI 8), .int (nI k)]) (σ' := σ') rfl ?_
    refine am_ic (ty := 87) (tn := 127) rfl (by decide) rfl rfl (fun (h_1 : nI k < nI 8) => ?_) (fun (h_1 : ¬ (nI k < nI 8)) => ?_)
    · have h_1 : k < 8 := (nI_ltI (by omega) (by omega)).mp h_1
      omega
    have h_1 : ¬ (k < 8) := fun z => h_1 ((nI_ltI (by omega) (by omega)).mpr z)
    have e : k = 8 := by omega
    subst e
    exact hn σ' h1 h2 hI
  | m + 1, k, σ', hm, h1, h2, hI => by
    refine am_run 2 (pc' := 84) (ls' := [some (.ref 0), some (.int (nI j)), some (.int (nI a)), some (.int (nI b)), some (.int (nI v)), some (.int (nI 1)), some (.int (nI k))]) (st' := [.int (nI 8), .int (nI k)]) (σ' := σ') rfl ?_
    refine am_ic (ty := 87) (tn := 127) rfl (by decide) rfl rfl (fun (h_1 : nI k < nI 8) => ?_) (fun (h_1 : ¬ (nI k < nI 8)) => ?_)
    rotate_left
    · have h_1 : ¬ (k < 8) := fun z => h_1 ((nI_ltI (by omega) (by omega)).mpr z)
      omega
    have h_1 : k < 8 := (nI_ltI (by omega) (by omega)).mp h_1
    refine am_run 5 (pc' := 96) (ls' := [some (.ref 0), some (.int (nI j)), some (.int (nI a)), some (.int (nI b)), some (.int (nI v)), some (.int (nI 1)), some (.int (nI k))]) (st' := [.int (nI k), .int (nI a), .int (nI k), .ref 29]) (σ' := σ') rfl ?_
    refine am_invs (y := 149) (as := [.int (nI a), .int (nI k)]) (rest := [.int (nI k), .ref 29]) rfl rfl rfl rfl rfl rfl (Nat.le_of_ble_eq_true rfl) ?_
    refine c_m_has (by omega) (a := a) (s := k) (by omega) (by omega) (fun hb_2 => ?_) (fun hb_2 => ?_)
    · show am_G _ M_X10_found _ 99 [some (.ref 0), some (.int (nI j)), some (.int (nI a)), some (.int (nI b)), some (.int (nI v)), some (.int (nI 1)), some (.int (nI k))] [.int (nI 1), .int (nI k), .ref 29] σ'
      refine am_if (ty := 106) (tn := 102) rfl (by decide) rfl rfl (fun (h_3 : nI 1 = 0) => ?_) (fun (h_3 : ¬ (nI 1 = 0)) => ?_)
      · exact absurd h_3 (by decide)
      refine am_run 2 (pc' := 120) (ls' := [some (.ref 0), some (.int (nI j)), some (.int (nI a)), some (.int (nI b)), some (.int (nI v)), some (.int (nI 1)), some (.int (nI k))]) (st' := [.int (nI 1), .int (nI k), .ref 29]) (σ' := σ') rfl ?_
      refine am_iastN (n := 8) rfl rfl rfl (by omega) (by decide) ?_
      refine am_run 1 (pc' := 124) (ls' := [some (.ref 0), some (.int (nI j)), some (.int (nI a)), some (.int (nI b)), some (.int (nI v)), some (.int (nI 1)), some (.int (nI k + nI 1))]) (st' := []) (σ' := (am_wr σ' 29 k (nI 1))) rfl ?_
      refine am_ls (ls' := [some (.ref 0), some (.int (nI j)), some (.int (nI a)), some (.int (nI b)), some (.int (nI v)), some (.int (nI 1)), some (.int (nI (k + 1)))]) (by rw [nI_add]) ?_
      refine am_run 1 (pc' := 80) (ls' := [some (.ref 0), some (.int (nI j)), some (.int (nI a)), some (.int (nI b)), some (.int (nI v)), some (.int (nI 1)), some (.int (nI (k + 1)))]) (st' := []) (σ' := (am_wr σ' 29 k (nI 1))) rfl ?_
      refine c_found_loop hd ha hb hn m (k + 1) _ (by omega) (fun c hc => by rw [am_wr_ne _ hc]; exact h1 c hc) h2 (fun g hg => ?_)
      by_cases e : g = k
      · subst e
        rw [am_same]
        unfold sts
        first | rw [if_pos (by assumption)] | rw [if_neg (nfl (by assumption)), if_pos (by assumption)] | rw [if_neg (nfl (by assumption)), if_neg (nfl (by assumption))]
      · rw [am_diff _ _ _ _ _ e]; exact hI g (by omega)
    · show am_G _ M_X10_found _ 99 [some (.ref 0), some (.int (nI j)), some (.int (nI a)), some (.int (nI b)), some (.int (nI v)), some (.int (nI 1)), some (.int (nI k))] [.int (nI 0), .int (nI k), .ref 29] σ'
      refine am_if (ty := 106) (tn := 102) rfl (by decide) rfl rfl (fun (h_4 : nI 0 = 0) => ?_) (fun (h_4 : ¬ (nI 0 = 0)) => ?_)
      rotate_left
      · exact absurd (by decide) h_4
      refine am_run 2 (pc' := 109) (ls' := [some (.ref 0), some (.int (nI j)), some (.int (nI a)), some (.int (nI b)), some (.int (nI v)), some (.int (nI 1)), some (.int (nI k))]) (st' := [.int (nI k), .int (nI b), .int (nI k), .ref 29]) (σ' := σ') rfl ?_
      refine am_invs (y := 149) (as := [.int (nI b), .int (nI k)]) (rest := [.int (nI k), .ref 29]) rfl rfl rfl rfl rfl rfl (Nat.le_of_ble_eq_true rfl) ?_
      refine c_m_has (by omega) (a := b) (s := k) (by omega) (by omega) (fun hb_5 => ?_) (fun hb_5 => ?_)
      · show am_G _ M_X10_found _ 112 [some (.ref 0), some (.int (nI j)), some (.int (nI a)), some (.int (nI b)), some (.int (nI v)), some (.int (nI 1)), some (.int (nI k))] [.int (nI 1), .int (nI k), .ref 29] σ'
        refine am_if (ty := 119) (tn := 115) rfl (by decide) rfl rfl (fun (h_6 : nI 1 = 0) => ?_) (fun (h_6 : ¬ (nI 1 = 0)) => ?_)
        · exact absurd h_6 (by decide)
        refine am_run 2 (pc' := 120) (ls' := [some (.ref 0), some (.int (nI j)), some (.int (nI a)), some (.int (nI b)), some (.int (nI v)), some (.int (nI 1)), some (.int (nI k))]) (st' := [.int (nI 2), .int (nI k), .ref 29]) (σ' := σ') rfl ?_
        refine am_iastN (n := 8) rfl rfl rfl (by omega) (by decide) ?_
        refine am_run 1 (pc' := 124) (ls' := [some (.ref 0), some (.int (nI j)), some (.int (nI a)), some (.int (nI b)), some (.int (nI v)), some (.int (nI 1)), some (.int (nI k + nI 1))]) (st' := []) (σ' := (am_wr σ' 29 k (nI 2))) rfl ?_
        refine am_ls (ls' := [some (.ref 0), some (.int (nI j)), some (.int (nI a)), some (.int (nI b)), some (.int (nI v)), some (.int (nI 1)), some (.int (nI (k + 1)))]) (by rw [nI_add]) ?_
        refine am_run 1 (pc' := 80) (ls' := [some (.ref 0), some (.int (nI j)), some (.int (nI a)), some (.int (nI b)), some (.int (nI v)), some (.int (nI 1)), some (.int (nI (k + 1)))]) (st' := []) (σ' := (am_wr σ' 29 k (nI 2))) rfl ?_
        refine c_found_loop hd ha hb hn m (k + 1) _ (by omega) (fun c hc => by rw [am_wr_ne _ hc]; exact h1 c hc) h2 (fun g hg => ?_)
        by_cases e : g = k
        · subst e
          rw [am_same]
          unfold sts
          first | rw [if_pos (by assumption)] | rw [if_neg (nfl (by assumption)), if_pos (by assumption)] | rw [if_neg (nfl (by assumption)), if_neg (nfl (by assumption))]
        · rw [am_diff _ _ _ _ _ e]; exact hI g (by omega)
      · show am_G _ M_X10_found _ 112 [some (.ref 0), some (.int (nI j)), some (.int (nI a)), some (.int (nI b)), some (.int (nI v)), some (.int (nI 1)), some (.int (nI k))] [.int (nI 0), .int (nI k), .ref 29] σ'
        refine am_if (ty := 119) (tn := 115) rfl (by decide) rfl rfl (fun (h_7 : nI 0 = 0) => ?_) (fun (h_7 : ¬ (nI 0 = 0)) => ?_)
        rotate_left
        · exact absurd (by decide) h_7
        refine am_run 1 (pc' := 120) (ls' := [some (.ref 0), some (.int (nI j)), some (.int (nI a)), some (.int (nI b)), some (.int (nI v)), some (.int (nI 1)), some (.int (nI k))]) (st' := [.int (nI 0), .int (nI k), .ref 29]) (σ' := σ') rfl ?_
        refine am_iastN (n := 8) rfl rfl rfl (by omega) (by decide) ?_
        refine am_run 1 (pc' := 124) (ls' := [some (.ref 0), some (.int (nI j)), some (.int (nI a)), some (.int (nI b)), some (.int (nI v)), some (.int (nI 1)), some (.int (nI k + nI 1))]) (st' := []) (σ' := (am_wr σ' 29 k (nI 0))) rfl ?_
        refine am_ls (ls' := [some (.ref 0), some (.int (nI j)), some (.int (nI a)), some (.int (nI b)), some (.int (nI v)), some (.int (nI 1)), some (.int (nI (k + 1)))]) (by rw [nI_add]) ?_
        refine am_run 1 (pc' := 80) (ls' := [some (.ref 0), some (.int (nI j)), some (.int (nI a)), some (.int (nI b)), some (.int (nI v)), some (.int (nI 1)), some (.int (nI (k + 1)))]) (st' := []) (σ' := (am_wr σ' 29 k (nI 0))) rfl ?_
        refine c_found_loop hd ha hb hn m (k + 1) _ (by omega) (fun c hc => by rw [am_wr_ne _ hc]; exact h1 c hc) h2 (fun g hg => ?_)
        by_cases e : g = k
        · subst e
          rw [am_same]
          unfold sts
          first | rw [if_pos (by assumption)] | rw [if_neg (nfl (by assumption)), if_pos (by assumption)] | rw [if_neg (nfl (by assumption)), if_neg (nfl (by assumption))]
        · rw [am_diff _ _ _ _ _ e]; exact hI g (by omega)
set_option maxRecDepth 10000 in
set_option maxHeartbeats 2000000 in
theorem pr_found {d : Nat} (hd : 600 ≤ d) {σ : am_M} (hI : Inv σ) (x y z v : Int32) : PR d 131 235 [.int x, .int y, .int z, .int v] σ := by
  rcases pl_cases hI x with hN | ⟨rfl, hF⟩ | ⟨rfl, hF⟩
  · refine ⟨-1000001, ?_⟩
    refine am_enter' (M := M_X9_found) rfl rfl rfl (by omega) (ls := [some (.ref 41), some (.int x), some (.int y), some (.int z), some (.int v), none, none, none]) rfl (fun d' hd' => ?_)
    refine am_run 2 (pc' := 2) (ls' := [some (.ref 41), some (.int x), some (.int y), some (.int z), some (.int v), none, none, none]) (st' := [.int x, .ref 41]) (σ' := σ) rfl ?_
    refine am_invv (y := 140) (b := 41) (as := [.int x]) (rest := []) rfl rfl rfl rfl rfl rfl rfl (Nat.le_of_ble_eq_true rfl) ?_
    refine c_nf (by omega) hN ?_
    show am_G _ M_X9_found _ 5 [some (.ref 41), some (.int x), some (.int y), some (.int z), some (.int v), none, none, none] [.null] σ
    refine am_run 4 (pc' := 14) (ls' := [some (.ref 41), some (.int x), some (.int y), some (.int z), some (.int v), some (.null), none, none]) (st' := [.int (-1000001)]) (σ' := σ) rfl ?_
    refine am_reti rfl rfl ?_
    refine ⟨rfl, ?_⟩
    refine am_enter' (M := M_X10_found) rfl rfl rfl (by omega) (ls := [some (.ref 0), some (.int x), some (.int y), some (.int z), some (.int v), none, none]) rfl (fun d2 hd2 => ?_)
    refine am_run 2 (pc' := 2) (ls' := [some (.ref 0), some (.int x), some (.int y), some (.int z), some (.int v), none, none]) (st' := [.int x, .ref 0]) (σ' := σ) rfl ?_
    refine am_invv (y := 151) (b := 0) (as := [.int x]) (rest := []) rfl rfl rfl rfl rfl rfl rfl (Nat.le_of_ble_eq_true rfl) ?_
    refine c_np (by omega) hN ?_
    show am_G _ M_X10_found _ 5 [some (.ref 0), some (.int x), some (.int y), some (.int z), some (.int v), none, none] [.int (nI 0)] σ
    refine am_if (ty := 8) (tn := 11) rfl (by decide) rfl rfl (fun (h_101 : nI 0 = 0) => ?_) (fun (h_101 : ¬ (nI 0 = 0)) => ?_)
    rotate_left
    · exact absurd (by decide) h_101
    refine am_run 1 (pc' := 10) (ls' := [some (.ref 0), some (.int x), some (.int y), some (.int z), some (.int v), none, none]) (st' := [.int (-1000001)]) (σ' := σ) rfl ?_
    refine am_reti rfl rfl ?_
    exact ⟨rfl, hI⟩
  · obtain ⟨hf, p, n, r, kk, rk, od, dp, ow, s, m, hP, hH⟩ := hF
    obtain ⟨hn1, hR, hro, hM, hk1, hk2, hkk, hND⟩ := id hP
    obtain ⟨a3, b3, hv, a4, b4, hm, hh⟩ := id hH
    have hW := hM.1.2.1
    have hn60 := hW.1
    have hs := hv.1
    have hrn : r < n := hM.2.1.2.1
    have hn2 := hM.1.2.2.2.1
    rcases i32_in y (k := 255) (by decide) with ⟨a, ha0, rfl⟩ | hy
    · have ha : a < 256 := by omega
      rcases i32_in z (k := 255) (by decide) with ⟨b, hb0, rfl⟩ | hz
      · have hb : b < 256 := by omega
        have hab : a &&& b ≤ a := Nat.and_le_left
        have ok2 := an_ok hW 61 (r + 1) s true a b (show r + 1 ≤ n by omega)
        rcases i32_in v (k := 3) (by decide) with ⟨u2, hu2, rfl⟩ | hv_
        · by_cases hov : a &&& b = 0
          · by_cases hs0 : s = 0
            · rcases (show u2 = 0 ∨ u2 = 1 ∨ u2 = 2 ∨ u2 = 3 by omega) with rfl | rfl | rfl | rfl
              · skip
                refine ⟨-1000003, ?_⟩
                refine am_enter' (M := M_X9_found) rfl rfl rfl (by omega) (ls := [some (.ref 41), some (.int (nI 0)), some (.int (nI a)), some (.int (nI b)), some (.int (nI 0)), none, none, none]) rfl (fun d' hd' => ?_)
                refine am_run 2 (pc' := 2) (ls' := [some (.ref 41), some (.int (nI 0)), some (.int (nI a)), some (.int (nI b)), some (.int (nI 0)), none, none, none]) (st' := [.int (nI 0), .ref 41]) (σ' := σ) rfl ?_
                refine am_invv (y := 140) (b := 41) (as := [.int (nI 0)]) (rest := []) rfl rfl rfl rfl rfl rfl rfl (Nat.le_of_ble_eq_true rfl) ?_
                refine c_filled0_1 (by omega) hf ?_
                show am_G _ M_X9_found _ 5 [some (.ref 41), some (.int (nI 0)), some (.int (nI a)), some (.int (nI b)), some (.int (nI 0)), none, none, none] [.ref 73] σ
                refine am_run 4 (pc' := 16) (ls' := [some (.ref 41), some (.int (nI 0)), some (.int (nI a)), some (.int (nI b)), some (.int (nI 0)), some (.ref 73), none, none]) (st' := [.int (nI a)]) (σ' := σ) rfl ?_
                refine am_invs (y := 141) (as := [.int (nI a)]) (rest := []) rfl rfl rfl rfl rfl rfl (Nat.le_of_ble_eq_true rfl) ?_
                refine c_sig1 (by omega) (by omega) ?_
                show am_G _ M_X9_found _ 19 [some (.ref 41), some (.int (nI 0)), some (.int (nI a)), some (.int (nI b)), some (.int (nI 0)), some (.ref 73), none, none] [.int (nI 1)] σ
                refine am_if (ty := 46) (tn := 22) rfl (by decide) rfl rfl (fun (h_1 : nI 1 = 0) => ?_) (fun (h_1 : ¬ (nI 1 = 0)) => ?_)
                · exact absurd h_1 (by decide)
                refine am_run 1 (pc' := 23) (ls' := [some (.ref 41), some (.int (nI 0)), some (.int (nI a)), some (.int (nI b)), some (.int (nI 0)), some (.ref 73), none, none]) (st' := [.int (nI b)]) (σ' := σ) rfl ?_
                refine am_invs (y := 141) (as := [.int (nI b)]) (rest := []) rfl rfl rfl rfl rfl rfl (Nat.le_of_ble_eq_true rfl) ?_
                refine c_sig1 (by omega) (by omega) ?_
                show am_G _ M_X9_found _ 26 [some (.ref 41), some (.int (nI 0)), some (.int (nI a)), some (.int (nI b)), some (.int (nI 0)), some (.ref 73), none, none] [.int (nI 1)] σ
                refine am_if (ty := 46) (tn := 29) rfl (by decide) rfl rfl (fun (h_2 : nI 1 = 0) => ?_) (fun (h_2 : ¬ (nI 1 = 0)) => ?_)
                · exact absurd h_2 (by decide)
                refine am_run 3 (pc' := 32) (ls' := [some (.ref 41), some (.int (nI 0)), some (.int (nI a)), some (.int (nI b)), some (.int (nI 0)), some (.ref 73), none, none]) (st' := [.int (nI a &&& nI b)]) (σ' := σ) rfl ?_
                refine am_top (v' := nI (a &&& b)) (nx_and _ _) ?_
                refine am_if (ty := 35) (tn := 46) rfl (by decide) rfl rfl (fun (h_3 : nI (a &&& b) = 0) => ?_) (fun (h_3 : ¬ (nI (a &&& b) = 0)) => ?_)
                rotate_left
                · have h_3 : ¬ (a &&& b = 0) := fun z => h_3 ((am_n0 (by omega)).mpr z)
                  omega
                have h_3 : a &&& b = 0 := (am_n0 (by omega)).mp h_3
                refine am_run 1 (pc' := 37) (ls' := [some (.ref 41), some (.int (nI 0)), some (.int (nI a)), some (.int (nI b)), some (.int (nI 0)), some (.ref 73), none, none]) (st' := [.int (nI 0)]) (σ' := σ) rfl ?_
                refine am_if (ty := 46) (tn := 40) rfl (by decide) rfl rfl (fun (h_4 : nI 0 < 0) => ?_) (fun (h_4 : ¬ (nI 0 < 0)) => ?_)
                · exact absurd h_4 (by decide)
                refine am_run 2 (pc' := 43) (ls' := [some (.ref 41), some (.int (nI 0)), some (.int (nI a)), some (.int (nI b)), some (.int (nI 0)), some (.ref 73), none, none]) (st' := [.int (nI 3), .int (nI 0)]) (σ' := σ) rfl ?_
                refine am_ic (ty := 46) (tn := 49) rfl (by decide) rfl rfl (fun (h_5 : nI 3 < nI 0) => ?_) (fun (h_5 : ¬ (nI 3 < nI 0)) => ?_)
                · exact absurd h_5 (by decide)
                refine am_run 1 (pc' := 51) (ls' := [some (.ref 41), some (.int (nI 0)), some (.int (nI a)), some (.int (nI b)), some (.int (nI 0)), some (.ref 73), none, none]) (st' := [.ref 73]) (σ' := σ) rfl ?_
                refine am_invv (y := 67) (b := 73) (as := []) (rest := []) rfl rfl rfl rfl rfl rfl rfl (Nat.le_of_ble_eq_true rfl) ?_
                refine am_enter' rfl rfl rfl (by omega) (ls := [some (.ref 73)]) rfl (fun d_6 hd_6 => ?_)
                refine am_run 2 (pc' := 4) (ls' := [some (.ref 73)]) (st' := [.int (σ.1 73 3)]) (σ' := σ) rfl ?_
                refine am_top (v' := nI s) a3 ?_
                refine am_reti rfl rfl ?_
                show am_G _ M_X9_found _ 54 [some (.ref 41), some (.int (nI 0)), some (.int (nI a)), some (.int (nI b)), some (.int (nI 0)), some (.ref 73), none, none] [.int (nI s)] σ
                refine am_if (ty := 57) (tn := 60) rfl (by decide) rfl rfl (fun (h_7 : nI s = 0) => ?_) (fun (h_7 : ¬ (nI s = 0)) => ?_)
                rotate_left
                · have h_7 : ¬ (s = 0) := fun z => h_7 ((am_n0 (by omega)).mpr z)
                  omega
                have h_7 : s = 0 := (am_n0 (by omega)).mp h_7
                refine am_run 1 (pc' := 59) (ls' := [some (.ref 41), some (.int (nI 0)), some (.int (nI a)), some (.int (nI b)), some (.int (nI 0)), some (.ref 73), none, none]) (st' := [.int (-1000003)]) (σ' := σ) rfl ?_
                refine am_reti rfl rfl ?_
                refine ⟨rfl, ?_⟩
                refine am_enter' (M := M_X10_found) rfl rfl rfl (by omega) (ls := [some (.ref 0), some (.int (nI 0)), some (.int (nI a)), some (.int (nI b)), some (.int (nI 0)), none, none]) rfl (fun d2 hd2 => ?_)
                refine am_run 2 (pc' := 2) (ls' := [some (.ref 0), some (.int (nI 0)), some (.int (nI a)), some (.int (nI b)), some (.int (nI 0)), none, none]) (st' := [.int (nI 0), .ref 0]) (σ' := σ) rfl ?_
                refine am_invv (y := 151) (b := 0) (as := [.int (nI 0)]) (rest := []) rfl rfl rfl rfl rfl rfl rfl (Nat.le_of_ble_eq_true rfl) ?_
                refine c_prog0_1 (by omega) (n := n) (by exact hn2) hn1 hn60 ?_
                show am_G _ M_X10_found _ 5 [some (.ref 0), some (.int (nI 0)), some (.int (nI a)), some (.int (nI b)), some (.int (nI 0)), none, none] [.int (nI 1)] σ
                refine am_if (ty := 8) (tn := 11) rfl (by decide) rfl rfl (fun (h_101 : nI 1 = 0) => ?_) (fun (h_101 : ¬ (nI 1 = 0)) => ?_)
                · exact absurd h_101 (by decide)
                refine am_run 3 (pc' := 16) (ls' := [some (.ref 0), some (.int (nI 0)), some (.int (nI a)), some (.int (nI b)), some (.int (nI 0)), none, none]) (st' := [.int (nI 255), .int (nI 0), .int (nI a)]) (σ' := σ) rfl ?_
                refine am_invs (y := 148) (as := [.int (nI a), .int (nI 0), .int (nI 255)]) (rest := []) rfl rfl rfl rfl rfl rfl (Nat.le_of_ble_eq_true rfl) ?_
                refine c_in1 (by omega) (by omega) (by omega) (by omega) ?_
                show am_G _ M_X10_found _ 19 [some (.ref 0), some (.int (nI 0)), some (.int (nI a)), some (.int (nI b)), some (.int (nI 0)), none, none] [.int (nI 1)] σ
                refine am_if (ty := 47) (tn := 22) rfl (by decide) rfl rfl (fun (h_102 : nI 1 = 0) => ?_) (fun (h_102 : ¬ (nI 1 = 0)) => ?_)
                · exact absurd h_102 (by decide)
                refine am_run 3 (pc' := 27) (ls' := [some (.ref 0), some (.int (nI 0)), some (.int (nI a)), some (.int (nI b)), some (.int (nI 0)), none, none]) (st' := [.int (nI 255), .int (nI 0), .int (nI b)]) (σ' := σ) rfl ?_
                refine am_invs (y := 148) (as := [.int (nI b), .int (nI 0), .int (nI 255)]) (rest := []) rfl rfl rfl rfl rfl rfl (Nat.le_of_ble_eq_true rfl) ?_
                refine c_in1 (by omega) (by omega) (by omega) (by omega) ?_
                show am_G _ M_X10_found _ 30 [some (.ref 0), some (.int (nI 0)), some (.int (nI a)), some (.int (nI b)), some (.int (nI 0)), none, none] [.int (nI 1)] σ
                refine am_if (ty := 47) (tn := 33) rfl (by decide) rfl rfl (fun (h_103 : nI 1 = 0) => ?_) (fun (h_103 : ¬ (nI 1 = 0)) => ?_)
                · exact absurd h_103 (by decide)
                refine am_run 3 (pc' := 37) (ls' := [some (.ref 0), some (.int (nI 0)), some (.int (nI a)), some (.int (nI b)), some (.int (nI 0)), none, none]) (st' := [.int (nI 3), .int (nI 0), .int (nI 0)]) (σ' := σ) rfl ?_
                refine am_invs (y := 148) (as := [.int (nI 0), .int (nI 0), .int (nI 3)]) (rest := []) rfl rfl rfl rfl rfl rfl (Nat.le_of_ble_eq_true rfl) ?_
                refine c_in1 (by omega) (by omega) (by omega) (by omega) ?_
                show am_G _ M_X10_found _ 40 [some (.ref 0), some (.int (nI 0)), some (.int (nI a)), some (.int (nI b)), some (.int (nI 0)), none, none] [.int (nI 1)] σ
                refine am_if (ty := 47) (tn := 43) rfl (by decide) rfl rfl (fun (h_104 : nI 1 = 0) => ?_) (fun (h_104 : ¬ (nI 1 = 0)) => ?_)
                · exact absurd h_104 (by decide)
                refine am_run 4 (pc' := 52) (ls' := [some (.ref 0), some (.int (nI 0)), some (.int (nI a)), some (.int (nI b)), some (.int (nI 0)), some (.int (nI 1)), none]) (st' := [.int (nI 1)]) (σ' := σ) rfl ?_
                refine am_if (ty := 61) (tn := 55) rfl (by decide) rfl rfl (fun (h_105 : nI 1 = 0) => ?_) (fun (h_105 : ¬ (nI 1 = 0)) => ?_)
                · exact absurd h_105 (by decide)
                refine am_run 3 (pc' := 58) (ls' := [some (.ref 0), some (.int (nI 0)), some (.int (nI a)), some (.int (nI b)), some (.int (nI 0)), some (.int (nI 1)), none]) (st' := [.int (nI a &&& nI b)]) (σ' := σ) rfl ?_
                refine am_top (v' := nI (a &&& b)) (nx_and _ _) ?_
                refine am_if (ty := 64) (tn := 61) rfl (by decide) rfl rfl (fun (h_106 : nI (a &&& b) = 0) => ?_) (fun (h_106 : ¬ (nI (a &&& b) = 0)) => ?_)
                rotate_left
                · have h_106 : ¬ (a &&& b = 0) := fun z => h_106 ((am_n0 (by omega)).mpr z)
                  omega
                have h_106 : a &&& b = 0 := (am_n0 (by omega)).mp h_106
                refine am_run 3 (pc' := 69) (ls' := [some (.ref 0), some (.int (nI 0)), some (.int (nI a)), some (.int (nI b)), some (.int (nI 0)), some (.int (nI 1)), none]) (st' := [.int (nI 0), .ref 17]) (σ' := σ) rfl ?_
                refine am_ialdN (n := 2) (v := nI s) rfl rfl rfl (by decide) b3 (by decide) ?_
                refine am_if (ty := 73) (tn := 77) rfl (by decide) rfl rfl (fun (h_107 : nI s = 0) => ?_) (fun (h_107 : ¬ (nI s = 0)) => ?_)
                rotate_left
                · have h_107 : ¬ (s = 0) := fun z => h_107 ((am_n0 (by omega)).mpr z)
                  omega
                have h_107 : s = 0 := (am_n0 (by omega)).mp h_107
                refine am_run 1 (pc' := 76) (ls' := [some (.ref 0), some (.int (nI 0)), some (.int (nI a)), some (.int (nI b)), some (.int (nI 0)), some (.int (nI 1)), none]) (st' := [.int (-1000003)]) (σ' := σ) rfl ?_
                refine am_reti rfl rfl ?_
                exact ⟨rfl, hI⟩
              · skip
                refine ⟨-1000003, ?_⟩
                refine am_enter' (M := M_X9_found) rfl rfl rfl (by omega) (ls := [some (.ref 41), some (.int (nI 0)), some (.int (nI a)), some (.int (nI b)), some (.int (nI 1)), none, none, none]) rfl (fun d' hd' => ?_)
                refine am_run 2 (pc' := 2) (ls' := [some (.ref 41), some (.int (nI 0)), some (.int (nI a)), some (.int (nI b)), some (.int (nI 1)), none, none, none]) (st' := [.int (nI 0), .ref 41]) (σ' := σ) rfl ?_
                refine am_invv (y := 140) (b := 41) (as := [.int (nI 0)]) (rest := []) rfl rfl rfl rfl rfl rfl rfl (Nat.le_of_ble_eq_true rfl) ?_
                refine c_filled0_1 (by omega) hf ?_
                show am_G _ M_X9_found _ 5 [some (.ref 41), some (.int (nI 0)), some (.int (nI a)), some (.int (nI b)), some (.int (nI 1)), none, none, none] [.ref 73] σ
                refine am_run 4 (pc' := 16) (ls' := [some (.ref 41), some (.int (nI 0)), some (.int (nI a)), some (.int (nI b)), some (.int (nI 1)), some (.ref 73), none, none]) (st' := [.int (nI a)]) (σ' := σ) rfl ?_
                refine am_invs (y := 141) (as := [.int (nI a)]) (rest := []) rfl rfl rfl rfl rfl rfl (Nat.le_of_ble_eq_true rfl) ?_
                refine c_sig1 (by omega) (by omega) ?_
                show am_G _ M_X9_found _ 19 [some (.ref 41), some (.int (nI 0)), some (.int (nI a)), some (.int (nI b)), some (.int (nI 1)), some (.ref 73), none, none] [.int (nI 1)] σ
                refine am_if (ty := 46) (tn := 22) rfl (by decide) rfl rfl (fun (h_1 : nI 1 = 0) => ?_) (fun (h_1 : ¬ (nI 1 = 0)) => ?_)
                · exact absurd h_1 (by decide)
                refine am_run 1 (pc' := 23) (ls' := [some (.ref 41), some (.int (nI 0)), some (.int (nI a)), some (.int (nI b)), some (.int (nI 1)), some (.ref 73), none, none]) (st' := [.int (nI b)]) (σ' := σ) rfl ?_
                refine am_invs (y := 141) (as := [.int (nI b)]) (rest := []) rfl rfl rfl rfl rfl rfl (Nat.le_of_ble_eq_true rfl) ?_
                refine c_sig1 (by omega) (by omega) ?_
                show am_G _ M_X9_found _ 26 [some (.ref 41), some (.int (nI 0)), some (.int (nI a)), some (.int (nI b)), some (.int (nI 1)), some (.ref 73), none, none] [.int (nI 1)] σ
                refine am_if (ty := 46) (tn := 29) rfl (by decide) rfl rfl (fun (h_2 : nI 1 = 0) => ?_) (fun (h_2 : ¬ (nI 1 = 0)) => ?_)
                · exact absurd h_2 (by decide)
                refine am_run 3 (pc' := 32) (ls' := [some (.ref 41), some (.int (nI 0)), some (.int (nI a)), some (.int (nI b)), some (.int (nI 1)), some (.ref 73), none, none]) (st' := [.int (nI a &&& nI b)]) (σ' := σ) rfl ?_
                refine am_top (v' := nI (a &&& b)) (nx_and _ _) ?_
                refine am_if (ty := 35) (tn := 46) rfl (by decide) rfl rfl (fun (h_3 : nI (a &&& b) = 0) => ?_) (fun (h_3 : ¬ (nI (a &&& b) = 0)) => ?_)
                rotate_left
                · have h_3 : ¬ (a &&& b = 0) := fun z => h_3 ((am_n0 (by omega)).mpr z)
                  omega
                have h_3 : a &&& b = 0 := (am_n0 (by omega)).mp h_3
                refine am_run 1 (pc' := 37) (ls' := [some (.ref 41), some (.int (nI 0)), some (.int (nI a)), some (.int (nI b)), some (.int (nI 1)), some (.ref 73), none, none]) (st' := [.int (nI 1)]) (σ' := σ) rfl ?_
                refine am_if (ty := 46) (tn := 40) rfl (by decide) rfl rfl (fun (h_4 : nI 1 < 0) => ?_) (fun (h_4 : ¬ (nI 1 < 0)) => ?_)
                · exact absurd h_4 (by decide)
                refine am_run 2 (pc' := 43) (ls' := [some (.ref 41), some (.int (nI 0)), some (.int (nI a)), some (.int (nI b)), some (.int (nI 1)), some (.ref 73), none, none]) (st' := [.int (nI 3), .int (nI 1)]) (σ' := σ) rfl ?_
                refine am_ic (ty := 46) (tn := 49) rfl (by decide) rfl rfl (fun (h_5 : nI 3 < nI 1) => ?_) (fun (h_5 : ¬ (nI 3 < nI 1)) => ?_)
                · exact absurd h_5 (by decide)
                refine am_run 1 (pc' := 51) (ls' := [some (.ref 41), some (.int (nI 0)), some (.int (nI a)), some (.int (nI b)), some (.int (nI 1)), some (.ref 73), none, none]) (st' := [.ref 73]) (σ' := σ) rfl ?_
                refine am_invv (y := 67) (b := 73) (as := []) (rest := []) rfl rfl rfl rfl rfl rfl rfl (Nat.le_of_ble_eq_true rfl) ?_
                refine am_enter' rfl rfl rfl (by omega) (ls := [some (.ref 73)]) rfl (fun d_6 hd_6 => ?_)
                refine am_run 2 (pc' := 4) (ls' := [some (.ref 73)]) (st' := [.int (σ.1 73 3)]) (σ' := σ) rfl ?_
                refine am_top (v' := nI s) a3 ?_
                refine am_reti rfl rfl ?_
                show am_G _ M_X9_found _ 54 [some (.ref 41), some (.int (nI 0)), some (.int (nI a)), some (.int (nI b)), some (.int (nI 1)), some (.ref 73), none, none] [.int (nI s)] σ
                refine am_if (ty := 57) (tn := 60) rfl (by decide) rfl rfl (fun (h_7 : nI s = 0) => ?_) (fun (h_7 : ¬ (nI s = 0)) => ?_)
                rotate_left
                · have h_7 : ¬ (s = 0) := fun z => h_7 ((am_n0 (by omega)).mpr z)
                  omega
                have h_7 : s = 0 := (am_n0 (by omega)).mp h_7
                refine am_run 1 (pc' := 59) (ls' := [some (.ref 41), some (.int (nI 0)), some (.int (nI a)), some (.int (nI b)), some (.int (nI 1)), some (.ref 73), none, none]) (st' := [.int (-1000003)]) (σ' := σ) rfl ?_
                refine am_reti rfl rfl ?_
                refine ⟨rfl, ?_⟩
                refine am_enter' (M := M_X10_found) rfl rfl rfl (by omega) (ls := [some (.ref 0), some (.int (nI 0)), some (.int (nI a)), some (.int (nI b)), some (.int (nI 1)), none, none]) rfl (fun d2 hd2 => ?_)
                refine am_run 2 (pc' := 2) (ls' := [some (.ref 0), some (.int (nI 0)), some (.int (nI a)), some (.int (nI b)), some (.int (nI 1)), none, none]) (st' := [.int (nI 0), .ref 0]) (σ' := σ) rfl ?_
                refine am_invv (y := 151) (b := 0) (as := [.int (nI 0)]) (rest := []) rfl rfl rfl rfl rfl rfl rfl (Nat.le_of_ble_eq_true rfl) ?_
                refine c_prog0_1 (by omega) (n := n) (by exact hn2) hn1 hn60 ?_
                show am_G _ M_X10_found _ 5 [some (.ref 0), some (.int (nI 0)), some (.int (nI a)), some (.int (nI b)), some (.int (nI 1)), none, none] [.int (nI 1)] σ
                refine am_if (ty := 8) (tn := 11) rfl (by decide) rfl rfl (fun (h_101 : nI 1 = 0) => ?_) (fun (h_101 : ¬ (nI 1 = 0)) => ?_)
                · exact absurd h_101 (by decide)
                refine am_run 3 (pc' := 16) (ls' := [some (.ref 0), some (.int (nI 0)), some (.int (nI a)), some (.int (nI b)), some (.int (nI 1)), none, none]) (st' := [.int (nI 255), .int (nI 0), .int (nI a)]) (σ' := σ) rfl ?_
                refine am_invs (y := 148) (as := [.int (nI a), .int (nI 0), .int (nI 255)]) (rest := []) rfl rfl rfl rfl rfl rfl (Nat.le_of_ble_eq_true rfl) ?_
                refine c_in1 (by omega) (by omega) (by omega) (by omega) ?_
                show am_G _ M_X10_found _ 19 [some (.ref 0), some (.int (nI 0)), some (.int (nI a)), some (.int (nI b)), some (.int (nI 1)), none, none] [.int (nI 1)] σ
                refine am_if (ty := 47) (tn := 22) rfl (by decide) rfl rfl (fun (h_102 : nI 1 = 0) => ?_) (fun (h_102 : ¬ (nI 1 = 0)) => ?_)
                · exact absurd h_102 (by decide)
                refine am_run 3 (pc' := 27) (ls' := [some (.ref 0), some (.int (nI 0)), some (.int (nI a)), some (.int (nI b)), some (.int (nI 1)), none, none]) (st' := [.int (nI 255), .int (nI 0), .int (nI b)]) (σ' := σ) rfl ?_
                refine am_invs (y := 148) (as := [.int (nI b), .int (nI 0), .int (nI 255)]) (rest := []) rfl rfl rfl rfl rfl rfl (Nat.le_of_ble_eq_true rfl) ?_
                refine c_in1 (by omega) (by omega) (by omega) (by omega) ?_
                show am_G _ M_X10_found _ 30 [some (.ref 0), some (.int (nI 0)), some (.int (nI a)), some (.int (nI b)), some (.int (nI 1)), none, none] [.int (nI 1)] σ
                refine am_if (ty := 47) (tn := 33) rfl (by decide) rfl rfl (fun (h_103 : nI 1 = 0) => ?_) (fun (h_103 : ¬ (nI 1 = 0)) => ?_)
                · exact absurd h_103 (by decide)
                refine am_run 3 (pc' := 37) (ls' := [some (.ref 0), some (.int (nI 0)), some (.int (nI a)), some (.int (nI b)), some (.int (nI 1)), none, none]) (st' := [.int (nI 3), .int (nI 0), .int (nI 1)]) (σ' := σ) rfl ?_
                refine am_invs (y := 148) (as := [.int (nI 1), .int (nI 0), .int (nI 3)]) (rest := []) rfl rfl rfl rfl rfl rfl (Nat.le_of_ble_eq_true rfl) ?_
                refine c_in1 (by omega) (by omega) (by omega) (by omega) ?_
                show am_G _ M_X10_found _ 40 [some (.ref 0), some (.int (nI 0)), some (.int (nI a)), some (.int (nI b)), some (.int (nI 1)), none, none] [.int (nI 1)] σ
                refine am_if (ty := 47) (tn := 43) rfl (by decide) rfl rfl (fun (h_104 : nI 1 = 0) => ?_) (fun (h_104 : ¬ (nI 1 = 0)) => ?_)
                · exact absurd h_104 (by decide)
                refine am_run 4 (pc' := 52) (ls' := [some (.ref 0), some (.int (nI 0)), some (.int (nI a)), some (.int (nI b)), some (.int (nI 1)), some (.int (nI 1)), none]) (st' := [.int (nI 1)]) (σ' := σ) rfl ?_
                refine am_if (ty := 61) (tn := 55) rfl (by decide) rfl rfl (fun (h_105 : nI 1 = 0) => ?_) (fun (h_105 : ¬ (nI 1 = 0)) => ?_)
                · exact absurd h_105 (by decide)
                refine am_run 3 (pc' := 58) (ls' := [some (.ref 0), some (.int (nI 0)), some (.int (nI a)), some (.int (nI b)), some (.int (nI 1)), some (.int (nI 1)), none]) (st' := [.int (nI a &&& nI b)]) (σ' := σ) rfl ?_
                refine am_top (v' := nI (a &&& b)) (nx_and _ _) ?_
                refine am_if (ty := 64) (tn := 61) rfl (by decide) rfl rfl (fun (h_106 : nI (a &&& b) = 0) => ?_) (fun (h_106 : ¬ (nI (a &&& b) = 0)) => ?_)
                rotate_left
                · have h_106 : ¬ (a &&& b = 0) := fun z => h_106 ((am_n0 (by omega)).mpr z)
                  omega
                have h_106 : a &&& b = 0 := (am_n0 (by omega)).mp h_106
                refine am_run 3 (pc' := 69) (ls' := [some (.ref 0), some (.int (nI 0)), some (.int (nI a)), some (.int (nI b)), some (.int (nI 1)), some (.int (nI 1)), none]) (st' := [.int (nI 0), .ref 17]) (σ' := σ) rfl ?_
                refine am_ialdN (n := 2) (v := nI s) rfl rfl rfl (by decide) b3 (by decide) ?_
                refine am_if (ty := 73) (tn := 77) rfl (by decide) rfl rfl (fun (h_107 : nI s = 0) => ?_) (fun (h_107 : ¬ (nI s = 0)) => ?_)
                rotate_left
                · have h_107 : ¬ (s = 0) := fun z => h_107 ((am_n0 (by omega)).mpr z)
                  omega
                have h_107 : s = 0 := (am_n0 (by omega)).mp h_107
                refine am_run 1 (pc' := 76) (ls' := [some (.ref 0), some (.int (nI 0)), some (.int (nI a)), some (.int (nI b)), some (.int (nI 1)), some (.int (nI 1)), none]) (st' := [.int (-1000003)]) (σ' := σ) rfl ?_
                refine am_reti rfl rfl ?_
                exact ⟨rfl, hI⟩
              · skip
                refine ⟨-1000003, ?_⟩
                refine am_enter' (M := M_X9_found) rfl rfl rfl (by omega) (ls := [some (.ref 41), some (.int (nI 0)), some (.int (nI a)), some (.int (nI b)), some (.int (nI 2)), none, none, none]) rfl (fun d' hd' => ?_)
                refine am_run 2 (pc' := 2) (ls' := [some (.ref 41), some (.int (nI 0)), some (.int (nI a)), some (.int (nI b)), some (.int (nI 2)), none, none, none]) (st' := [.int (nI 0), .ref 41]) (σ' := σ) rfl ?_
                refine am_invv (y := 140) (b := 41) (as := [.int (nI 0)]) (rest := []) rfl rfl rfl rfl rfl rfl rfl (Nat.le_of_ble_eq_true rfl) ?_
                refine c_filled0_1 (by omega) hf ?_
                show am_G _ M_X9_found _ 5 [some (.ref 41), some (.int (nI 0)), some (.int (nI a)), some (.int (nI b)), some (.int (nI 2)), none, none, none] [.ref 73] σ
                refine am_run 4 (pc' := 16) (ls' := [some (.ref 41), some (.int (nI 0)), some (.int (nI a)), some (.int (nI b)), some (.int (nI 2)), some (.ref 73), none, none]) (st' := [.int (nI a)]) (σ' := σ) rfl ?_
                refine am_invs (y := 141) (as := [.int (nI a)]) (rest := []) rfl rfl rfl rfl rfl rfl (Nat.le_of_ble_eq_true rfl) ?_
                refine c_sig1 (by omega) (by omega) ?_
                show am_G _ M_X9_found _ 19 [some (.ref 41), some (.int (nI 0)), some (.int (nI a)), some (.int (nI b)), some (.int (nI 2)), some (.ref 73), none, none] [.int (nI 1)] σ
                refine am_if (ty := 46) (tn := 22) rfl (by decide) rfl rfl (fun (h_1 : nI 1 = 0) => ?_) (fun (h_1 : ¬ (nI 1 = 0)) => ?_)
                · exact absurd h_1 (by decide)
                refine am_run 1 (pc' := 23) (ls' := [some (.ref 41), some (.int (nI 0)), some (.int (nI a)), some (.int (nI b)), some (.int (nI 2)), some (.ref 73), none, none]) (st' := [.int (nI b)]) (σ' := σ) rfl ?_
                refine am_invs (y := 141) (as := [.int (nI b)]) (rest := []) rfl rfl rfl rfl rfl rfl (Nat.le_of_ble_eq_true rfl) ?_
                refine c_sig1 (by omega) (by omega) ?_
                show am_G _ M_X9_found _ 26 [some (.ref 41), some (.int (nI 0)), some (.int (nI a)), some (.int (nI b)), some (.int (nI 2)), some (.ref 73), none, none] [.int (nI 1)] σ
                refine am_if (ty := 46) (tn := 29) rfl (by decide) rfl rfl (fun (h_2 : nI 1 = 0) => ?_) (fun (h_2 : ¬ (nI 1 = 0)) => ?_)
                · exact absurd h_2 (by decide)
                refine am_run 3 (pc' := 32) (ls' := [some (.ref 41), some (.int (nI 0)), some (.int (nI a)), some (.int (nI b)), some (.int (nI 2)), some (.ref 73), none, none]) (st' := [.int (nI a &&& nI b)]) (σ' := σ) rfl ?_
                refine am_top (v' := nI (a &&& b)) (nx_and _ _) ?_
                refine am_if (ty := 35) (tn := 46) rfl (by decide) rfl rfl (fun (h_3 : nI (a &&& b) = 0) => ?_) (fun (h_3 : ¬ (nI (a &&& b) = 0)) => ?_)
                rotate_left
                · have h_3 : ¬ (a &&& b = 0) := fun z => h_3 ((am_n0 (by omega)).mpr z)
                  omega
                have h_3 : a &&& b = 0 := (am_n0 (by omega)).mp h_3
                refine am_run 1 (pc' := 37) (ls' := [some (.ref 41), some (.int (nI 0)), some (.int (nI a)), some (.int (nI b)), some (.int (nI 2)), some (.ref 73), none, none]) (st' := [.int (nI 2)]) (σ' := σ) rfl ?_
                refine am_if (ty := 46) (tn := 40) rfl (by decide) rfl rfl (fun (h_4 : nI 2 < 0) => ?_) (fun (h_4 : ¬ (nI 2 < 0)) => ?_)
                · exact absurd h_4 (by decide)
                refine am_run 2 (pc' := 43) (ls' := [some (.ref 41), some (.int (nI 0)), some (.int (nI a)), some (.int (nI b)), some (.int (nI 2)), some (.ref 73), none, none]) (st' := [.int (nI 3), .int (nI 2)]) (σ' := σ) rfl ?_
                refine am_ic (ty := 46) (tn := 49) rfl (by decide) rfl rfl (fun (h_5 : nI 3 < nI 2) => ?_) (fun (h_5 : ¬ (nI 3 < nI 2)) => ?_)
                · exact absurd h_5 (by decide)
                refine am_run 1 (pc' := 51) (ls' := [some (.ref 41), some (.int (nI 0)), some (.int (nI a)), some (.int (nI b)), some (.int (nI 2)), some (.ref 73), none, none]) (st' := [.ref 73]) (σ' := σ) rfl ?_
                refine am_invv (y := 67) (b := 73) (as := []) (rest := []) rfl rfl rfl rfl rfl rfl rfl (Nat.le_of_ble_eq_true rfl) ?_
                refine am_enter' rfl rfl rfl (by omega) (ls := [some (.ref 73)]) rfl (fun d_6 hd_6 => ?_)
                refine am_run 2 (pc' := 4) (ls' := [some (.ref 73)]) (st' := [.int (σ.1 73 3)]) (σ' := σ) rfl ?_
                refine am_top (v' := nI s) a3 ?_
                refine am_reti rfl rfl ?_
                show am_G _ M_X9_found _ 54 [some (.ref 41), some (.int (nI 0)), some (.int (nI a)), some (.int (nI b)), some (.int (nI 2)), some (.ref 73), none, none] [.int (nI s)] σ
                refine am_if (ty := 57) (tn := 60) rfl (by decide) rfl rfl (fun (h_7 : nI s = 0) => ?_) (fun (h_7 : ¬ (nI s = 0)) => ?_)
                rotate_left
                · have h_7 : ¬ (s = 0) := fun z => h_7 ((am_n0 (by omega)).mpr z)
                  omega
                have h_7 : s = 0 := (am_n0 (by omega)).mp h_7
                refine am_run 1 (pc' := 59) (ls' := [some (.ref 41), some (.int (nI 0)), some (.int (nI a)), some (.int (nI b)), some (.int (nI 2)), some (.ref 73), none, none]) (st' := [.int (-1000003)]) (σ' := σ) rfl ?_
                refine am_reti rfl rfl ?_
                refine ⟨rfl, ?_⟩
                refine am_enter' (M := M_X10_found) rfl rfl rfl (by omega) (ls := [some (.ref 0), some (.int (nI 0)), some (.int (nI a)), some (.int (nI b)), some (.int (nI 2)), none, none]) rfl (fun d2 hd2 => ?_)
                refine am_run 2 (pc' := 2) (ls' := [some (.ref 0), some (.int (nI 0)), some (.int (nI a)), some (.int (nI b)), some (.int (nI 2)), none, none]) (st' := [.int (nI 0), .ref 0]) (σ' := σ) rfl ?_
                refine am_invv (y := 151) (b := 0) (as := [.int (nI 0)]) (rest := []) rfl rfl rfl rfl rfl rfl rfl (Nat.le_of_ble_eq_true rfl) ?_
                refine c_prog0_1 (by omega) (n := n) (by exact hn2) hn1 hn60 ?_
                show am_G _ M_X10_found _ 5 [some (.ref 0), some (.int (nI 0)), some (.int (nI a)), some (.int (nI b)), some (.int (nI 2)), none, none] [.int (nI 1)] σ
                refine am_if (ty := 8) (tn := 11) rfl (by decide) rfl rfl (fun (h_101 : nI 1 = 0) => ?_) (fun (h_101 : ¬ (nI 1 = 0)) => ?_)
                · exact absurd h_101 (by decide)
                refine am_run 3 (pc' := 16) (ls' := [some (.ref 0), some (.int (nI 0)), some (.int (nI a)), some (.int (nI b)), some (.int (nI 2)), none, none]) (st' := [.int (nI 255), .int (nI 0), .int (nI a)]) (σ' := σ) rfl ?_
                refine am_invs (y := 148) (as := [.int (nI a), .int (nI 0), .int (nI 255)]) (rest := []) rfl rfl rfl rfl rfl rfl (Nat.le_of_ble_eq_true rfl) ?_
                refine c_in1 (by omega) (by omega) (by omega) (by omega) ?_
                show am_G _ M_X10_found _ 19 [some (.ref 0), some (.int (nI 0)), some (.int (nI a)), some (.int (nI b)), some (.int (nI 2)), none, none] [.int (nI 1)] σ
                refine am_if (ty := 47) (tn := 22) rfl (by decide) rfl rfl (fun (h_102 : nI 1 = 0) => ?_) (fun (h_102 : ¬ (nI 1 = 0)) => ?_)
                · exact absurd h_102 (by decide)
                refine am_run 3 (pc' := 27) (ls' := [some (.ref 0), some (.int (nI 0)), some (.int (nI a)), some (.int (nI b)), some (.int (nI 2)), none, none]) (st' := [.int (nI 255), .int (nI 0), .int (nI b)]) (σ' := σ) rfl ?_
                refine am_invs (y := 148) (as := [.int (nI b), .int (nI 0), .int (nI 255)]) (rest := []) rfl rfl rfl rfl rfl rfl (Nat.le_of_ble_eq_true rfl) ?_
                refine c_in1 (by omega) (by omega) (by omega) (by omega) ?_
                show am_G _ M_X10_found _ 30 [some (.ref 0), some (.int (nI 0)), some (.int (nI a)), some (.int (nI b)), some (.int (nI 2)), none, none] [.int (nI 1)] σ
                refine am_if (ty := 47) (tn := 33) rfl (by decide) rfl rfl (fun (h_103 : nI 1 = 0) => ?_) (fun (h_103 : ¬ (nI 1 = 0)) => ?_)
                · exact absurd h_103 (by decide)
                refine am_run 3 (pc' := 37) (ls' := [some (.ref 0), some (.int (nI 0)), some (.int (nI a)), some (.int (nI b)), some (.int (nI 2)), none, none]) (st' := [.int (nI 3), .int (nI 0), .int (nI 2)]) (σ' := σ) rfl ?_
                refine am_invs (y := 148) (as := [.int (nI 2), .int (nI 0), .int (nI 3)]) (rest := []) rfl rfl rfl rfl rfl rfl (Nat.le_of_ble_eq_true rfl) ?_
                refine c_in1 (by omega) (by omega) (by omega) (by omega) ?_
                show am_G _ M_X10_found _ 40 [some (.ref 0), some (.int (nI 0)), some (.int (nI a)), some (.int (nI b)), some (.int (nI 2)), none, none] [.int (nI 1)] σ
                refine am_if (ty := 47) (tn := 43) rfl (by decide) rfl rfl (fun (h_104 : nI 1 = 0) => ?_) (fun (h_104 : ¬ (nI 1 = 0)) => ?_)
                · exact absurd h_104 (by decide)
                refine am_run 4 (pc' := 52) (ls' := [some (.ref 0), some (.int (nI 0)), some (.int (nI a)), some (.int (nI b)), some (.int (nI 2)), some (.int (nI 1)), none]) (st' := [.int (nI 1)]) (σ' := σ) rfl ?_
                refine am_if (ty := 61) (tn := 55) rfl (by decide) rfl rfl (fun (h_105 : nI 1 = 0) => ?_) (fun (h_105 : ¬ (nI 1 = 0)) => ?_)
                · exact absurd h_105 (by decide)
                refine am_run 3 (pc' := 58) (ls' := [some (.ref 0), some (.int (nI 0)), some (.int (nI a)), some (.int (nI b)), some (.int (nI 2)), some (.int (nI 1)), none]) (st' := [.int (nI a &&& nI b)]) (σ' := σ) rfl ?_
                refine am_top (v' := nI (a &&& b)) (nx_and _ _) ?_
                refine am_if (ty := 64) (tn := 61) rfl (by decide) rfl rfl (fun (h_106 : nI (a &&& b) = 0) => ?_) (fun (h_106 : ¬ (nI (a &&& b) = 0)) => ?_)
                rotate_left
                · have h_106 : ¬ (a &&& b = 0) := fun z => h_106 ((am_n0 (by omega)).mpr z)
                  omega
                have h_106 : a &&& b = 0 := (am_n0 (by omega)).mp h_106
                refine am_run 3 (pc' := 69) (ls' := [some (.ref 0), some (.int (nI 0)), some (.int (nI a)), some (.int (nI b)), some (.int (nI 2)), some (.int (nI 1)), none]) (st' := [.int (nI 0), .ref 17]) (σ' := σ) rfl ?_
                refine am_ialdN (n := 2) (v := nI s) rfl rfl rfl (by decide) b3 (by decide) ?_
                refine am_if (ty := 73) (tn := 77) rfl (by decide) rfl rfl (fun (h_107 : nI s = 0) => ?_) (fun (h_107 : ¬ (nI s = 0)) => ?_)
                rotate_left
                · have h_107 : ¬ (s = 0) := fun z => h_107 ((am_n0 (by omega)).mpr z)
                  omega
                have h_107 : s = 0 := (am_n0 (by omega)).mp h_107
                refine am_run 1 (pc' := 76) (ls' := [some (.ref 0), some (.int (nI 0)), some (.int (nI a)), some (.int (nI b)), some (.int (nI 2)), some (.int (nI 1)), none]) (st' := [.int (-1000003)]) (σ' := σ) rfl ?_
                refine am_reti rfl rfl ?_
                exact ⟨rfl, hI⟩
              · skip
                refine ⟨-1000003, ?_⟩
                refine am_enter' (M := M_X9_found) rfl rfl rfl (by omega) (ls := [some (.ref 41), some (.int (nI 0)), some (.int (nI a)), some (.int (nI b)), some (.int (nI 3)), none, none, none]) rfl (fun d' hd' => ?_)
                refine am_run 2 (pc' := 2) (ls' := [some (.ref 41), some (.int (nI 0)), some (.int (nI a)), some (.int (nI b)), some (.int (nI 3)), none, none, none]) (st' := [.int (nI 0), .ref 41]) (σ' := σ) rfl ?_
                refine am_invv (y := 140) (b := 41) (as := [.int (nI 0)]) (rest := []) rfl rfl rfl rfl rfl rfl rfl (Nat.le_of_ble_eq_true rfl) ?_
                refine c_filled0_1 (by omega) hf ?_
                show am_G _ M_X9_found _ 5 [some (.ref 41), some (.int (nI 0)), some (.int (nI a)), some (.int (nI b)), some (.int (nI 3)), none, none, none] [.ref 73] σ
                refine am_run 4 (pc' := 16) (ls' := [some (.ref 41), some (.int (nI 0)), some (.int (nI a)), some (.int (nI b)), some (.int (nI 3)), some (.ref 73), none, none]) (st' := [.int (nI a)]) (σ' := σ) rfl ?_
                refine am_invs (y := 141) (as := [.int (nI a)]) (rest := []) rfl rfl rfl rfl rfl rfl (Nat.le_of_ble_eq_true rfl) ?_
                refine c_sig1 (by omega) (by omega) ?_
                show am_G _ M_X9_found _ 19 [some (.ref 41), some (.int (nI 0)), some (.int (nI a)), some (.int (nI b)), some (.int (nI 3)), some (.ref 73), none, none] [.int (nI 1)] σ
                refine am_if (ty := 46) (tn := 22) rfl (by decide) rfl rfl (fun (h_1 : nI 1 = 0) => ?_) (fun (h_1 : ¬ (nI 1 = 0)) => ?_)
                · exact absurd h_1 (by decide)
                refine am_run 1 (pc' := 23) (ls' := [some (.ref 41), some (.int (nI 0)), some (.int (nI a)), some (.int (nI b)), some (.int (nI 3)), some (.ref 73), none, none]) (st' := [.int (nI b)]) (σ' := σ) rfl ?_
                refine am_invs (y := 141) (as := [.int (nI b)]) (rest := []) rfl rfl rfl rfl rfl rfl (Nat.le_of_ble_eq_true rfl) ?_
                refine c_sig1 (by omega) (by omega) ?_
                show am_G _ M_X9_found _ 26 [some (.ref 41), some (.int (nI 0)), some (.int (nI a)), some (.int (nI b)), some (.int (nI 3)), some (.ref 73), none, none] [.int (nI 1)] σ
                refine am_if (ty := 46) (tn := 29) rfl (by decide) rfl rfl (fun (h_2 : nI 1 = 0) => ?_) (fun (h_2 : ¬ (nI 1 = 0)) => ?_)
                · exact absurd h_2 (by decide)
                refine am_run 3 (pc' := 32) (ls' := [some (.ref 41), some (.int (nI 0)), some (.int (nI a)), some (.int (nI b)), some (.int (nI 3)), some (.ref 73), none, none]) (st' := [.int (nI a &&& nI b)]) (σ' := σ) rfl ?_
                refine am_top (v' := nI (a &&& b)) (nx_and _ _) ?_
                refine am_if (ty := 35) (tn := 46) rfl (by decide) rfl rfl (fun (h_3 : nI (a &&& b) = 0) => ?_) (fun (h_3 : ¬ (nI (a &&& b) = 0)) => ?_)
                rotate_left
                · have h_3 : ¬ (a &&& b = 0) := fun z => h_3 ((am_n0 (by omega)).mpr z)
                  omega
                have h_3 : a &&& b = 0 := (am_n0 (by omega)).mp h_3
                refine am_run 1 (pc' := 37) (ls' := [some (.ref 41), some (.int (nI 0)), some (.int (nI a)), some (.int (nI b)), some (.int (nI 3)), some (.ref 73), none, none]) (st' := [.int (nI 3)]) (σ' := σ) rfl ?_
                refine am_if (ty := 46) (tn := 40) rfl (by decide) rfl rfl (fun (h_4 : nI 3 < 0) => ?_) (fun (h_4 : ¬ (nI 3 < 0)) => ?_)
                · exact absurd h_4 (by decide)
                refine am_run 2 (pc' := 43) (ls' := [some (.ref 41), some (.int (nI 0)), some (.int (nI a)), some (.int (nI b)), some (.int (nI 3)), some (.ref 73), none, none]) (st' := [.int (nI 3), .int (nI 3)]) (σ' := σ) rfl ?_
                refine am_ic (ty := 46) (tn := 49) rfl (by decide) rfl rfl (fun (h_5 : nI 3 < nI 3) => ?_) (fun (h_5 : ¬ (nI 3 < nI 3)) => ?_)
                · exact absurd h_5 (by decide)
                refine am_run 1 (pc' := 51) (ls' := [some (.ref 41), some (.int (nI 0)), some (.int (nI a)), some (.int (nI b)), some (.int (nI 3)), some (.ref 73), none, none]) (st' := [.ref 73]) (σ' := σ) rfl ?_
                refine am_invv (y := 67) (b := 73) (as := []) (rest := []) rfl rfl rfl rfl rfl rfl rfl (Nat.le_of_ble_eq_true rfl) ?_
                refine am_enter' rfl rfl rfl (by omega) (ls := [some (.ref 73)]) rfl (fun d_6 hd_6 => ?_)
                refine am_run 2 (pc' := 4) (ls' := [some (.ref 73)]) (st' := [.int (σ.1 73 3)]) (σ' := σ) rfl ?_
                refine am_top (v' := nI s) a3 ?_
                refine am_reti rfl rfl ?_
                show am_G _ M_X9_found _ 54 [some (.ref 41), some (.int (nI 0)), some (.int (nI a)), some (.int (nI b)), some (.int (nI 3)), some (.ref 73), none, none] [.int (nI s)] σ
                refine am_if (ty := 57) (tn := 60) rfl (by decide) rfl rfl (fun (h_7 : nI s = 0) => ?_) (fun (h_7 : ¬ (nI s = 0)) => ?_)
                rotate_left
                · have h_7 : ¬ (s = 0) := fun z => h_7 ((am_n0 (by omega)).mpr z)
                  omega
                have h_7 : s = 0 := (am_n0 (by omega)).mp h_7
                refine am_run 1 (pc' := 59) (ls' := [some (.ref 41), some (.int (nI 0)), some (.int (nI a)), some (.int (nI b)), some (.int (nI 3)), some (.ref 73), none, none]) (st' := [.int (-1000003)]) (σ' := σ) rfl ?_
                refine am_reti rfl rfl ?_
                refine ⟨rfl, ?_⟩
                refine am_enter' (M := M_X10_found) rfl rfl rfl (by omega) (ls := [some (.ref 0), some (.int (nI 0)), some (.int (nI a)), some (.int (nI b)), some (.int (nI 3)), none, none]) rfl (fun d2 hd2 => ?_)
                refine am_run 2 (pc' := 2) (ls' := [some (.ref 0), some (.int (nI 0)), some (.int (nI a)), some (.int (nI b)), some (.int (nI 3)), none, none]) (st' := [.int (nI 0), .ref 0]) (σ' := σ) rfl ?_
                refine am_invv (y := 151) (b := 0) (as := [.int (nI 0)]) (rest := []) rfl rfl rfl rfl rfl rfl rfl (Nat.le_of_ble_eq_true rfl) ?_
                refine c_prog0_1 (by omega) (n := n) (by exact hn2) hn1 hn60 ?_
                show am_G _ M_X10_found _ 5 [some (.ref 0), some (.int (nI 0)), some (.int (nI a)), some (.int (nI b)), some (.int (nI 3)), none, none] [.int (nI 1)] σ
                refine am_if (ty := 8) (tn := 11) rfl (by decide) rfl rfl (fun (h_101 : nI 1 = 0) => ?_) (fun (h_101 : ¬ (nI 1 = 0)) => ?_)
                · exact absurd h_101 (by decide)
                refine am_run 3 (pc' := 16) (ls' := [some (.ref 0), some (.int (nI 0)), some (.int (nI a)), some (.int (nI b)), some (.int (nI 3)), none, none]) (st' := [.int (nI 255), .int (nI 0), .int (nI a)]) (σ' := σ) rfl ?_
                refine am_invs (y := 148) (as := [.int (nI a), .int (nI 0), .int (nI 255)]) (rest := []) rfl rfl rfl rfl rfl rfl (Nat.le_of_ble_eq_true rfl) ?_
                refine c_in1 (by omega) (by omega) (by omega) (by omega) ?_
                show am_G _ M_X10_found _ 19 [some (.ref 0), some (.int (nI 0)), some (.int (nI a)), some (.int (nI b)), some (.int (nI 3)), none, none] [.int (nI 1)] σ
                refine am_if (ty := 47) (tn := 22) rfl (by decide) rfl rfl (fun (h_102 : nI 1 = 0) => ?_) (fun (h_102 : ¬ (nI 1 = 0)) => ?_)
                · exact absurd h_102 (by decide)
                refine am_run 3 (pc' := 27) (ls' := [some (.ref 0), some (.int (nI 0)), some (.int (nI a)), some (.int (nI b)), some (.int (nI 3)), none, none]) (st' := [.int (nI 255), .int (nI 0), .int (nI b)]) (σ' := σ) rfl ?_
                refine am_invs (y := 148) (as := [.int (nI b), .int (nI 0), .int (nI 255)]) (rest := []) rfl rfl rfl rfl rfl rfl (Nat.le_of_ble_eq_true rfl) ?_
                refine c_in1 (by omega) (by omega) (by omega) (by omega) ?_
                show am_G _ M_X10_found _ 30 [some (.ref 0), some (.int (nI 0)), some (.int (nI a)), some (.int (nI b)), some (.int (nI 3)), none, none] [.int (nI 1)] σ
                refine am_if (ty := 47) (tn := 33) rfl (by decide) rfl rfl (fun (h_103 : nI 1 = 0) => ?_) (fun (h_103 : ¬ (nI 1 = 0)) => ?_)
                · exact absurd h_103 (by decide)
                refine am_run 3 (pc' := 37) (ls' := [some (.ref 0), some (.int (nI 0)), some (.int (nI a)), some (.int (nI b)), some (.int (nI 3)), none, none]) (st' := [.int (nI 3), .int (nI 0), .int (nI 3)]) (σ' := σ) rfl ?_
                refine am_invs (y := 148) (as := [.int (nI 3), .int (nI 0), .int (nI 3)]) (rest := []) rfl rfl rfl rfl rfl rfl (Nat.le_of_ble_eq_true rfl) ?_
                refine c_in1 (by omega) (by omega) (by omega) (by omega) ?_
                show am_G _ M_X10_found _ 40 [some (.ref 0), some (.int (nI 0)), some (.int (nI a)), some (.int (nI b)), some (.int (nI 3)), none, none] [.int (nI 1)] σ
                refine am_if (ty := 47) (tn := 43) rfl (by decide) rfl rfl (fun (h_104 : nI 1 = 0) => ?_) (fun (h_104 : ¬ (nI 1 = 0)) => ?_)
                · exact absurd h_104 (by decide)
                refine am_run 4 (pc' := 52) (ls' := [some (.ref 0), some (.int (nI 0)), some (.int (nI a)), some (.int (nI b)), some (.int (nI 3)), some (.int (nI 1)), none]) (st' := [.int (nI 1)]) (σ' := σ) rfl ?_
                refine am_if (ty := 61) (tn := 55) rfl (by decide) rfl rfl (fun (h_105 : nI 1 = 0) => ?_) (fun (h_105 : ¬ (nI 1 = 0)) => ?_)
                · exact absurd h_105 (by decide)
                refine am_run 3 (pc' := 58) (ls' := [some (.ref 0), some (.int (nI 0)), some (.int (nI a)), some (.int (nI b)), some (.int (nI 3)), some (.int (nI 1)), none]) (st' := [.int (nI a &&& nI b)]) (σ' := σ) rfl ?_
                refine am_top (v' := nI (a &&& b)) (nx_and _ _) ?_
                refine am_if (ty := 64) (tn := 61) rfl (by decide) rfl rfl (fun (h_106 : nI (a &&& b) = 0) => ?_) (fun (h_106 : ¬ (nI (a &&& b) = 0)) => ?_)
                rotate_left
                · have h_106 : ¬ (a &&& b = 0) := fun z => h_106 ((am_n0 (by omega)).mpr z)
                  omega
                have h_106 : a &&& b = 0 := (am_n0 (by omega)).mp h_106
                refine am_run 3 (pc' := 69) (ls' := [some (.ref 0), some (.int (nI 0)), some (.int (nI a)), some (.int (nI b)), some (.int (nI 3)), some (.int (nI 1)), none]) (st' := [.int (nI 0), .ref 17]) (σ' := σ) rfl ?_
                refine am_ialdN (n := 2) (v := nI s) rfl rfl rfl (by decide) b3 (by decide) ?_
                refine am_if (ty := 73) (tn := 77) rfl (by decide) rfl rfl (fun (h_107 : nI s = 0) => ?_) (fun (h_107 : ¬ (nI s = 0)) => ?_)
                rotate_left
                · have h_107 : ¬ (s = 0) := fun z => h_107 ((am_n0 (by omega)).mpr z)
                  omega
                have h_107 : s = 0 := (am_n0 (by omega)).mp h_107
                refine am_run 1 (pc' := 76) (ls' := [some (.ref 0), some (.int (nI 0)), some (.int (nI a)), some (.int (nI b)), some (.int (nI 3)), some (.int (nI 1)), none]) (st' := [.int (-1000003)]) (σ' := σ) rfl ?_
                refine am_reti rfl rfl ?_
                exact ⟨rfl, hI⟩
            · have hdj := dj_and hov
              rcases (show u2 = 0 ∨ u2 = 1 ∨ u2 = 2 ∨ u2 = 3 by omega) with rfl | rfl | rfl | rfl
              · skip
                refine ⟨nI (an p 61 (r + 1) s true a b).1, ?_⟩
                refine am_enter' (M := M_X9_found) rfl rfl rfl (by omega) (ls := [some (.ref 41), some (.int (nI 0)), some (.int (nI a)), some (.int (nI b)), some (.int (nI 0)), none, none, none]) rfl (fun d' hd' => ?_)
                refine am_run 2 (pc' := 2) (ls' := [some (.ref 41), some (.int (nI 0)), some (.int (nI a)), some (.int (nI b)), some (.int (nI 0)), none, none, none]) (st' := [.int (nI 0), .ref 41]) (σ' := σ) rfl ?_
                refine am_invv (y := 140) (b := 41) (as := [.int (nI 0)]) (rest := []) rfl rfl rfl rfl rfl rfl rfl (Nat.le_of_ble_eq_true rfl) ?_
                refine c_filled0_1 (by omega) hf ?_
                show am_G _ M_X9_found _ 5 [some (.ref 41), some (.int (nI 0)), some (.int (nI a)), some (.int (nI b)), some (.int (nI 0)), none, none, none] [.ref 73] σ
                refine am_run 4 (pc' := 16) (ls' := [some (.ref 41), some (.int (nI 0)), some (.int (nI a)), some (.int (nI b)), some (.int (nI 0)), some (.ref 73), none, none]) (st' := [.int (nI a)]) (σ' := σ) rfl ?_
                refine am_invs (y := 141) (as := [.int (nI a)]) (rest := []) rfl rfl rfl rfl rfl rfl (Nat.le_of_ble_eq_true rfl) ?_
                refine c_sig1 (by omega) (by omega) ?_
                show am_G _ M_X9_found _ 19 [some (.ref 41), some (.int (nI 0)), some (.int (nI a)), some (.int (nI b)), some (.int (nI 0)), some (.ref 73), none, none] [.int (nI 1)] σ
                refine am_if (ty := 46) (tn := 22) rfl (by decide) rfl rfl (fun (h_1 : nI 1 = 0) => ?_) (fun (h_1 : ¬ (nI 1 = 0)) => ?_)
                · exact absurd h_1 (by decide)
                refine am_run 1 (pc' := 23) (ls' := [some (.ref 41), some (.int (nI 0)), some (.int (nI a)), some (.int (nI b)), some (.int (nI 0)), some (.ref 73), none, none]) (st' := [.int (nI b)]) (σ' := σ) rfl ?_
                refine am_invs (y := 141) (as := [.int (nI b)]) (rest := []) rfl rfl rfl rfl rfl rfl (Nat.le_of_ble_eq_true rfl) ?_
                refine c_sig1 (by omega) (by omega) ?_
                show am_G _ M_X9_found _ 26 [some (.ref 41), some (.int (nI 0)), some (.int (nI a)), some (.int (nI b)), some (.int (nI 0)), some (.ref 73), none, none] [.int (nI 1)] σ
                refine am_if (ty := 46) (tn := 29) rfl (by decide) rfl rfl (fun (h_2 : nI 1 = 0) => ?_) (fun (h_2 : ¬ (nI 1 = 0)) => ?_)
                · exact absurd h_2 (by decide)
                refine am_run 3 (pc' := 32) (ls' := [some (.ref 41), some (.int (nI 0)), some (.int (nI a)), some (.int (nI b)), some (.int (nI 0)), some (.ref 73), none, none]) (st' := [.int (nI a &&& nI b)]) (σ' := σ) rfl ?_
                refine am_top (v' := nI (a &&& b)) (nx_and _ _) ?_
                refine am_if (ty := 35) (tn := 46) rfl (by decide) rfl rfl (fun (h_3 : nI (a &&& b) = 0) => ?_) (fun (h_3 : ¬ (nI (a &&& b) = 0)) => ?_)
                rotate_left
                · have h_3 : ¬ (a &&& b = 0) := fun z => h_3 ((am_n0 (by omega)).mpr z)
                  omega
                have h_3 : a &&& b = 0 := (am_n0 (by omega)).mp h_3
                refine am_run 1 (pc' := 37) (ls' := [some (.ref 41), some (.int (nI 0)), some (.int (nI a)), some (.int (nI b)), some (.int (nI 0)), some (.ref 73), none, none]) (st' := [.int (nI 0)]) (σ' := σ) rfl ?_
                refine am_if (ty := 46) (tn := 40) rfl (by decide) rfl rfl (fun (h_4 : nI 0 < 0) => ?_) (fun (h_4 : ¬ (nI 0 < 0)) => ?_)
                · exact absurd h_4 (by decide)
                refine am_run 2 (pc' := 43) (ls' := [some (.ref 41), some (.int (nI 0)), some (.int (nI a)), some (.int (nI b)), some (.int (nI 0)), some (.ref 73), none, none]) (st' := [.int (nI 3), .int (nI 0)]) (σ' := σ) rfl ?_
                refine am_ic (ty := 46) (tn := 49) rfl (by decide) rfl rfl (fun (h_5 : nI 3 < nI 0) => ?_) (fun (h_5 : ¬ (nI 3 < nI 0)) => ?_)
                · exact absurd h_5 (by decide)
                refine am_run 1 (pc' := 51) (ls' := [some (.ref 41), some (.int (nI 0)), some (.int (nI a)), some (.int (nI b)), some (.int (nI 0)), some (.ref 73), none, none]) (st' := [.ref 73]) (σ' := σ) rfl ?_
                refine am_invv (y := 67) (b := 73) (as := []) (rest := []) rfl rfl rfl rfl rfl rfl rfl (Nat.le_of_ble_eq_true rfl) ?_
                refine am_enter' rfl rfl rfl (by omega) (ls := [some (.ref 73)]) rfl (fun d_6 hd_6 => ?_)
                refine am_run 2 (pc' := 4) (ls' := [some (.ref 73)]) (st' := [.int (σ.1 73 3)]) (σ' := σ) rfl ?_
                refine am_top (v' := nI s) a3 ?_
                refine am_reti rfl rfl ?_
                show am_G _ M_X9_found _ 54 [some (.ref 41), some (.int (nI 0)), some (.int (nI a)), some (.int (nI b)), some (.int (nI 0)), some (.ref 73), none, none] [.int (nI s)] σ
                refine am_if (ty := 57) (tn := 60) rfl (by decide) rfl rfl (fun (h_7 : nI s = 0) => ?_) (fun (h_7 : ¬ (nI s = 0)) => ?_)
                · have h_7 : s = 0 := (am_n0 (by omega)).mp h_7
                  omega
                have h_7 : ¬ (s = 0) := fun z => h_7 ((am_n0 (by omega)).mpr z)
                refine am_run 1 (pc' := 62) (ls' := [some (.ref 41), some (.int (nI 0)), some (.int (nI a)), some (.int (nI b)), some (.int (nI 0)), some (.ref 73), none, none]) (st' := [.ref 73]) (σ' := σ) rfl ?_
                refine am_invv (y := 66) (b := 73) (as := []) (rest := []) rfl rfl rfl rfl rfl rfl rfl (Nat.le_of_ble_eq_true rfl) ?_
                refine am_enter' rfl rfl rfl (by omega) (ls := [some (.ref 73)]) rfl (fun d_8 hd_8 => ?_)
                refine am_run 2 (pc' := 4) (ls' := [some (.ref 73)]) (st' := [.ref (σ.2 73 1)]) (σ' := σ) rfl ?_
                refine am_reta rfl rfl (Or.inr ⟨_, rfl⟩) ?_
                show am_G _ M_X9_found _ 65 [some (.ref 41), some (.int (nI 0)), some (.int (nI a)), some (.int (nI b)), some (.int (nI 0)), some (.ref 73), none, none] [.ref (σ.2 73 1)] σ
                refine am_run 1 (pc' := 67) (ls' := [some (.ref 41), some (.int (nI 0)), some (.int (nI a)), some (.int (nI b)), some (.int (nI 0)), some (.ref 73), none, none]) (st' := [.ref 73, .ref (σ.2 73 1)]) (σ' := σ) rfl ?_
                refine am_invv (y := 67) (b := 73) (as := []) (rest := [.ref (σ.2 73 1)]) rfl rfl rfl rfl rfl rfl rfl (Nat.le_of_ble_eq_true rfl) ?_
                refine am_enter' rfl rfl rfl (by omega) (ls := [some (.ref 73)]) rfl (fun d_9 hd_9 => ?_)
                refine am_run 2 (pc' := 4) (ls' := [some (.ref 73)]) (st' := [.int (σ.1 73 3)]) (σ' := σ) rfl ?_
                refine am_top (v' := nI s) a3 ?_
                refine am_reti rfl rfl ?_
                show am_G _ M_X9_found _ 70 [some (.ref 41), some (.int (nI 0)), some (.int (nI a)), some (.int (nI b)), some (.int (nI 0)), some (.ref 73), none, none] [.int (nI s), .ref (σ.2 73 1)] σ
                refine am_run 2 (pc' := 72) (ls' := [some (.ref 41), some (.int (nI 0)), some (.int (nI a)), some (.int (nI b)), some (.int (nI 0)), some (.ref 73), none, none]) (st' := [.int (nI b), .int (nI a), .int (nI s), .ref (σ.2 73 1)]) (σ' := σ) rfl ?_
                refine am_invs (y := 2) (as := [.int (nI a), .int (nI b)]) (rest := [.int (nI s), .ref (σ.2 73 1)]) rfl rfl rfl rfl rfl rfl (Nat.le_of_ble_eq_true rfl) ?_
                refine c_a_knowledge (by omega) (a := a) (b := b) ha ?_
                show am_G _ M_X9_found _ 75 [some (.ref 41), some (.int (nI 0)), some (.int (nI a)), some (.int (nI b)), some (.int (nI 0)), some (.ref 73), none, none] [.int (nI (a + 256 * b)), .int (nI s), .ref (σ.2 73 1)] σ
                refine am_invs (y := 0) (as := [.ref (σ.2 73 1), .int (nI s), .int (nI (a + 256 * b))]) (rest := []) rfl rfl rfl rfl rfl rfl (Nat.le_of_ble_eq_true rfl) ?_
                refine c_a_ofProgram (by omega) hW hR (show r + 1 ≤ n by omega) hro hs ha hb (fun r1 hr1 ok1 => ?_)
                subst hr1
                show am_G _ M_X9_found _ 78 [some (.ref 41), some (.int (nI 0)), some (.int (nI a)), some (.int (nI b)), some (.int (nI 0)), some (.ref 73), none, none] [.int (nI (eC (an p 61 (r + 1) s true a b)))] σ
                refine am_run 2 (pc' := 82) (ls' := [some (.ref 41), some (.int (nI 0)), some (.int (nI a)), some (.int (nI b)), some (.int (nI 0)), some (.ref 73), some (.int (nI (eC (an p 61 (r + 1) s true a b)))), none]) (st' := [.int (nI 0)]) (σ' := σ) rfl ?_
                refine am_if (ty := 91) (tn := 85) rfl (by decide) rfl rfl (fun (h_10 : nI 0 = 0) => ?_) (fun (h_10 : ¬ (nI 0 = 0)) => ?_)
                rotate_left
                · exact absurd (by decide) h_10
                refine am_run 1 (pc' := 93) (ls' := [some (.ref 41), some (.int (nI 0)), some (.int (nI a)), some (.int (nI b)), some (.int (nI 0)), some (.ref 73), some (.int (nI (eC (an p 61 (r + 1) s true a b)))), none]) (st' := [.int (nI (eC (an p 61 (r + 1) s true a b)))]) (σ' := σ) rfl ?_
                refine am_invs (y := 3) (as := [.int (nI (eC (an p 61 (r + 1) s true a b)))]) (rest := []) rfl rfl rfl rfl rfl rfl (Nat.le_of_ble_eq_true rfl) ?_
                refine c_a_must (by omega) ok1 ?_
                show am_G _ M_X9_found _ 96 [some (.ref 41), some (.int (nI 0)), some (.int (nI a)), some (.int (nI b)), some (.int (nI 0)), some (.ref 73), some (.int (nI (eC (an p 61 (r + 1) s true a b)))), none] [.int (nI ((an p 61 (r + 1) s true a b).1 + 256 * (an p 61 (r + 1) s true a b).2.2.1))] σ
                refine am_run 4 (pc' := 109) (ls' := [some (.ref 41), some (.int (nI 0)), some (.int (nI a)), some (.int (nI b)), some (.int (nI 0)), some (.ref 73), some (.int (nI (eC (an p 61 (r + 1) s true a b)))), some (.int (nI ((an p 61 (r + 1) s true a b).1 + 256 * (an p 61 (r + 1) s true a b).2.2.1)))]) (st' := [.int (nI 2), .int (nI 0)]) (σ' := σ) rfl ?_
                refine am_ic (ty := 112) (tn := 120) rfl (by decide) rfl rfl (fun (h_11 : nI 0 < nI 2) => ?_) (fun (h_11 : ¬ (nI 0 < nI 2)) => ?_)
                rotate_left
                · exact absurd (by decide) h_11
                refine am_run 1 (pc' := 114) (ls' := [some (.ref 41), some (.int (nI 0)), some (.int (nI a)), some (.int (nI b)), some (.int (nI 0)), some (.ref 73), some (.int (nI (eC (an p 61 (r + 1) s true a b)))), some (.int (nI ((an p 61 (r + 1) s true a b).1 + 256 * (an p 61 (r + 1) s true a b).2.2.1)))]) (st' := [.int (nI ((an p 61 (r + 1) s true a b).1 + 256 * (an p 61 (r + 1) s true a b).2.2.1))]) (σ' := σ) rfl ?_
                refine am_invs (y := 5) (as := [.int (nI ((an p 61 (r + 1) s true a b).1 + 256 * (an p 61 (r + 1) s true a b).2.2.1))]) (rest := []) rfl rfl rfl rfl rfl rfl (Nat.le_of_ble_eq_true rfl) ?_
                refine c_a_signals (by omega) ok1.1 ?_
                show am_G _ M_X9_found _ 117 [some (.ref 41), some (.int (nI 0)), some (.int (nI a)), some (.int (nI b)), some (.int (nI 0)), some (.ref 73), some (.int (nI (eC (an p 61 (r + 1) s true a b)))), some (.int (nI ((an p 61 (r + 1) s true a b).1 + 256 * (an p 61 (r + 1) s true a b).2.2.1)))] [.int (nI ((an p 61 (r + 1) s true a b).1))] σ
                refine am_run 1 (pc' := 125) (ls' := [some (.ref 41), some (.int (nI 0)), some (.int (nI a)), some (.int (nI b)), some (.int (nI 0)), some (.ref 73), some (.int (nI (eC (an p 61 (r + 1) s true a b)))), some (.int (nI ((an p 61 (r + 1) s true a b).1 + 256 * (an p 61 (r + 1) s true a b).2.2.1)))]) (st' := [.int (nI ((an p 61 (r + 1) s true a b).1))]) (σ' := σ) rfl ?_
                refine am_reti rfl rfl ?_
                refine ⟨rfl, ?_⟩
                refine am_enter' (M := M_X10_found) rfl rfl rfl (by omega) (ls := [some (.ref 0), some (.int (nI 0)), some (.int (nI a)), some (.int (nI b)), some (.int (nI 0)), none, none]) rfl (fun d2 hd2 => ?_)
                refine am_run 2 (pc' := 2) (ls' := [some (.ref 0), some (.int (nI 0)), some (.int (nI a)), some (.int (nI b)), some (.int (nI 0)), none, none]) (st' := [.int (nI 0), .ref 0]) (σ' := σ) rfl ?_
                refine am_invv (y := 151) (b := 0) (as := [.int (nI 0)]) (rest := []) rfl rfl rfl rfl rfl rfl rfl (Nat.le_of_ble_eq_true rfl) ?_
                refine c_prog0_1 (by omega) (n := n) (by exact hn2) hn1 hn60 ?_
                show am_G _ M_X10_found _ 5 [some (.ref 0), some (.int (nI 0)), some (.int (nI a)), some (.int (nI b)), some (.int (nI 0)), none, none] [.int (nI 1)] σ
                refine am_if (ty := 8) (tn := 11) rfl (by decide) rfl rfl (fun (h_101 : nI 1 = 0) => ?_) (fun (h_101 : ¬ (nI 1 = 0)) => ?_)
                · exact absurd h_101 (by decide)
                refine am_run 3 (pc' := 16) (ls' := [some (.ref 0), some (.int (nI 0)), some (.int (nI a)), some (.int (nI b)), some (.int (nI 0)), none, none]) (st' := [.int (nI 255), .int (nI 0), .int (nI a)]) (σ' := σ) rfl ?_
                refine am_invs (y := 148) (as := [.int (nI a), .int (nI 0), .int (nI 255)]) (rest := []) rfl rfl rfl rfl rfl rfl (Nat.le_of_ble_eq_true rfl) ?_
                refine c_in1 (by omega) (by omega) (by omega) (by omega) ?_
                show am_G _ M_X10_found _ 19 [some (.ref 0), some (.int (nI 0)), some (.int (nI a)), some (.int (nI b)), some (.int (nI 0)), none, none] [.int (nI 1)] σ
                refine am_if (ty := 47) (tn := 22) rfl (by decide) rfl rfl (fun (h_102 : nI 1 = 0) => ?_) (fun (h_102 : ¬ (nI 1 = 0)) => ?_)
                · exact absurd h_102 (by decide)
                refine am_run 3 (pc' := 27) (ls' := [some (.ref 0), some (.int (nI 0)), some (.int (nI a)), some (.int (nI b)), some (.int (nI 0)), none, none]) (st' := [.int (nI 255), .int (nI 0), .int (nI b)]) (σ' := σ) rfl ?_
                refine am_invs (y := 148) (as := [.int (nI b), .int (nI 0), .int (nI 255)]) (rest := []) rfl rfl rfl rfl rfl rfl (Nat.le_of_ble_eq_true rfl) ?_
                refine c_in1 (by omega) (by omega) (by omega) (by omega) ?_
                show am_G _ M_X10_found _ 30 [some (.ref 0), some (.int (nI 0)), some (.int (nI a)), some (.int (nI b)), some (.int (nI 0)), none, none] [.int (nI 1)] σ
                refine am_if (ty := 47) (tn := 33) rfl (by decide) rfl rfl (fun (h_103 : nI 1 = 0) => ?_) (fun (h_103 : ¬ (nI 1 = 0)) => ?_)
                · exact absurd h_103 (by decide)
                refine am_run 3 (pc' := 37) (ls' := [some (.ref 0), some (.int (nI 0)), some (.int (nI a)), some (.int (nI b)), some (.int (nI 0)), none, none]) (st' := [.int (nI 3), .int (nI 0), .int (nI 0)]) (σ' := σ) rfl ?_
                refine am_invs (y := 148) (as := [.int (nI 0), .int (nI 0), .int (nI 3)]) (rest := []) rfl rfl rfl rfl rfl rfl (Nat.le_of_ble_eq_true rfl) ?_
                refine c_in1 (by omega) (by omega) (by omega) (by omega) ?_
                show am_G _ M_X10_found _ 40 [some (.ref 0), some (.int (nI 0)), some (.int (nI a)), some (.int (nI b)), some (.int (nI 0)), none, none] [.int (nI 1)] σ
                refine am_if (ty := 47) (tn := 43) rfl (by decide) rfl rfl (fun (h_104 : nI 1 = 0) => ?_) (fun (h_104 : ¬ (nI 1 = 0)) => ?_)
                · exact absurd h_104 (by decide)
                refine am_run 4 (pc' := 52) (ls' := [some (.ref 0), some (.int (nI 0)), some (.int (nI a)), some (.int (nI b)), some (.int (nI 0)), some (.int (nI 1)), none]) (st' := [.int (nI 1)]) (σ' := σ) rfl ?_
                refine am_if (ty := 61) (tn := 55) rfl (by decide) rfl rfl (fun (h_105 : nI 1 = 0) => ?_) (fun (h_105 : ¬ (nI 1 = 0)) => ?_)
                · exact absurd h_105 (by decide)
                refine am_run 3 (pc' := 58) (ls' := [some (.ref 0), some (.int (nI 0)), some (.int (nI a)), some (.int (nI b)), some (.int (nI 0)), some (.int (nI 1)), none]) (st' := [.int (nI a &&& nI b)]) (σ' := σ) rfl ?_
                refine am_top (v' := nI (a &&& b)) (nx_and _ _) ?_
                refine am_if (ty := 64) (tn := 61) rfl (by decide) rfl rfl (fun (h_106 : nI (a &&& b) = 0) => ?_) (fun (h_106 : ¬ (nI (a &&& b) = 0)) => ?_)
                rotate_left
                · have h_106 : ¬ (a &&& b = 0) := fun z => h_106 ((am_n0 (by omega)).mpr z)
                  omega
                have h_106 : a &&& b = 0 := (am_n0 (by omega)).mp h_106
                refine am_run 3 (pc' := 69) (ls' := [some (.ref 0), some (.int (nI 0)), some (.int (nI a)), some (.int (nI b)), some (.int (nI 0)), some (.int (nI 1)), none]) (st' := [.int (nI 0), .ref 17]) (σ' := σ) rfl ?_
                refine am_ialdN (n := 2) (v := nI s) rfl rfl rfl (by decide) b3 (by decide) ?_
                refine am_if (ty := 73) (tn := 77) rfl (by decide) rfl rfl (fun (h_107 : nI s = 0) => ?_) (fun (h_107 : ¬ (nI s = 0)) => ?_)
                · have h_107 : s = 0 := (am_n0 (by omega)).mp h_107
                  omega
                have h_107 : ¬ (s = 0) := fun z => h_107 ((am_n0 (by omega)).mpr z)
                refine am_run 2 (pc' := 80) (ls' := [some (.ref 0), some (.int (nI 0)), some (.int (nI a)), some (.int (nI b)), some (.int (nI 0)), some (.int (nI 1)), some (.int (nI 0))]) (st' := []) (σ' := σ) rfl ?_
                refine c_found_loop (by omega) ha hb (fun σ3 h1 h2 i29 => ?_) 8 0 _ rfl (fun _ _ => rfl) rfl (fun g z => absurd z (Nat.not_lt_zero _))
                have hM3 := hM.keep2 (σ' := σ3) (fun c a => h1 c (by omega))
                have b33 : σ3.1 17 0 = nI s := by rw [h1 17 (by decide)]; exact b3
                refine am_run 5 (pc' := 134) (ls' := [some (.ref 0), some (.int (nI 0)), some (.int (nI a)), some (.int (nI b)), some (.int (nI 0)), some (.int (nI 1)), some (.int (nI 8))]) (st' := [.int (nI 0), .ref 17, .int (nI 0), .ref 0]) (σ' := σ3) rfl ?_
                refine am_ialdN (n := 2) (v := nI s) rfl rfl rfl (by decide) b33 (by decide) ?_
                refine am_invv (y := 209) (b := 0) (as := [.int (nI 0), .int (nI s)]) (rest := []) rfl rfl rfl rfl rfl rfl rfl (Nat.le_of_ble_eq_true rfl) ?_
                refine c_lays (by omega) hM3.1 hs i29 hdj ha hb (fun σ4 hL hB hT => ?_)
                show am_G _ M_X10_found _ 138 [some (.ref 0), some (.int (nI 0)), some (.int (nI a)), some (.int (nI b)), some (.int (nI 0)), some (.int (nI 1)), some (.int (nI 8))] [] σ4
                refine am_run 1 (pc' := 139) (ls' := [some (.ref 0), some (.int (nI 0)), some (.int (nI a)), some (.int (nI b)), some (.int (nI 0)), some (.int (nI 1)), some (.int (nI 8))]) (st' := [.ref 0]) (σ' := σ4) rfl ?_
                refine am_invv (y := 211) (b := 0) (as := []) (rest := []) rfl rfl rfl rfl rfl rfl rfl (Nat.le_of_ble_eq_true rfl) ?_
                refine c_m_whole (by omega) hB (by rw [hL.1 4 (by decide) (by decide)]; exact hM3.2.1.1) hrn hM.2.1.2.2 (hT r hrn 0 (Nat.pow_pos (by decide))) (hv.2.resolve_left hs0) ?_
                show am_G _ M_X10_found _ 142 [some (.ref 0), some (.int (nI 0)), some (.int (nI a)), some (.int (nI b)), some (.int (nI 0)), some (.int (nI 1)), some (.int (nI 8))] [.int (nI (eM (an p 61 (r + 1) s true a b)))] σ4
                refine am_run 2 (pc' := 146) (ls' := [some (.ref 0), some (.int (nI 0)), some (.int (nI a)), some (.int (nI b)), some (.int (nI 0)), some (.int (nI 1)), some (.int (nI (eM (an p 61 (r + 1) s true a b))))]) (st' := [.int (nI 0)]) (σ' := σ4) rfl ?_
                refine am_if (ty := 149) (tn := 157) rfl (by decide) rfl rfl (fun (h_301 : nI 0 = 0) => ?_) (fun (h_301 : ¬ (nI 0 = 0)) => ?_)
                rotate_left
                · exact absurd (by decide) h_301
                refine am_run 1 (pc' := 151) (ls' := [some (.ref 0), some (.int (nI 0)), some (.int (nI a)), some (.int (nI b)), some (.int (nI 0)), some (.int (nI 1)), some (.int (nI (eM (an p 61 (r + 1) s true a b))))]) (st' := [.int (nI (eM (an p 61 (r + 1) s true a b)))]) (σ' := σ4) rfl ?_
                refine am_invs (y := 185) (as := [.int (nI (eM (an p 61 (r + 1) s true a b)))]) (rest := []) rfl rfl rfl rfl rfl rfl (Nat.le_of_ble_eq_true rfl) ?_
                refine c_m_must (by omega) (r := (an p 61 (r + 1) s true a b)) ok2 ?_
                show am_G _ M_X10_found _ 154 [some (.ref 0), some (.int (nI 0)), some (.int (nI a)), some (.int (nI b)), some (.int (nI 0)), some (.int (nI 1)), some (.int (nI (eM (an p 61 (r + 1) s true a b))))] [.int (nI ((an p 61 (r + 1) s true a b).1))] σ4
                refine am_run 1 (pc' := 190) (ls' := [some (.ref 0), some (.int (nI 0)), some (.int (nI a)), some (.int (nI b)), some (.int (nI 0)), some (.int (nI 1)), some (.int (nI (eM (an p 61 (r + 1) s true a b))))]) (st' := [.int (nI ((an p 61 (r + 1) s true a b).1))]) (σ' := σ4) rfl ?_
                refine am_reti rfl rfl ?_
                exact ⟨rfl, (((KS.of29 h1 h2).tr hL.KS).KI).inv hI⟩
              · skip
                refine ⟨nI (an p 61 (r + 1) s true a b).2.1, ?_⟩
                refine am_enter' (M := M_X9_found) rfl rfl rfl (by omega) (ls := [some (.ref 41), some (.int (nI 0)), some (.int (nI a)), some (.int (nI b)), some (.int (nI 1)), none, none, none]) rfl (fun d' hd' => ?_)
                refine am_run 2 (pc' := 2) (ls' := [some (.ref 41), some (.int (nI 0)), some (.int (nI a)), some (.int (nI b)), some (.int (nI 1)), none, none, none]) (st' := [.int (nI 0), .ref 41]) (σ' := σ) rfl ?_
                refine am_invv (y := 140) (b := 41) (as := [.int (nI 0)]) (rest := []) rfl rfl rfl rfl rfl rfl rfl (Nat.le_of_ble_eq_true rfl) ?_
                refine c_filled0_1 (by omega) hf ?_
                show am_G _ M_X9_found _ 5 [some (.ref 41), some (.int (nI 0)), some (.int (nI a)), some (.int (nI b)), some (.int (nI 1)), none, none, none] [.ref 73] σ
                refine am_run 4 (pc' := 16) (ls' := [some (.ref 41), some (.int (nI 0)), some (.int (nI a)), some (.int (nI b)), some (.int (nI 1)), some (.ref 73), none, none]) (st' := [.int (nI a)]) (σ' := σ) rfl ?_
                refine am_invs (y := 141) (as := [.int (nI a)]) (rest := []) rfl rfl rfl rfl rfl rfl (Nat.le_of_ble_eq_true rfl) ?_
                refine c_sig1 (by omega) (by omega) ?_
                show am_G _ M_X9_found _ 19 [some (.ref 41), some (.int (nI 0)), some (.int (nI a)), some (.int (nI b)), some (.int (nI 1)), some (.ref 73), none, none] [.int (nI 1)] σ
                refine am_if (ty := 46) (tn := 22) rfl (by decide) rfl rfl (fun (h_1 : nI 1 = 0) => ?_) (fun (h_1 : ¬ (nI 1 = 0)) => ?_)
                · exact absurd h_1 (by decide)
                refine am_run 1 (pc' := 23) (ls' := [some (.ref 41), some (.int (nI 0)), some (.int (nI a)), some (.int (nI b)), some (.int (nI 1)), some (.ref 73), none, none]) (st' := [.int (nI b)]) (σ' := σ) rfl ?_
                refine am_invs (y := 141) (as := [.int (nI b)]) (rest := []) rfl rfl rfl rfl rfl rfl (Nat.le_of_ble_eq_true rfl) ?_
                refine c_sig1 (by omega) (by omega) ?_
                show am_G _ M_X9_found _ 26 [some (.ref 41), some (.int (nI 0)), some (.int (nI a)), some (.int (nI b)), some (.int (nI 1)), some (.ref 73), none, none] [.int (nI 1)] σ
                refine am_if (ty := 46) (tn := 29) rfl (by decide) rfl rfl (fun (h_2 : nI 1 = 0) => ?_) (fun (h_2 : ¬ (nI 1 = 0)) => ?_)
                · exact absurd h_2 (by decide)
                refine am_run 3 (pc' := 32) (ls' := [some (.ref 41), some (.int (nI 0)), some (.int (nI a)), some (.int (nI b)), some (.int (nI 1)), some (.ref 73), none, none]) (st' := [.int (nI a &&& nI b)]) (σ' := σ) rfl ?_
                refine am_top (v' := nI (a &&& b)) (nx_and _ _) ?_
                refine am_if (ty := 35) (tn := 46) rfl (by decide) rfl rfl (fun (h_3 : nI (a &&& b) = 0) => ?_) (fun (h_3 : ¬ (nI (a &&& b) = 0)) => ?_)
                rotate_left
                · have h_3 : ¬ (a &&& b = 0) := fun z => h_3 ((am_n0 (by omega)).mpr z)
                  omega
                have h_3 : a &&& b = 0 := (am_n0 (by omega)).mp h_3
                refine am_run 1 (pc' := 37) (ls' := [some (.ref 41), some (.int (nI 0)), some (.int (nI a)), some (.int (nI b)), some (.int (nI 1)), some (.ref 73), none, none]) (st' := [.int (nI 1)]) (σ' := σ) rfl ?_
                refine am_if (ty := 46) (tn := 40) rfl (by decide) rfl rfl (fun (h_4 : nI 1 < 0) => ?_) (fun (h_4 : ¬ (nI 1 < 0)) => ?_)
                · exact absurd h_4 (by decide)
                refine am_run 2 (pc' := 43) (ls' := [some (.ref 41), some (.int (nI 0)), some (.int (nI a)), some (.int (nI b)), some (.int (nI 1)), some (.ref 73), none, none]) (st' := [.int (nI 3), .int (nI 1)]) (σ' := σ) rfl ?_
                refine am_ic (ty := 46) (tn := 49) rfl (by decide) rfl rfl (fun (h_5 : nI 3 < nI 1) => ?_) (fun (h_5 : ¬ (nI 3 < nI 1)) => ?_)
                · exact absurd h_5 (by decide)
                refine am_run 1 (pc' := 51) (ls' := [some (.ref 41), some (.int (nI 0)), some (.int (nI a)), some (.int (nI b)), some (.int (nI 1)), some (.ref 73), none, none]) (st' := [.ref 73]) (σ' := σ) rfl ?_
                refine am_invv (y := 67) (b := 73) (as := []) (rest := []) rfl rfl rfl rfl rfl rfl rfl (Nat.le_of_ble_eq_true rfl) ?_
                refine am_enter' rfl rfl rfl (by omega) (ls := [some (.ref 73)]) rfl (fun d_6 hd_6 => ?_)
                refine am_run 2 (pc' := 4) (ls' := [some (.ref 73)]) (st' := [.int (σ.1 73 3)]) (σ' := σ) rfl ?_
                refine am_top (v' := nI s) a3 ?_
                refine am_reti rfl rfl ?_
                show am_G _ M_X9_found _ 54 [some (.ref 41), some (.int (nI 0)), some (.int (nI a)), some (.int (nI b)), some (.int (nI 1)), some (.ref 73), none, none] [.int (nI s)] σ
                refine am_if (ty := 57) (tn := 60) rfl (by decide) rfl rfl (fun (h_7 : nI s = 0) => ?_) (fun (h_7 : ¬ (nI s = 0)) => ?_)
                · have h_7 : s = 0 := (am_n0 (by omega)).mp h_7
                  omega
                have h_7 : ¬ (s = 0) := fun z => h_7 ((am_n0 (by omega)).mpr z)
                refine am_run 1 (pc' := 62) (ls' := [some (.ref 41), some (.int (nI 0)), some (.int (nI a)), some (.int (nI b)), some (.int (nI 1)), some (.ref 73), none, none]) (st' := [.ref 73]) (σ' := σ) rfl ?_
                refine am_invv (y := 66) (b := 73) (as := []) (rest := []) rfl rfl rfl rfl rfl rfl rfl (Nat.le_of_ble_eq_true rfl) ?_
                refine am_enter' rfl rfl rfl (by omega) (ls := [some (.ref 73)]) rfl (fun d_8 hd_8 => ?_)
                refine am_run 2 (pc' := 4) (ls' := [some (.ref 73)]) (st' := [.ref (σ.2 73 1)]) (σ' := σ) rfl ?_
                refine am_reta rfl rfl (Or.inr ⟨_, rfl⟩) ?_
                show am_G _ M_X9_found _ 65 [some (.ref 41), some (.int (nI 0)), some (.int (nI a)), some (.int (nI b)), some (.int (nI 1)), some (.ref 73), none, none] [.ref (σ.2 73 1)] σ
                refine am_run 1 (pc' := 67) (ls' := [some (.ref 41), some (.int (nI 0)), some (.int (nI a)), some (.int (nI b)), some (.int (nI 1)), some (.ref 73), none, none]) (st' := [.ref 73, .ref (σ.2 73 1)]) (σ' := σ) rfl ?_
                refine am_invv (y := 67) (b := 73) (as := []) (rest := [.ref (σ.2 73 1)]) rfl rfl rfl rfl rfl rfl rfl (Nat.le_of_ble_eq_true rfl) ?_
                refine am_enter' rfl rfl rfl (by omega) (ls := [some (.ref 73)]) rfl (fun d_9 hd_9 => ?_)
                refine am_run 2 (pc' := 4) (ls' := [some (.ref 73)]) (st' := [.int (σ.1 73 3)]) (σ' := σ) rfl ?_
                refine am_top (v' := nI s) a3 ?_
                refine am_reti rfl rfl ?_
                show am_G _ M_X9_found _ 70 [some (.ref 41), some (.int (nI 0)), some (.int (nI a)), some (.int (nI b)), some (.int (nI 1)), some (.ref 73), none, none] [.int (nI s), .ref (σ.2 73 1)] σ
                refine am_run 2 (pc' := 72) (ls' := [some (.ref 41), some (.int (nI 0)), some (.int (nI a)), some (.int (nI b)), some (.int (nI 1)), some (.ref 73), none, none]) (st' := [.int (nI b), .int (nI a), .int (nI s), .ref (σ.2 73 1)]) (σ' := σ) rfl ?_
                refine am_invs (y := 2) (as := [.int (nI a), .int (nI b)]) (rest := [.int (nI s), .ref (σ.2 73 1)]) rfl rfl rfl rfl rfl rfl (Nat.le_of_ble_eq_true rfl) ?_
                refine c_a_knowledge (by omega) (a := a) (b := b) ha ?_
                show am_G _ M_X9_found _ 75 [some (.ref 41), some (.int (nI 0)), some (.int (nI a)), some (.int (nI b)), some (.int (nI 1)), some (.ref 73), none, none] [.int (nI (a + 256 * b)), .int (nI s), .ref (σ.2 73 1)] σ
                refine am_invs (y := 0) (as := [.ref (σ.2 73 1), .int (nI s), .int (nI (a + 256 * b))]) (rest := []) rfl rfl rfl rfl rfl rfl (Nat.le_of_ble_eq_true rfl) ?_
                refine c_a_ofProgram (by omega) hW hR (show r + 1 ≤ n by omega) hro hs ha hb (fun r1 hr1 ok1 => ?_)
                subst hr1
                show am_G _ M_X9_found _ 78 [some (.ref 41), some (.int (nI 0)), some (.int (nI a)), some (.int (nI b)), some (.int (nI 1)), some (.ref 73), none, none] [.int (nI (eC (an p 61 (r + 1) s true a b)))] σ
                refine am_run 2 (pc' := 82) (ls' := [some (.ref 41), some (.int (nI 0)), some (.int (nI a)), some (.int (nI b)), some (.int (nI 1)), some (.ref 73), some (.int (nI (eC (an p 61 (r + 1) s true a b)))), none]) (st' := [.int (nI 1)]) (σ' := σ) rfl ?_
                refine am_if (ty := 91) (tn := 85) rfl (by decide) rfl rfl (fun (h_10 : nI 1 = 0) => ?_) (fun (h_10 : ¬ (nI 1 = 0)) => ?_)
                · exact absurd h_10 (by decide)
                refine am_run 2 (pc' := 88) (ls' := [some (.ref 41), some (.int (nI 0)), some (.int (nI a)), some (.int (nI b)), some (.int (nI 1)), some (.ref 73), some (.int (nI (eC (an p 61 (r + 1) s true a b)))), none]) (st' := [.int (nI 2), .int (nI 1)]) (σ' := σ) rfl ?_
                refine am_ic (ty := 91) (tn := 99) rfl (by decide) rfl rfl (fun (h_11 : nI 1 = nI 2) => ?_) (fun (h_11 : ¬ (nI 1 = nI 2)) => ?_)
                · exact absurd h_11 (by decide)
                refine am_run 1 (pc' := 101) (ls' := [some (.ref 41), some (.int (nI 0)), some (.int (nI a)), some (.int (nI b)), some (.int (nI 1)), some (.ref 73), some (.int (nI (eC (an p 61 (r + 1) s true a b)))), none]) (st' := [.int (nI (eC (an p 61 (r + 1) s true a b)))]) (σ' := σ) rfl ?_
                refine am_invs (y := 4) (as := [.int (nI (eC (an p 61 (r + 1) s true a b)))]) (rest := []) rfl rfl rfl rfl rfl rfl (Nat.le_of_ble_eq_true rfl) ?_
                refine c_a_can (by omega) ok1 ?_
                show am_G _ M_X9_found _ 104 [some (.ref 41), some (.int (nI 0)), some (.int (nI a)), some (.int (nI b)), some (.int (nI 1)), some (.ref 73), some (.int (nI (eC (an p 61 (r + 1) s true a b)))), none] [.int (nI ((an p 61 (r + 1) s true a b).2.1 + 256 * (an p 61 (r + 1) s true a b).2.2.2))] σ
                refine am_run 3 (pc' := 109) (ls' := [some (.ref 41), some (.int (nI 0)), some (.int (nI a)), some (.int (nI b)), some (.int (nI 1)), some (.ref 73), some (.int (nI (eC (an p 61 (r + 1) s true a b)))), some (.int (nI ((an p 61 (r + 1) s true a b).2.1 + 256 * (an p 61 (r + 1) s true a b).2.2.2)))]) (st' := [.int (nI 2), .int (nI 1)]) (σ' := σ) rfl ?_
                refine am_ic (ty := 112) (tn := 120) rfl (by decide) rfl rfl (fun (h_12 : nI 1 < nI 2) => ?_) (fun (h_12 : ¬ (nI 1 < nI 2)) => ?_)
                rotate_left
                · exact absurd (by decide) h_12
                refine am_run 1 (pc' := 114) (ls' := [some (.ref 41), some (.int (nI 0)), some (.int (nI a)), some (.int (nI b)), some (.int (nI 1)), some (.ref 73), some (.int (nI (eC (an p 61 (r + 1) s true a b)))), some (.int (nI ((an p 61 (r + 1) s true a b).2.1 + 256 * (an p 61 (r + 1) s true a b).2.2.2)))]) (st' := [.int (nI ((an p 61 (r + 1) s true a b).2.1 + 256 * (an p 61 (r + 1) s true a b).2.2.2))]) (σ' := σ) rfl ?_
                refine am_invs (y := 5) (as := [.int (nI ((an p 61 (r + 1) s true a b).2.1 + 256 * (an p 61 (r + 1) s true a b).2.2.2))]) (rest := []) rfl rfl rfl rfl rfl rfl (Nat.le_of_ble_eq_true rfl) ?_
                refine c_a_signals (by omega) ok1.2.1 ?_
                show am_G _ M_X9_found _ 117 [some (.ref 41), some (.int (nI 0)), some (.int (nI a)), some (.int (nI b)), some (.int (nI 1)), some (.ref 73), some (.int (nI (eC (an p 61 (r + 1) s true a b)))), some (.int (nI ((an p 61 (r + 1) s true a b).2.1 + 256 * (an p 61 (r + 1) s true a b).2.2.2)))] [.int (nI ((an p 61 (r + 1) s true a b).2.1))] σ
                refine am_run 1 (pc' := 125) (ls' := [some (.ref 41), some (.int (nI 0)), some (.int (nI a)), some (.int (nI b)), some (.int (nI 1)), some (.ref 73), some (.int (nI (eC (an p 61 (r + 1) s true a b)))), some (.int (nI ((an p 61 (r + 1) s true a b).2.1 + 256 * (an p 61 (r + 1) s true a b).2.2.2)))]) (st' := [.int (nI ((an p 61 (r + 1) s true a b).2.1))]) (σ' := σ) rfl ?_
                refine am_reti rfl rfl ?_
                refine ⟨rfl, ?_⟩
                refine am_enter' (M := M_X10_found) rfl rfl rfl (by omega) (ls := [some (.ref 0), some (.int (nI 0)), some (.int (nI a)), some (.int (nI b)), some (.int (nI 1)), none, none]) rfl (fun d2 hd2 => ?_)
                refine am_run 2 (pc' := 2) (ls' := [some (.ref 0), some (.int (nI 0)), some (.int (nI a)), some (.int (nI b)), some (.int (nI 1)), none, none]) (st' := [.int (nI 0), .ref 0]) (σ' := σ) rfl ?_
                refine am_invv (y := 151) (b := 0) (as := [.int (nI 0)]) (rest := []) rfl rfl rfl rfl rfl rfl rfl (Nat.le_of_ble_eq_true rfl) ?_
                refine c_prog0_1 (by omega) (n := n) (by exact hn2) hn1 hn60 ?_
                show am_G _ M_X10_found _ 5 [some (.ref 0), some (.int (nI 0)), some (.int (nI a)), some (.int (nI b)), some (.int (nI 1)), none, none] [.int (nI 1)] σ
                refine am_if (ty := 8) (tn := 11) rfl (by decide) rfl rfl (fun (h_101 : nI 1 = 0) => ?_) (fun (h_101 : ¬ (nI 1 = 0)) => ?_)
                · exact absurd h_101 (by decide)
                refine am_run 3 (pc' := 16) (ls' := [some (.ref 0), some (.int (nI 0)), some (.int (nI a)), some (.int (nI b)), some (.int (nI 1)), none, none]) (st' := [.int (nI 255), .int (nI 0), .int (nI a)]) (σ' := σ) rfl ?_
                refine am_invs (y := 148) (as := [.int (nI a), .int (nI 0), .int (nI 255)]) (rest := []) rfl rfl rfl rfl rfl rfl (Nat.le_of_ble_eq_true rfl) ?_
                refine c_in1 (by omega) (by omega) (by omega) (by omega) ?_
                show am_G _ M_X10_found _ 19 [some (.ref 0), some (.int (nI 0)), some (.int (nI a)), some (.int (nI b)), some (.int (nI 1)), none, none] [.int (nI 1)] σ
                refine am_if (ty := 47) (tn := 22) rfl (by decide) rfl rfl (fun (h_102 : nI 1 = 0) => ?_) (fun (h_102 : ¬ (nI 1 = 0)) => ?_)
                · exact absurd h_102 (by decide)
                refine am_run 3 (pc' := 27) (ls' := [some (.ref 0), some (.int (nI 0)), some (.int (nI a)), some (.int (nI b)), some (.int (nI 1)), none, none]) (st' := [.int (nI 255), .int (nI 0), .int (nI b)]) (σ' := σ) rfl ?_
                refine am_invs (y := 148) (as := [.int (nI b), .int (nI 0), .int (nI 255)]) (rest := []) rfl rfl rfl rfl rfl rfl (Nat.le_of_ble_eq_true rfl) ?_
                refine c_in1 (by omega) (by omega) (by omega) (by omega) ?_
                show am_G _ M_X10_found _ 30 [some (.ref 0), some (.int (nI 0)), some (.int (nI a)), some (.int (nI b)), some (.int (nI 1)), none, none] [.int (nI 1)] σ
                refine am_if (ty := 47) (tn := 33) rfl (by decide) rfl rfl (fun (h_103 : nI 1 = 0) => ?_) (fun (h_103 : ¬ (nI 1 = 0)) => ?_)
                · exact absurd h_103 (by decide)
                refine am_run 3 (pc' := 37) (ls' := [some (.ref 0), some (.int (nI 0)), some (.int (nI a)), some (.int (nI b)), some (.int (nI 1)), none, none]) (st' := [.int (nI 3), .int (nI 0), .int (nI 1)]) (σ' := σ) rfl ?_
                refine am_invs (y := 148) (as := [.int (nI 1), .int (nI 0), .int (nI 3)]) (rest := []) rfl rfl rfl rfl rfl rfl (Nat.le_of_ble_eq_true rfl) ?_
                refine c_in1 (by omega) (by omega) (by omega) (by omega) ?_
                show am_G _ M_X10_found _ 40 [some (.ref 0), some (.int (nI 0)), some (.int (nI a)), some (.int (nI b)), some (.int (nI 1)), none, none] [.int (nI 1)] σ
                refine am_if (ty := 47) (tn := 43) rfl (by decide) rfl rfl (fun (h_104 : nI 1 = 0) => ?_) (fun (h_104 : ¬ (nI 1 = 0)) => ?_)
                · exact absurd h_104 (by decide)
                refine am_run 4 (pc' := 52) (ls' := [some (.ref 0), some (.int (nI 0)), some (.int (nI a)), some (.int (nI b)), some (.int (nI 1)), some (.int (nI 1)), none]) (st' := [.int (nI 1)]) (σ' := σ) rfl ?_
                refine am_if (ty := 61) (tn := 55) rfl (by decide) rfl rfl (fun (h_105 : nI 1 = 0) => ?_) (fun (h_105 : ¬ (nI 1 = 0)) => ?_)
                · exact absurd h_105 (by decide)
                refine am_run 3 (pc' := 58) (ls' := [some (.ref 0), some (.int (nI 0)), some (.int (nI a)), some (.int (nI b)), some (.int (nI 1)), some (.int (nI 1)), none]) (st' := [.int (nI a &&& nI b)]) (σ' := σ) rfl ?_
                refine am_top (v' := nI (a &&& b)) (nx_and _ _) ?_
                refine am_if (ty := 64) (tn := 61) rfl (by decide) rfl rfl (fun (h_106 : nI (a &&& b) = 0) => ?_) (fun (h_106 : ¬ (nI (a &&& b) = 0)) => ?_)
                rotate_left
                · have h_106 : ¬ (a &&& b = 0) := fun z => h_106 ((am_n0 (by omega)).mpr z)
                  omega
                have h_106 : a &&& b = 0 := (am_n0 (by omega)).mp h_106
                refine am_run 3 (pc' := 69) (ls' := [some (.ref 0), some (.int (nI 0)), some (.int (nI a)), some (.int (nI b)), some (.int (nI 1)), some (.int (nI 1)), none]) (st' := [.int (nI 0), .ref 17]) (σ' := σ) rfl ?_
                refine am_ialdN (n := 2) (v := nI s) rfl rfl rfl (by decide) b3 (by decide) ?_
                refine am_if (ty := 73) (tn := 77) rfl (by decide) rfl rfl (fun (h_107 : nI s = 0) => ?_) (fun (h_107 : ¬ (nI s = 0)) => ?_)
                · have h_107 : s = 0 := (am_n0 (by omega)).mp h_107
                  omega
                have h_107 : ¬ (s = 0) := fun z => h_107 ((am_n0 (by omega)).mpr z)
                refine am_run 2 (pc' := 80) (ls' := [some (.ref 0), some (.int (nI 0)), some (.int (nI a)), some (.int (nI b)), some (.int (nI 1)), some (.int (nI 1)), some (.int (nI 0))]) (st' := []) (σ' := σ) rfl ?_
                refine c_found_loop (by omega) ha hb (fun σ3 h1 h2 i29 => ?_) 8 0 _ rfl (fun _ _ => rfl) rfl (fun g z => absurd z (Nat.not_lt_zero _))
                have hM3 := hM.keep2 (σ' := σ3) (fun c a => h1 c (by omega))
                have b33 : σ3.1 17 0 = nI s := by rw [h1 17 (by decide)]; exact b3
                refine am_run 5 (pc' := 134) (ls' := [some (.ref 0), some (.int (nI 0)), some (.int (nI a)), some (.int (nI b)), some (.int (nI 1)), some (.int (nI 1)), some (.int (nI 8))]) (st' := [.int (nI 0), .ref 17, .int (nI 0), .ref 0]) (σ' := σ3) rfl ?_
                refine am_ialdN (n := 2) (v := nI s) rfl rfl rfl (by decide) b33 (by decide) ?_
                refine am_invv (y := 209) (b := 0) (as := [.int (nI 0), .int (nI s)]) (rest := []) rfl rfl rfl rfl rfl rfl rfl (Nat.le_of_ble_eq_true rfl) ?_
                refine c_lays (by omega) hM3.1 hs i29 hdj ha hb (fun σ4 hL hB hT => ?_)
                show am_G _ M_X10_found _ 138 [some (.ref 0), some (.int (nI 0)), some (.int (nI a)), some (.int (nI b)), some (.int (nI 1)), some (.int (nI 1)), some (.int (nI 8))] [] σ4
                refine am_run 1 (pc' := 139) (ls' := [some (.ref 0), some (.int (nI 0)), some (.int (nI a)), some (.int (nI b)), some (.int (nI 1)), some (.int (nI 1)), some (.int (nI 8))]) (st' := [.ref 0]) (σ' := σ4) rfl ?_
                refine am_invv (y := 211) (b := 0) (as := []) (rest := []) rfl rfl rfl rfl rfl rfl rfl (Nat.le_of_ble_eq_true rfl) ?_
                refine c_m_whole (by omega) hB (by rw [hL.1 4 (by decide) (by decide)]; exact hM3.2.1.1) hrn hM.2.1.2.2 (hT r hrn 0 (Nat.pow_pos (by decide))) (hv.2.resolve_left hs0) ?_
                show am_G _ M_X10_found _ 142 [some (.ref 0), some (.int (nI 0)), some (.int (nI a)), some (.int (nI b)), some (.int (nI 1)), some (.int (nI 1)), some (.int (nI 8))] [.int (nI (eM (an p 61 (r + 1) s true a b)))] σ4
                refine am_run 2 (pc' := 146) (ls' := [some (.ref 0), some (.int (nI 0)), some (.int (nI a)), some (.int (nI b)), some (.int (nI 1)), some (.int (nI 1)), some (.int (nI (eM (an p 61 (r + 1) s true a b))))]) (st' := [.int (nI 1)]) (σ' := σ4) rfl ?_
                refine am_if (ty := 149) (tn := 157) rfl (by decide) rfl rfl (fun (h_301 : nI 1 = 0) => ?_) (fun (h_301 : ¬ (nI 1 = 0)) => ?_)
                · exact absurd h_301 (by decide)
                refine am_run 2 (pc' := 160) (ls' := [some (.ref 0), some (.int (nI 0)), some (.int (nI a)), some (.int (nI b)), some (.int (nI 1)), some (.int (nI 1)), some (.int (nI (eM (an p 61 (r + 1) s true a b))))]) (st' := [.int (nI 1), .int (nI 1)]) (σ' := σ4) rfl ?_
                refine am_ic (ty := 163) (tn := 171) rfl (by decide) rfl rfl (fun (h_302 : nI 1 = nI 1) => ?_) (fun (h_302 : ¬ (nI 1 = nI 1)) => ?_)
                rotate_left
                · exact absurd (by decide) h_302
                refine am_run 1 (pc' := 165) (ls' := [some (.ref 0), some (.int (nI 0)), some (.int (nI a)), some (.int (nI b)), some (.int (nI 1)), some (.int (nI 1)), some (.int (nI (eM (an p 61 (r + 1) s true a b))))]) (st' := [.int (nI (eM (an p 61 (r + 1) s true a b)))]) (σ' := σ4) rfl ?_
                refine am_invs (y := 186) (as := [.int (nI (eM (an p 61 (r + 1) s true a b)))]) (rest := []) rfl rfl rfl rfl rfl rfl (Nat.le_of_ble_eq_true rfl) ?_
                refine c_m_can (by omega) (r := (an p 61 (r + 1) s true a b)) ok2 ?_
                show am_G _ M_X10_found _ 168 [some (.ref 0), some (.int (nI 0)), some (.int (nI a)), some (.int (nI b)), some (.int (nI 1)), some (.int (nI 1)), some (.int (nI (eM (an p 61 (r + 1) s true a b))))] [.int (nI ((an p 61 (r + 1) s true a b).2.1))] σ4
                refine am_run 1 (pc' := 190) (ls' := [some (.ref 0), some (.int (nI 0)), some (.int (nI a)), some (.int (nI b)), some (.int (nI 1)), some (.int (nI 1)), some (.int (nI (eM (an p 61 (r + 1) s true a b))))]) (st' := [.int (nI ((an p 61 (r + 1) s true a b).2.1))]) (σ' := σ4) rfl ?_
                refine am_reti rfl rfl ?_
                exact ⟨rfl, (((KS.of29 h1 h2).tr hL.KS).KI).inv hI⟩
              · skip
                refine ⟨nI (an p 61 (r + 1) s true a b).2.2.1, ?_⟩
                refine am_enter' (M := M_X9_found) rfl rfl rfl (by omega) (ls := [some (.ref 41), some (.int (nI 0)), some (.int (nI a)), some (.int (nI b)), some (.int (nI 2)), none, none, none]) rfl (fun d' hd' => ?_)
                refine am_run 2 (pc' := 2) (ls' := [some (.ref 41), some (.int (nI 0)), some (.int (nI a)), some (.int (nI b)), some (.int (nI 2)), none, none, none]) (st' := [.int (nI 0), .ref 41]) (σ' := σ) rfl ?_
                refine am_invv (y := 140) (b := 41) (as := [.int (nI 0)]) (rest := []) rfl rfl rfl rfl rfl rfl rfl (Nat.le_of_ble_eq_true rfl) ?_
                refine c_filled0_1 (by omega) hf ?_
                show am_G _ M_X9_found _ 5 [some (.ref 41), some (.int (nI 0)), some (.int (nI a)), some (.int (nI b)), some (.int (nI 2)), none, none, none] [.ref 73] σ
                refine am_run 4 (pc' := 16) (ls' := [some (.ref 41), some (.int (nI 0)), some (.int (nI a)), some (.int (nI b)), some (.int (nI 2)), some (.ref 73), none, none]) (st' := [.int (nI a)]) (σ' := σ) rfl ?_
                refine am_invs (y := 141) (as := [.int (nI a)]) (rest := []) rfl rfl rfl rfl rfl rfl (Nat.le_of_ble_eq_true rfl) ?_
                refine c_sig1 (by omega) (by omega) ?_
                show am_G _ M_X9_found _ 19 [some (.ref 41), some (.int (nI 0)), some (.int (nI a)), some (.int (nI b)), some (.int (nI 2)), some (.ref 73), none, none] [.int (nI 1)] σ
                refine am_if (ty := 46) (tn := 22) rfl (by decide) rfl rfl (fun (h_1 : nI 1 = 0) => ?_) (fun (h_1 : ¬ (nI 1 = 0)) => ?_)
                · exact absurd h_1 (by decide)
                refine am_run 1 (pc' := 23) (ls' := [some (.ref 41), some (.int (nI 0)), some (.int (nI a)), some (.int (nI b)), some (.int (nI 2)), some (.ref 73), none, none]) (st' := [.int (nI b)]) (σ' := σ) rfl ?_
                refine am_invs (y := 141) (as := [.int (nI b)]) (rest := []) rfl rfl rfl rfl rfl rfl (Nat.le_of_ble_eq_true rfl) ?_
                refine c_sig1 (by omega) (by omega) ?_
                show am_G _ M_X9_found _ 26 [some (.ref 41), some (.int (nI 0)), some (.int (nI a)), some (.int (nI b)), some (.int (nI 2)), some (.ref 73), none, none] [.int (nI 1)] σ
                refine am_if (ty := 46) (tn := 29) rfl (by decide) rfl rfl (fun (h_2 : nI 1 = 0) => ?_) (fun (h_2 : ¬ (nI 1 = 0)) => ?_)
                · exact absurd h_2 (by decide)
                refine am_run 3 (pc' := 32) (ls' := [some (.ref 41), some (.int (nI 0)), some (.int (nI a)), some (.int (nI b)), some (.int (nI 2)), some (.ref 73), none, none]) (st' := [.int (nI a &&& nI b)]) (σ' := σ) rfl ?_
                refine am_top (v' := nI (a &&& b)) (nx_and _ _) ?_
                refine am_if (ty := 35) (tn := 46) rfl (by decide) rfl rfl (fun (h_3 : nI (a &&& b) = 0) => ?_) (fun (h_3 : ¬ (nI (a &&& b) = 0)) => ?_)
                rotate_left
                · have h_3 : ¬ (a &&& b = 0) := fun z => h_3 ((am_n0 (by omega)).mpr z)
                  omega
                have h_3 : a &&& b = 0 := (am_n0 (by omega)).mp h_3
                refine am_run 1 (pc' := 37) (ls' := [some (.ref 41), some (.int (nI 0)), some (.int (nI a)), some (.int (nI b)), some (.int (nI 2)), some (.ref 73), none, none]) (st' := [.int (nI 2)]) (σ' := σ) rfl ?_
                refine am_if (ty := 46) (tn := 40) rfl (by decide) rfl rfl (fun (h_4 : nI 2 < 0) => ?_) (fun (h_4 : ¬ (nI 2 < 0)) => ?_)
                · exact absurd h_4 (by decide)
                refine am_run 2 (pc' := 43) (ls' := [some (.ref 41), some (.int (nI 0)), some (.int (nI a)), some (.int (nI b)), some (.int (nI 2)), some (.ref 73), none, none]) (st' := [.int (nI 3), .int (nI 2)]) (σ' := σ) rfl ?_
                refine am_ic (ty := 46) (tn := 49) rfl (by decide) rfl rfl (fun (h_5 : nI 3 < nI 2) => ?_) (fun (h_5 : ¬ (nI 3 < nI 2)) => ?_)
                · exact absurd h_5 (by decide)
                refine am_run 1 (pc' := 51) (ls' := [some (.ref 41), some (.int (nI 0)), some (.int (nI a)), some (.int (nI b)), some (.int (nI 2)), some (.ref 73), none, none]) (st' := [.ref 73]) (σ' := σ) rfl ?_
                refine am_invv (y := 67) (b := 73) (as := []) (rest := []) rfl rfl rfl rfl rfl rfl rfl (Nat.le_of_ble_eq_true rfl) ?_
                refine am_enter' rfl rfl rfl (by omega) (ls := [some (.ref 73)]) rfl (fun d_6 hd_6 => ?_)
                refine am_run 2 (pc' := 4) (ls' := [some (.ref 73)]) (st' := [.int (σ.1 73 3)]) (σ' := σ) rfl ?_
                refine am_top (v' := nI s) a3 ?_
                refine am_reti rfl rfl ?_
                show am_G _ M_X9_found _ 54 [some (.ref 41), some (.int (nI 0)), some (.int (nI a)), some (.int (nI b)), some (.int (nI 2)), some (.ref 73), none, none] [.int (nI s)] σ
                refine am_if (ty := 57) (tn := 60) rfl (by decide) rfl rfl (fun (h_7 : nI s = 0) => ?_) (fun (h_7 : ¬ (nI s = 0)) => ?_)
                · have h_7 : s = 0 := (am_n0 (by omega)).mp h_7
                  omega
                have h_7 : ¬ (s = 0) := fun z => h_7 ((am_n0 (by omega)).mpr z)
                refine am_run 1 (pc' := 62) (ls' := [some (.ref 41), some (.int (nI 0)), some (.int (nI a)), some (.int (nI b)), some (.int (nI 2)), some (.ref 73), none, none]) (st' := [.ref 73]) (σ' := σ) rfl ?_
                refine am_invv (y := 66) (b := 73) (as := []) (rest := []) rfl rfl rfl rfl rfl rfl rfl (Nat.le_of_ble_eq_true rfl) ?_
                refine am_enter' rfl rfl rfl (by omega) (ls := [some (.ref 73)]) rfl (fun d_8 hd_8 => ?_)
                refine am_run 2 (pc' := 4) (ls' := [some (.ref 73)]) (st' := [.ref (σ.2 73 1)]) (σ' := σ) rfl ?_
                refine am_reta rfl rfl (Or.inr ⟨_, rfl⟩) ?_
                show am_G _ M_X9_found _ 65 [some (.ref 41), some (.int (nI 0)), some (.int (nI a)), some (.int (nI b)), some (.int (nI 2)), some (.ref 73), none, none] [.ref (σ.2 73 1)] σ
                refine am_run 1 (pc' := 67) (ls' := [some (.ref 41), some (.int (nI 0)), some (.int (nI a)), some (.int (nI b)), some (.int (nI 2)), some (.ref 73), none, none]) (st' := [.ref 73, .ref (σ.2 73 1)]) (σ' := σ) rfl ?_
                refine am_invv (y := 67) (b := 73) (as := []) (rest := [.ref (σ.2 73 1)]) rfl rfl rfl rfl rfl rfl rfl (Nat.le_of_ble_eq_true rfl) ?_
                refine am_enter' rfl rfl rfl (by omega) (ls := [some (.ref 73)]) rfl (fun d_9 hd_9 => ?_)
                refine am_run 2 (pc' := 4) (ls' := [some (.ref 73)]) (st' := [.int (σ.1 73 3)]) (σ' := σ) rfl ?_
                refine am_top (v' := nI s) a3 ?_
                refine am_reti rfl rfl ?_
                show am_G _ M_X9_found _ 70 [some (.ref 41), some (.int (nI 0)), some (.int (nI a)), some (.int (nI b)), some (.int (nI 2)), some (.ref 73), none, none] [.int (nI s), .ref (σ.2 73 1)] σ
                refine am_run 2 (pc' := 72) (ls' := [some (.ref 41), some (.int (nI 0)), some (.int (nI a)), some (.int (nI b)), some (.int (nI 2)), some (.ref 73), none, none]) (st' := [.int (nI b), .int (nI a), .int (nI s), .ref (σ.2 73 1)]) (σ' := σ) rfl ?_
                refine am_invs (y := 2) (as := [.int (nI a), .int (nI b)]) (rest := [.int (nI s), .ref (σ.2 73 1)]) rfl rfl rfl rfl rfl rfl (Nat.le_of_ble_eq_true rfl) ?_
                refine c_a_knowledge (by omega) (a := a) (b := b) ha ?_
                show am_G _ M_X9_found _ 75 [some (.ref 41), some (.int (nI 0)), some (.int (nI a)), some (.int (nI b)), some (.int (nI 2)), some (.ref 73), none, none] [.int (nI (a + 256 * b)), .int (nI s), .ref (σ.2 73 1)] σ
                refine am_invs (y := 0) (as := [.ref (σ.2 73 1), .int (nI s), .int (nI (a + 256 * b))]) (rest := []) rfl rfl rfl rfl rfl rfl (Nat.le_of_ble_eq_true rfl) ?_
                refine c_a_ofProgram (by omega) hW hR (show r + 1 ≤ n by omega) hro hs ha hb (fun r1 hr1 ok1 => ?_)
                subst hr1
                show am_G _ M_X9_found _ 78 [some (.ref 41), some (.int (nI 0)), some (.int (nI a)), some (.int (nI b)), some (.int (nI 2)), some (.ref 73), none, none] [.int (nI (eC (an p 61 (r + 1) s true a b)))] σ
                refine am_run 2 (pc' := 82) (ls' := [some (.ref 41), some (.int (nI 0)), some (.int (nI a)), some (.int (nI b)), some (.int (nI 2)), some (.ref 73), some (.int (nI (eC (an p 61 (r + 1) s true a b)))), none]) (st' := [.int (nI 2)]) (σ' := σ) rfl ?_
                refine am_if (ty := 91) (tn := 85) rfl (by decide) rfl rfl (fun (h_10 : nI 2 = 0) => ?_) (fun (h_10 : ¬ (nI 2 = 0)) => ?_)
                · exact absurd h_10 (by decide)
                refine am_run 2 (pc' := 88) (ls' := [some (.ref 41), some (.int (nI 0)), some (.int (nI a)), some (.int (nI b)), some (.int (nI 2)), some (.ref 73), some (.int (nI (eC (an p 61 (r + 1) s true a b)))), none]) (st' := [.int (nI 2), .int (nI 2)]) (σ' := σ) rfl ?_
                refine am_ic (ty := 91) (tn := 99) rfl (by decide) rfl rfl (fun (h_11 : nI 2 = nI 2) => ?_) (fun (h_11 : ¬ (nI 2 = nI 2)) => ?_)
                rotate_left
                · exact absurd (by decide) h_11
                refine am_run 1 (pc' := 93) (ls' := [some (.ref 41), some (.int (nI 0)), some (.int (nI a)), some (.int (nI b)), some (.int (nI 2)), some (.ref 73), some (.int (nI (eC (an p 61 (r + 1) s true a b)))), none]) (st' := [.int (nI (eC (an p 61 (r + 1) s true a b)))]) (σ' := σ) rfl ?_
                refine am_invs (y := 3) (as := [.int (nI (eC (an p 61 (r + 1) s true a b)))]) (rest := []) rfl rfl rfl rfl rfl rfl (Nat.le_of_ble_eq_true rfl) ?_
                refine c_a_must (by omega) ok1 ?_
                show am_G _ M_X9_found _ 96 [some (.ref 41), some (.int (nI 0)), some (.int (nI a)), some (.int (nI b)), some (.int (nI 2)), some (.ref 73), some (.int (nI (eC (an p 61 (r + 1) s true a b)))), none] [.int (nI ((an p 61 (r + 1) s true a b).1 + 256 * (an p 61 (r + 1) s true a b).2.2.1))] σ
                refine am_run 4 (pc' := 109) (ls' := [some (.ref 41), some (.int (nI 0)), some (.int (nI a)), some (.int (nI b)), some (.int (nI 2)), some (.ref 73), some (.int (nI (eC (an p 61 (r + 1) s true a b)))), some (.int (nI ((an p 61 (r + 1) s true a b).1 + 256 * (an p 61 (r + 1) s true a b).2.2.1)))]) (st' := [.int (nI 2), .int (nI 2)]) (σ' := σ) rfl ?_
                refine am_ic (ty := 112) (tn := 120) rfl (by decide) rfl rfl (fun (h_12 : nI 2 < nI 2) => ?_) (fun (h_12 : ¬ (nI 2 < nI 2)) => ?_)
                · exact absurd h_12 (by decide)
                refine am_run 1 (pc' := 122) (ls' := [some (.ref 41), some (.int (nI 0)), some (.int (nI a)), some (.int (nI b)), some (.int (nI 2)), some (.ref 73), some (.int (nI (eC (an p 61 (r + 1) s true a b)))), some (.int (nI ((an p 61 (r + 1) s true a b).1 + 256 * (an p 61 (r + 1) s true a b).2.2.1)))]) (st' := [.int (nI ((an p 61 (r + 1) s true a b).1 + 256 * (an p 61 (r + 1) s true a b).2.2.1))]) (σ' := σ) rfl ?_
                refine am_invs (y := 6) (as := [.int (nI ((an p 61 (r + 1) s true a b).1 + 256 * (an p 61 (r + 1) s true a b).2.2.1))]) (rest := []) rfl rfl rfl rfl rfl rfl (Nat.le_of_ble_eq_true rfl) ?_
                refine c_a_codes (by omega) ok1.1 ok1.2.2.1 ?_
                show am_G _ M_X9_found _ 125 [some (.ref 41), some (.int (nI 0)), some (.int (nI a)), some (.int (nI b)), some (.int (nI 2)), some (.ref 73), some (.int (nI (eC (an p 61 (r + 1) s true a b)))), some (.int (nI ((an p 61 (r + 1) s true a b).1 + 256 * (an p 61 (r + 1) s true a b).2.2.1)))] [.int (nI ((an p 61 (r + 1) s true a b).2.2.1))] σ
                refine am_reti rfl rfl ?_
                refine ⟨rfl, ?_⟩
                refine am_enter' (M := M_X10_found) rfl rfl rfl (by omega) (ls := [some (.ref 0), some (.int (nI 0)), some (.int (nI a)), some (.int (nI b)), some (.int (nI 2)), none, none]) rfl (fun d2 hd2 => ?_)
                refine am_run 2 (pc' := 2) (ls' := [some (.ref 0), some (.int (nI 0)), some (.int (nI a)), some (.int (nI b)), some (.int (nI 2)), none, none]) (st' := [.int (nI 0), .ref 0]) (σ' := σ) rfl ?_
                refine am_invv (y := 151) (b := 0) (as := [.int (nI 0)]) (rest := []) rfl rfl rfl rfl rfl rfl rfl (Nat.le_of_ble_eq_true rfl) ?_
                refine c_prog0_1 (by omega) (n := n) (by exact hn2) hn1 hn60 ?_
                show am_G _ M_X10_found _ 5 [some (.ref 0), some (.int (nI 0)), some (.int (nI a)), some (.int (nI b)), some (.int (nI 2)), none, none] [.int (nI 1)] σ
                refine am_if (ty := 8) (tn := 11) rfl (by decide) rfl rfl (fun (h_101 : nI 1 = 0) => ?_) (fun (h_101 : ¬ (nI 1 = 0)) => ?_)
                · exact absurd h_101 (by decide)
                refine am_run 3 (pc' := 16) (ls' := [some (.ref 0), some (.int (nI 0)), some (.int (nI a)), some (.int (nI b)), some (.int (nI 2)), none, none]) (st' := [.int (nI 255), .int (nI 0), .int (nI a)]) (σ' := σ) rfl ?_
                refine am_invs (y := 148) (as := [.int (nI a), .int (nI 0), .int (nI 255)]) (rest := []) rfl rfl rfl rfl rfl rfl (Nat.le_of_ble_eq_true rfl) ?_
                refine c_in1 (by omega) (by omega) (by omega) (by omega) ?_
                show am_G _ M_X10_found _ 19 [some (.ref 0), some (.int (nI 0)), some (.int (nI a)), some (.int (nI b)), some (.int (nI 2)), none, none] [.int (nI 1)] σ
                refine am_if (ty := 47) (tn := 22) rfl (by decide) rfl rfl (fun (h_102 : nI 1 = 0) => ?_) (fun (h_102 : ¬ (nI 1 = 0)) => ?_)
                · exact absurd h_102 (by decide)
                refine am_run 3 (pc' := 27) (ls' := [some (.ref 0), some (.int (nI 0)), some (.int (nI a)), some (.int (nI b)), some (.int (nI 2)), none, none]) (st' := [.int (nI 255), .int (nI 0), .int (nI b)]) (σ' := σ) rfl ?_
                refine am_invs (y := 148) (as := [.int (nI b), .int (nI 0), .int (nI 255)]) (rest := []) rfl rfl rfl rfl rfl rfl (Nat.le_of_ble_eq_true rfl) ?_
                refine c_in1 (by omega) (by omega) (by omega) (by omega) ?_
                show am_G _ M_X10_found _ 30 [some (.ref 0), some (.int (nI 0)), some (.int (nI a)), some (.int (nI b)), some (.int (nI 2)), none, none] [.int (nI 1)] σ
                refine am_if (ty := 47) (tn := 33) rfl (by decide) rfl rfl (fun (h_103 : nI 1 = 0) => ?_) (fun (h_103 : ¬ (nI 1 = 0)) => ?_)
                · exact absurd h_103 (by decide)
                refine am_run 3 (pc' := 37) (ls' := [some (.ref 0), some (.int (nI 0)), some (.int (nI a)), some (.int (nI b)), some (.int (nI 2)), none, none]) (st' := [.int (nI 3), .int (nI 0), .int (nI 2)]) (σ' := σ) rfl ?_
                refine am_invs (y := 148) (as := [.int (nI 2), .int (nI 0), .int (nI 3)]) (rest := []) rfl rfl rfl rfl rfl rfl (Nat.le_of_ble_eq_true rfl) ?_
                refine c_in1 (by omega) (by omega) (by omega) (by omega) ?_
                show am_G _ M_X10_found _ 40 [some (.ref 0), some (.int (nI 0)), some (.int (nI a)), some (.int (nI b)), some (.int (nI 2)), none, none] [.int (nI 1)] σ
                refine am_if (ty := 47) (tn := 43) rfl (by decide) rfl rfl (fun (h_104 : nI 1 = 0) => ?_) (fun (h_104 : ¬ (nI 1 = 0)) => ?_)
                · exact absurd h_104 (by decide)
                refine am_run 4 (pc' := 52) (ls' := [some (.ref 0), some (.int (nI 0)), some (.int (nI a)), some (.int (nI b)), some (.int (nI 2)), some (.int (nI 1)), none]) (st' := [.int (nI 1)]) (σ' := σ) rfl ?_
                refine am_if (ty := 61) (tn := 55) rfl (by decide) rfl rfl (fun (h_105 : nI 1 = 0) => ?_) (fun (h_105 : ¬ (nI 1 = 0)) => ?_)
                · exact absurd h_105 (by decide)
                refine am_run 3 (pc' := 58) (ls' := [some (.ref 0), some (.int (nI 0)), some (.int (nI a)), some (.int (nI b)), some (.int (nI 2)), some (.int (nI 1)), none]) (st' := [.int (nI a &&& nI b)]) (σ' := σ) rfl ?_
                refine am_top (v' := nI (a &&& b)) (nx_and _ _) ?_
                refine am_if (ty := 64) (tn := 61) rfl (by decide) rfl rfl (fun (h_106 : nI (a &&& b) = 0) => ?_) (fun (h_106 : ¬ (nI (a &&& b) = 0)) => ?_)
                rotate_left
                · have h_106 : ¬ (a &&& b = 0) := fun z => h_106 ((am_n0 (by omega)).mpr z)
                  omega
                have h_106 : a &&& b = 0 := (am_n0 (by omega)).mp h_106
                refine am_run 3 (pc' := 69) (ls' := [some (.ref 0), some (.int (nI 0)), some (.int (nI a)), some (.int (nI b)), some (.int (nI 2)), some (.int (nI 1)), none]) (st' := [.int (nI 0), .ref 17]) (σ' := σ) rfl ?_
                refine am_ialdN (n := 2) (v := nI s) rfl rfl rfl (by decide) b3 (by decide) ?_
                refine am_if (ty := 73) (tn := 77) rfl (by decide) rfl rfl (fun (h_107 : nI s = 0) => ?_) (fun (h_107 : ¬ (nI s = 0)) => ?_)
                · have h_107 : s = 0 := (am_n0 (by omega)).mp h_107
                  omega
                have h_107 : ¬ (s = 0) := fun z => h_107 ((am_n0 (by omega)).mpr z)
                refine am_run 2 (pc' := 80) (ls' := [some (.ref 0), some (.int (nI 0)), some (.int (nI a)), some (.int (nI b)), some (.int (nI 2)), some (.int (nI 1)), some (.int (nI 0))]) (st' := []) (σ' := σ) rfl ?_
                refine c_found_loop (by omega) ha hb (fun σ3 h1 h2 i29 => ?_) 8 0 _ rfl (fun _ _ => rfl) rfl (fun g z => absurd z (Nat.not_lt_zero _))
                have hM3 := hM.keep2 (σ' := σ3) (fun c a => h1 c (by omega))
                have b33 : σ3.1 17 0 = nI s := by rw [h1 17 (by decide)]; exact b3
                refine am_run 5 (pc' := 134) (ls' := [some (.ref 0), some (.int (nI 0)), some (.int (nI a)), some (.int (nI b)), some (.int (nI 2)), some (.int (nI 1)), some (.int (nI 8))]) (st' := [.int (nI 0), .ref 17, .int (nI 0), .ref 0]) (σ' := σ3) rfl ?_
                refine am_ialdN (n := 2) (v := nI s) rfl rfl rfl (by decide) b33 (by decide) ?_
                refine am_invv (y := 209) (b := 0) (as := [.int (nI 0), .int (nI s)]) (rest := []) rfl rfl rfl rfl rfl rfl rfl (Nat.le_of_ble_eq_true rfl) ?_
                refine c_lays (by omega) hM3.1 hs i29 hdj ha hb (fun σ4 hL hB hT => ?_)
                show am_G _ M_X10_found _ 138 [some (.ref 0), some (.int (nI 0)), some (.int (nI a)), some (.int (nI b)), some (.int (nI 2)), some (.int (nI 1)), some (.int (nI 8))] [] σ4
                refine am_run 1 (pc' := 139) (ls' := [some (.ref 0), some (.int (nI 0)), some (.int (nI a)), some (.int (nI b)), some (.int (nI 2)), some (.int (nI 1)), some (.int (nI 8))]) (st' := [.ref 0]) (σ' := σ4) rfl ?_
                refine am_invv (y := 211) (b := 0) (as := []) (rest := []) rfl rfl rfl rfl rfl rfl rfl (Nat.le_of_ble_eq_true rfl) ?_
                refine c_m_whole (by omega) hB (by rw [hL.1 4 (by decide) (by decide)]; exact hM3.2.1.1) hrn hM.2.1.2.2 (hT r hrn 0 (Nat.pow_pos (by decide))) (hv.2.resolve_left hs0) ?_
                show am_G _ M_X10_found _ 142 [some (.ref 0), some (.int (nI 0)), some (.int (nI a)), some (.int (nI b)), some (.int (nI 2)), some (.int (nI 1)), some (.int (nI 8))] [.int (nI (eM (an p 61 (r + 1) s true a b)))] σ4
                refine am_run 2 (pc' := 146) (ls' := [some (.ref 0), some (.int (nI 0)), some (.int (nI a)), some (.int (nI b)), some (.int (nI 2)), some (.int (nI 1)), some (.int (nI (eM (an p 61 (r + 1) s true a b))))]) (st' := [.int (nI 2)]) (σ' := σ4) rfl ?_
                refine am_if (ty := 149) (tn := 157) rfl (by decide) rfl rfl (fun (h_301 : nI 2 = 0) => ?_) (fun (h_301 : ¬ (nI 2 = 0)) => ?_)
                · exact absurd h_301 (by decide)
                refine am_run 2 (pc' := 160) (ls' := [some (.ref 0), some (.int (nI 0)), some (.int (nI a)), some (.int (nI b)), some (.int (nI 2)), some (.int (nI 1)), some (.int (nI (eM (an p 61 (r + 1) s true a b))))]) (st' := [.int (nI 1), .int (nI 2)]) (σ' := σ4) rfl ?_
                refine am_ic (ty := 163) (tn := 171) rfl (by decide) rfl rfl (fun (h_302 : nI 2 = nI 1) => ?_) (fun (h_302 : ¬ (nI 2 = nI 1)) => ?_)
                · exact absurd h_302 (by decide)
                refine am_run 2 (pc' := 174) (ls' := [some (.ref 0), some (.int (nI 0)), some (.int (nI a)), some (.int (nI b)), some (.int (nI 2)), some (.int (nI 1)), some (.int (nI (eM (an p 61 (r + 1) s true a b))))]) (st' := [.int (nI 2), .int (nI 2)]) (σ' := σ4) rfl ?_
                refine am_ic (ty := 177) (tn := 185) rfl (by decide) rfl rfl (fun (h_303 : nI 2 = nI 2) => ?_) (fun (h_303 : ¬ (nI 2 = nI 2)) => ?_)
                rotate_left
                · exact absurd (by decide) h_303
                refine am_run 1 (pc' := 179) (ls' := [some (.ref 0), some (.int (nI 0)), some (.int (nI a)), some (.int (nI b)), some (.int (nI 2)), some (.int (nI 1)), some (.int (nI (eM (an p 61 (r + 1) s true a b))))]) (st' := [.int (nI (eM (an p 61 (r + 1) s true a b)))]) (σ' := σ4) rfl ?_
                refine am_invs (y := 187) (as := [.int (nI (eM (an p 61 (r + 1) s true a b)))]) (rest := []) rfl rfl rfl rfl rfl rfl (Nat.le_of_ble_eq_true rfl) ?_
                refine c_m_mustCodes (by omega) (r := (an p 61 (r + 1) s true a b)) ok2 ?_
                show am_G _ M_X10_found _ 182 [some (.ref 0), some (.int (nI 0)), some (.int (nI a)), some (.int (nI b)), some (.int (nI 2)), some (.int (nI 1)), some (.int (nI (eM (an p 61 (r + 1) s true a b))))] [.int (nI ((an p 61 (r + 1) s true a b).2.2.1))] σ4
                refine am_run 1 (pc' := 190) (ls' := [some (.ref 0), some (.int (nI 0)), some (.int (nI a)), some (.int (nI b)), some (.int (nI 2)), some (.int (nI 1)), some (.int (nI (eM (an p 61 (r + 1) s true a b))))]) (st' := [.int (nI ((an p 61 (r + 1) s true a b).2.2.1))]) (σ' := σ4) rfl ?_
                refine am_reti rfl rfl ?_
                exact ⟨rfl, (((KS.of29 h1 h2).tr hL.KS).KI).inv hI⟩
              · skip
                refine ⟨nI (an p 61 (r + 1) s true a b).2.2.2, ?_⟩
                refine am_enter' (M := M_X9_found) rfl rfl rfl (by omega) (ls := [some (.ref 41), some (.int (nI 0)), some (.int (nI a)), some (.int (nI b)), some (.int (nI 3)), none, none, none]) rfl (fun d' hd' => ?_)
                refine am_run 2 (pc' := 2) (ls' := [some (.ref 41), some (.int (nI 0)), some (.int (nI a)), some (.int (nI b)), some (.int (nI 3)), none, none, none]) (st' := [.int (nI 0), .ref 41]) (σ' := σ) rfl ?_
                refine am_invv (y := 140) (b := 41) (as := [.int (nI 0)]) (rest := []) rfl rfl rfl rfl rfl rfl rfl (Nat.le_of_ble_eq_true rfl) ?_
                refine c_filled0_1 (by omega) hf ?_
                show am_G _ M_X9_found _ 5 [some (.ref 41), some (.int (nI 0)), some (.int (nI a)), some (.int (nI b)), some (.int (nI 3)), none, none, none] [.ref 73] σ
                refine am_run 4 (pc' := 16) (ls' := [some (.ref 41), some (.int (nI 0)), some (.int (nI a)), some (.int (nI b)), some (.int (nI 3)), some (.ref 73), none, none]) (st' := [.int (nI a)]) (σ' := σ) rfl ?_
                refine am_invs (y := 141) (as := [.int (nI a)]) (rest := []) rfl rfl rfl rfl rfl rfl (Nat.le_of_ble_eq_true rfl) ?_
                refine c_sig1 (by omega) (by omega) ?_
                show am_G _ M_X9_found _ 19 [some (.ref 41), some (.int (nI 0)), some (.int (nI a)), some (.int (nI b)), some (.int (nI 3)), some (.ref 73), none, none] [.int (nI 1)] σ
                refine am_if (ty := 46) (tn := 22) rfl (by decide) rfl rfl (fun (h_1 : nI 1 = 0) => ?_) (fun (h_1 : ¬ (nI 1 = 0)) => ?_)
                · exact absurd h_1 (by decide)
                refine am_run 1 (pc' := 23) (ls' := [some (.ref 41), some (.int (nI 0)), some (.int (nI a)), some (.int (nI b)), some (.int (nI 3)), some (.ref 73), none, none]) (st' := [.int (nI b)]) (σ' := σ) rfl ?_
                refine am_invs (y := 141) (as := [.int (nI b)]) (rest := []) rfl rfl rfl rfl rfl rfl (Nat.le_of_ble_eq_true rfl) ?_
                refine c_sig1 (by omega) (by omega) ?_
                show am_G _ M_X9_found _ 26 [some (.ref 41), some (.int (nI 0)), some (.int (nI a)), some (.int (nI b)), some (.int (nI 3)), some (.ref 73), none, none] [.int (nI 1)] σ
                refine am_if (ty := 46) (tn := 29) rfl (by decide) rfl rfl (fun (h_2 : nI 1 = 0) => ?_) (fun (h_2 : ¬ (nI 1 = 0)) => ?_)
                · exact absurd h_2 (by decide)
                refine am_run 3 (pc' := 32) (ls' := [some (.ref 41), some (.int (nI 0)), some (.int (nI a)), some (.int (nI b)), some (.int (nI 3)), some (.ref 73), none, none]) (st' := [.int (nI a &&& nI b)]) (σ' := σ) rfl ?_
                refine am_top (v' := nI (a &&& b)) (nx_and _ _) ?_
                refine am_if (ty := 35) (tn := 46) rfl (by decide) rfl rfl (fun (h_3 : nI (a &&& b) = 0) => ?_) (fun (h_3 : ¬ (nI (a &&& b) = 0)) => ?_)
                rotate_left
                · have h_3 : ¬ (a &&& b = 0) := fun z => h_3 ((am_n0 (by omega)).mpr z)
                  omega
                have h_3 : a &&& b = 0 := (am_n0 (by omega)).mp h_3
                refine am_run 1 (pc' := 37) (ls' := [some (.ref 41), some (.int (nI 0)), some (.int (nI a)), some (.int (nI b)), some (.int (nI 3)), some (.ref 73), none, none]) (st' := [.int (nI 3)]) (σ' := σ) rfl ?_
                refine am_if (ty := 46) (tn := 40) rfl (by decide) rfl rfl (fun (h_4 : nI 3 < 0) => ?_) (fun (h_4 : ¬ (nI 3 < 0)) => ?_)
                · exact absurd h_4 (by decide)
                refine am_run 2 (pc' := 43) (ls' := [some (.ref 41), some (.int (nI 0)), some (.int (nI a)), some (.int (nI b)), some (.int (nI 3)), some (.ref 73), none, none]) (st' := [.int (nI 3), .int (nI 3)]) (σ' := σ) rfl ?_
                refine am_ic (ty := 46) (tn := 49) rfl (by decide) rfl rfl (fun (h_5 : nI 3 < nI 3) => ?_) (fun (h_5 : ¬ (nI 3 < nI 3)) => ?_)
                · exact absurd h_5 (by decide)
                refine am_run 1 (pc' := 51) (ls' := [some (.ref 41), some (.int (nI 0)), some (.int (nI a)), some (.int (nI b)), some (.int (nI 3)), some (.ref 73), none, none]) (st' := [.ref 73]) (σ' := σ) rfl ?_
                refine am_invv (y := 67) (b := 73) (as := []) (rest := []) rfl rfl rfl rfl rfl rfl rfl (Nat.le_of_ble_eq_true rfl) ?_
                refine am_enter' rfl rfl rfl (by omega) (ls := [some (.ref 73)]) rfl (fun d_6 hd_6 => ?_)
                refine am_run 2 (pc' := 4) (ls' := [some (.ref 73)]) (st' := [.int (σ.1 73 3)]) (σ' := σ) rfl ?_
                refine am_top (v' := nI s) a3 ?_
                refine am_reti rfl rfl ?_
                show am_G _ M_X9_found _ 54 [some (.ref 41), some (.int (nI 0)), some (.int (nI a)), some (.int (nI b)), some (.int (nI 3)), some (.ref 73), none, none] [.int (nI s)] σ
                refine am_if (ty := 57) (tn := 60) rfl (by decide) rfl rfl (fun (h_7 : nI s = 0) => ?_) (fun (h_7 : ¬ (nI s = 0)) => ?_)
                · have h_7 : s = 0 := (am_n0 (by omega)).mp h_7
                  omega
                have h_7 : ¬ (s = 0) := fun z => h_7 ((am_n0 (by omega)).mpr z)
                refine am_run 1 (pc' := 62) (ls' := [some (.ref 41), some (.int (nI 0)), some (.int (nI a)), some (.int (nI b)), some (.int (nI 3)), some (.ref 73), none, none]) (st' := [.ref 73]) (σ' := σ) rfl ?_
                refine am_invv (y := 66) (b := 73) (as := []) (rest := []) rfl rfl rfl rfl rfl rfl rfl (Nat.le_of_ble_eq_true rfl) ?_
                refine am_enter' rfl rfl rfl (by omega) (ls := [some (.ref 73)]) rfl (fun d_8 hd_8 => ?_)
                refine am_run 2 (pc' := 4) (ls' := [some (.ref 73)]) (st' := [.ref (σ.2 73 1)]) (σ' := σ) rfl ?_
                refine am_reta rfl rfl (Or.inr ⟨_, rfl⟩) ?_
                show am_G _ M_X9_found _ 65 [some (.ref 41), some (.int (nI 0)), some (.int (nI a)), some (.int (nI b)), some (.int (nI 3)), some (.ref 73), none, none] [.ref (σ.2 73 1)] σ
                refine am_run 1 (pc' := 67) (ls' := [some (.ref 41), some (.int (nI 0)), some (.int (nI a)), some (.int (nI b)), some (.int (nI 3)), some (.ref 73), none, none]) (st' := [.ref 73, .ref (σ.2 73 1)]) (σ' := σ) rfl ?_
                refine am_invv (y := 67) (b := 73) (as := []) (rest := [.ref (σ.2 73 1)]) rfl rfl rfl rfl rfl rfl rfl (Nat.le_of_ble_eq_true rfl) ?_
                refine am_enter' rfl rfl rfl (by omega) (ls := [some (.ref 73)]) rfl (fun d_9 hd_9 => ?_)
                refine am_run 2 (pc' := 4) (ls' := [some (.ref 73)]) (st' := [.int (σ.1 73 3)]) (σ' := σ) rfl ?_
                refine am_top (v' := nI s) a3 ?_
                refine am_reti rfl rfl ?_
                show am_G _ M_X9_found _ 70 [some (.ref 41), some (.int (nI 0)), some (.int (nI a)), some (.int (nI b)), some (.int (nI 3)), some (.ref 73), none, none] [.int (nI s), .ref (σ.2 73 1)] σ
                refine am_run 2 (pc' := 72) (ls' := [some (.ref 41), some (.int (nI 0)), some (.int (nI a)), some (.int (nI b)), some (.int (nI 3)), some (.ref 73), none, none]) (st' := [.int (nI b), .int (nI a), .int (nI s), .ref (σ.2 73 1)]) (σ' := σ) rfl ?_
                refine am_invs (y := 2) (as := [.int (nI a), .int (nI b)]) (rest := [.int (nI s), .ref (σ.2 73 1)]) rfl rfl rfl rfl rfl rfl (Nat.le_of_ble_eq_true rfl) ?_
                refine c_a_knowledge (by omega) (a := a) (b := b) ha ?_
                show am_G _ M_X9_found _ 75 [some (.ref 41), some (.int (nI 0)), some (.int (nI a)), some (.int (nI b)), some (.int (nI 3)), some (.ref 73), none, none] [.int (nI (a + 256 * b)), .int (nI s), .ref (σ.2 73 1)] σ
                refine am_invs (y := 0) (as := [.ref (σ.2 73 1), .int (nI s), .int (nI (a + 256 * b))]) (rest := []) rfl rfl rfl rfl rfl rfl (Nat.le_of_ble_eq_true rfl) ?_
                refine c_a_ofProgram (by omega) hW hR (show r + 1 ≤ n by omega) hro hs ha hb (fun r1 hr1 ok1 => ?_)
                subst hr1
                show am_G _ M_X9_found _ 78 [some (.ref 41), some (.int (nI 0)), some (.int (nI a)), some (.int (nI b)), some (.int (nI 3)), some (.ref 73), none, none] [.int (nI (eC (an p 61 (r + 1) s true a b)))] σ
                refine am_run 2 (pc' := 82) (ls' := [some (.ref 41), some (.int (nI 0)), some (.int (nI a)), some (.int (nI b)), some (.int (nI 3)), some (.ref 73), some (.int (nI (eC (an p 61 (r + 1) s true a b)))), none]) (st' := [.int (nI 3)]) (σ' := σ) rfl ?_
                refine am_if (ty := 91) (tn := 85) rfl (by decide) rfl rfl (fun (h_10 : nI 3 = 0) => ?_) (fun (h_10 : ¬ (nI 3 = 0)) => ?_)
                · exact absurd h_10 (by decide)
                refine am_run 2 (pc' := 88) (ls' := [some (.ref 41), some (.int (nI 0)), some (.int (nI a)), some (.int (nI b)), some (.int (nI 3)), some (.ref 73), some (.int (nI (eC (an p 61 (r + 1) s true a b)))), none]) (st' := [.int (nI 2), .int (nI 3)]) (σ' := σ) rfl ?_
                refine am_ic (ty := 91) (tn := 99) rfl (by decide) rfl rfl (fun (h_11 : nI 3 = nI 2) => ?_) (fun (h_11 : ¬ (nI 3 = nI 2)) => ?_)
                · exact absurd h_11 (by decide)
                refine am_run 1 (pc' := 101) (ls' := [some (.ref 41), some (.int (nI 0)), some (.int (nI a)), some (.int (nI b)), some (.int (nI 3)), some (.ref 73), some (.int (nI (eC (an p 61 (r + 1) s true a b)))), none]) (st' := [.int (nI (eC (an p 61 (r + 1) s true a b)))]) (σ' := σ) rfl ?_
                refine am_invs (y := 4) (as := [.int (nI (eC (an p 61 (r + 1) s true a b)))]) (rest := []) rfl rfl rfl rfl rfl rfl (Nat.le_of_ble_eq_true rfl) ?_
                refine c_a_can (by omega) ok1 ?_
                show am_G _ M_X9_found _ 104 [some (.ref 41), some (.int (nI 0)), some (.int (nI a)), some (.int (nI b)), some (.int (nI 3)), some (.ref 73), some (.int (nI (eC (an p 61 (r + 1) s true a b)))), none] [.int (nI ((an p 61 (r + 1) s true a b).2.1 + 256 * (an p 61 (r + 1) s true a b).2.2.2))] σ
                refine am_run 3 (pc' := 109) (ls' := [some (.ref 41), some (.int (nI 0)), some (.int (nI a)), some (.int (nI b)), some (.int (nI 3)), some (.ref 73), some (.int (nI (eC (an p 61 (r + 1) s true a b)))), some (.int (nI ((an p 61 (r + 1) s true a b).2.1 + 256 * (an p 61 (r + 1) s true a b).2.2.2)))]) (st' := [.int (nI 2), .int (nI 3)]) (σ' := σ) rfl ?_
                refine am_ic (ty := 112) (tn := 120) rfl (by decide) rfl rfl (fun (h_12 : nI 3 < nI 2) => ?_) (fun (h_12 : ¬ (nI 3 < nI 2)) => ?_)
                · exact absurd h_12 (by decide)
                refine am_run 1 (pc' := 122) (ls' := [some (.ref 41), some (.int (nI 0)), some (.int (nI a)), some (.int (nI b)), some (.int (nI 3)), some (.ref 73), some (.int (nI (eC (an p 61 (r + 1) s true a b)))), some (.int (nI ((an p 61 (r + 1) s true a b).2.1 + 256 * (an p 61 (r + 1) s true a b).2.2.2)))]) (st' := [.int (nI ((an p 61 (r + 1) s true a b).2.1 + 256 * (an p 61 (r + 1) s true a b).2.2.2))]) (σ' := σ) rfl ?_
                refine am_invs (y := 6) (as := [.int (nI ((an p 61 (r + 1) s true a b).2.1 + 256 * (an p 61 (r + 1) s true a b).2.2.2))]) (rest := []) rfl rfl rfl rfl rfl rfl (Nat.le_of_ble_eq_true rfl) ?_
                refine c_a_codes (by omega) ok1.2.1 ok1.2.2.2 ?_
                show am_G _ M_X9_found _ 125 [some (.ref 41), some (.int (nI 0)), some (.int (nI a)), some (.int (nI b)), some (.int (nI 3)), some (.ref 73), some (.int (nI (eC (an p 61 (r + 1) s true a b)))), some (.int (nI ((an p 61 (r + 1) s true a b).2.1 + 256 * (an p 61 (r + 1) s true a b).2.2.2)))] [.int (nI ((an p 61 (r + 1) s true a b).2.2.2))] σ
                refine am_reti rfl rfl ?_
                refine ⟨rfl, ?_⟩
                refine am_enter' (M := M_X10_found) rfl rfl rfl (by omega) (ls := [some (.ref 0), some (.int (nI 0)), some (.int (nI a)), some (.int (nI b)), some (.int (nI 3)), none, none]) rfl (fun d2 hd2 => ?_)
                refine am_run 2 (pc' := 2) (ls' := [some (.ref 0), some (.int (nI 0)), some (.int (nI a)), some (.int (nI b)), some (.int (nI 3)), none, none]) (st' := [.int (nI 0), .ref 0]) (σ' := σ) rfl ?_
                refine am_invv (y := 151) (b := 0) (as := [.int (nI 0)]) (rest := []) rfl rfl rfl rfl rfl rfl rfl (Nat.le_of_ble_eq_true rfl) ?_
                refine c_prog0_1 (by omega) (n := n) (by exact hn2) hn1 hn60 ?_
                show am_G _ M_X10_found _ 5 [some (.ref 0), some (.int (nI 0)), some (.int (nI a)), some (.int (nI b)), some (.int (nI 3)), none, none] [.int (nI 1)] σ
                refine am_if (ty := 8) (tn := 11) rfl (by decide) rfl rfl (fun (h_101 : nI 1 = 0) => ?_) (fun (h_101 : ¬ (nI 1 = 0)) => ?_)
                · exact absurd h_101 (by decide)
                refine am_run 3 (pc' := 16) (ls' := [some (.ref 0), some (.int (nI 0)), some (.int (nI a)), some (.int (nI b)), some (.int (nI 3)), none, none]) (st' := [.int (nI 255), .int (nI 0), .int (nI a)]) (σ' := σ) rfl ?_
                refine am_invs (y := 148) (as := [.int (nI a), .int (nI 0), .int (nI 255)]) (rest := []) rfl rfl rfl rfl rfl rfl (Nat.le_of_ble_eq_true rfl) ?_
                refine c_in1 (by omega) (by omega) (by omega) (by omega) ?_
                show am_G _ M_X10_found _ 19 [some (.ref 0), some (.int (nI 0)), some (.int (nI a)), some (.int (nI b)), some (.int (nI 3)), none, none] [.int (nI 1)] σ
                refine am_if (ty := 47) (tn := 22) rfl (by decide) rfl rfl (fun (h_102 : nI 1 = 0) => ?_) (fun (h_102 : ¬ (nI 1 = 0)) => ?_)
                · exact absurd h_102 (by decide)
                refine am_run 3 (pc' := 27) (ls' := [some (.ref 0), some (.int (nI 0)), some (.int (nI a)), some (.int (nI b)), some (.int (nI 3)), none, none]) (st' := [.int (nI 255), .int (nI 0), .int (nI b)]) (σ' := σ) rfl ?_
                refine am_invs (y := 148) (as := [.int (nI b), .int (nI 0), .int (nI 255)]) (rest := []) rfl rfl rfl rfl rfl rfl (Nat.le_of_ble_eq_true rfl) ?_
                refine c_in1 (by omega) (by omega) (by omega) (by omega) ?_
                show am_G _ M_X10_found _ 30 [some (.ref 0), some (.int (nI 0)), some (.int (nI a)), some (.int (nI b)), some (.int (nI 3)), none, none] [.int (nI 1)] σ
                refine am_if (ty := 47) (tn := 33) rfl (by decide) rfl rfl (fun (h_103 : nI 1 = 0) => ?_) (fun (h_103 : ¬ (nI 1 = 0)) => ?_)
                · exact absurd h_103 (by decide)
                refine am_run 3 (pc' := 37) (ls' := [some (.ref 0), some (.int (nI 0)), some (.int (nI a)), some (.int (nI b)), some (.int (nI 3)), none, none]) (st' := [.int (nI 3), .int (nI 0), .int (nI 3)]) (σ' := σ) rfl ?_
                refine am_invs (y := 148) (as := [.int (nI 3), .int (nI 0), .int (nI 3)]) (rest := []) rfl rfl rfl rfl rfl rfl (Nat.le_of_ble_eq_true rfl) ?_
                refine c_in1 (by omega) (by omega) (by omega) (by omega) ?_
                show am_G _ M_X10_found _ 40 [some (.ref 0), some (.int (nI 0)), some (.int (nI a)), some (.int (nI b)), some (.int (nI 3)), none, none] [.int (nI 1)] σ
                refine am_if (ty := 47) (tn := 43) rfl (by decide) rfl rfl (fun (h_104 : nI 1 = 0) => ?_) (fun (h_104 : ¬ (nI 1 = 0)) => ?_)
                · exact absurd h_104 (by decide)
                refine am_run 4 (pc' := 52) (ls' := [some (.ref 0), some (.int (nI 0)), some (.int (nI a)), some (.int (nI b)), some (.int (nI 3)), some (.int (nI 1)), none]) (st' := [.int (nI 1)]) (σ' := σ) rfl ?_
                refine am_if (ty := 61) (tn := 55) rfl (by decide) rfl rfl (fun (h_105 : nI 1 = 0) => ?_) (fun (h_105 : ¬ (nI 1 = 0)) => ?_)
                · exact absurd h_105 (by decide)
                refine am_run 3 (pc' := 58) (ls' := [some (.ref 0), some (.int (nI 0)), some (.int (nI a)), some (.int (nI b)), some (.int (nI 3)), some (.int (nI 1)), none]) (st' := [.int (nI a &&& nI b)]) (σ' := σ) rfl ?_
                refine am_top (v' := nI (a &&& b)) (nx_and _ _) ?_
                refine am_if (ty := 64) (tn := 61) rfl (by decide) rfl rfl (fun (h_106 : nI (a &&& b) = 0) => ?_) (fun (h_106 : ¬ (nI (a &&& b) = 0)) => ?_)
                rotate_left
                · have h_106 : ¬ (a &&& b = 0) := fun z => h_106 ((am_n0 (by omega)).mpr z)
                  omega
                have h_106 : a &&& b = 0 := (am_n0 (by omega)).mp h_106
                refine am_run 3 (pc' := 69) (ls' := [some (.ref 0), some (.int (nI 0)), some (.int (nI a)), some (.int (nI b)), some (.int (nI 3)), some (.int (nI 1)), none]) (st' := [.int (nI 0), .ref 17]) (σ' := σ) rfl ?_
                refine am_ialdN (n := 2) (v := nI s) rfl rfl rfl (by decide) b3 (by decide) ?_
                refine am_if (ty := 73) (tn := 77) rfl (by decide) rfl rfl (fun (h_107 : nI s = 0) => ?_) (fun (h_107 : ¬ (nI s = 0)) => ?_)
                · have h_107 : s = 0 := (am_n0 (by omega)).mp h_107
                  omega
                have h_107 : ¬ (s = 0) := fun z => h_107 ((am_n0 (by omega)).mpr z)
                refine am_run 2 (pc' := 80) (ls' := [some (.ref 0), some (.int (nI 0)), some (.int (nI a)), some (.int (nI b)), some (.int (nI 3)), some (.int (nI 1)), some (.int (nI 0))]) (st' := []) (σ' := σ) rfl ?_
                refine c_found_loop (by omega) ha hb (fun σ3 h1 h2 i29 => ?_) 8 0 _ rfl (fun _ _ => rfl) rfl (fun g z => absurd z (Nat.not_lt_zero _))
                have hM3 := hM.keep2 (σ' := σ3) (fun c a => h1 c (by omega))
                have b33 : σ3.1 17 0 = nI s := by rw [h1 17 (by decide)]; exact b3
                refine am_run 5 (pc' := 134) (ls' := [some (.ref 0), some (.int (nI 0)), some (.int (nI a)), some (.int (nI b)), some (.int (nI 3)), some (.int (nI 1)), some (.int (nI 8))]) (st' := [.int (nI 0), .ref 17, .int (nI 0), .ref 0]) (σ' := σ3) rfl ?_
                refine am_ialdN (n := 2) (v := nI s) rfl rfl rfl (by decide) b33 (by decide) ?_
                refine am_invv (y := 209) (b := 0) (as := [.int (nI 0), .int (nI s)]) (rest := []) rfl rfl rfl rfl rfl rfl rfl (Nat.le_of_ble_eq_true rfl) ?_
                refine c_lays (by omega) hM3.1 hs i29 hdj ha hb (fun σ4 hL hB hT => ?_)
                show am_G _ M_X10_found _ 138 [some (.ref 0), some (.int (nI 0)), some (.int (nI a)), some (.int (nI b)), some (.int (nI 3)), some (.int (nI 1)), some (.int (nI 8))] [] σ4
                refine am_run 1 (pc' := 139) (ls' := [some (.ref 0), some (.int (nI 0)), some (.int (nI a)), some (.int (nI b)), some (.int (nI 3)), some (.int (nI 1)), some (.int (nI 8))]) (st' := [.ref 0]) (σ' := σ4) rfl ?_
                refine am_invv (y := 211) (b := 0) (as := []) (rest := []) rfl rfl rfl rfl rfl rfl rfl (Nat.le_of_ble_eq_true rfl) ?_
                refine c_m_whole (by omega) hB (by rw [hL.1 4 (by decide) (by decide)]; exact hM3.2.1.1) hrn hM.2.1.2.2 (hT r hrn 0 (Nat.pow_pos (by decide))) (hv.2.resolve_left hs0) ?_
                show am_G _ M_X10_found _ 142 [some (.ref 0), some (.int (nI 0)), some (.int (nI a)), some (.int (nI b)), some (.int (nI 3)), some (.int (nI 1)), some (.int (nI 8))] [.int (nI (eM (an p 61 (r + 1) s true a b)))] σ4
                refine am_run 2 (pc' := 146) (ls' := [some (.ref 0), some (.int (nI 0)), some (.int (nI a)), some (.int (nI b)), some (.int (nI 3)), some (.int (nI 1)), some (.int (nI (eM (an p 61 (r + 1) s true a b))))]) (st' := [.int (nI 3)]) (σ' := σ4) rfl ?_
                refine am_if (ty := 149) (tn := 157) rfl (by decide) rfl rfl (fun (h_301 : nI 3 = 0) => ?_) (fun (h_301 : ¬ (nI 3 = 0)) => ?_)
                · exact absurd h_301 (by decide)
                refine am_run 2 (pc' := 160) (ls' := [some (.ref 0), some (.int (nI 0)), some (.int (nI a)), some (.int (nI b)), some (.int (nI 3)), some (.int (nI 1)), some (.int (nI (eM (an p 61 (r + 1) s true a b))))]) (st' := [.int (nI 1), .int (nI 3)]) (σ' := σ4) rfl ?_
                refine am_ic (ty := 163) (tn := 171) rfl (by decide) rfl rfl (fun (h_302 : nI 3 = nI 1) => ?_) (fun (h_302 : ¬ (nI 3 = nI 1)) => ?_)
                · exact absurd h_302 (by decide)
                refine am_run 2 (pc' := 174) (ls' := [some (.ref 0), some (.int (nI 0)), some (.int (nI a)), some (.int (nI b)), some (.int (nI 3)), some (.int (nI 1)), some (.int (nI (eM (an p 61 (r + 1) s true a b))))]) (st' := [.int (nI 2), .int (nI 3)]) (σ' := σ4) rfl ?_
                refine am_ic (ty := 177) (tn := 185) rfl (by decide) rfl rfl (fun (h_303 : nI 3 = nI 2) => ?_) (fun (h_303 : ¬ (nI 3 = nI 2)) => ?_)
                · exact absurd h_303 (by decide)
                refine am_run 1 (pc' := 187) (ls' := [some (.ref 0), some (.int (nI 0)), some (.int (nI a)), some (.int (nI b)), some (.int (nI 3)), some (.int (nI 1)), some (.int (nI (eM (an p 61 (r + 1) s true a b))))]) (st' := [.int (nI (eM (an p 61 (r + 1) s true a b)))]) (σ' := σ4) rfl ?_
                refine am_invs (y := 188) (as := [.int (nI (eM (an p 61 (r + 1) s true a b)))]) (rest := []) rfl rfl rfl rfl rfl rfl (Nat.le_of_ble_eq_true rfl) ?_
                refine c_m_canCodes (by omega) (r := (an p 61 (r + 1) s true a b)) ok2 ?_
                show am_G _ M_X10_found _ 190 [some (.ref 0), some (.int (nI 0)), some (.int (nI a)), some (.int (nI b)), some (.int (nI 3)), some (.int (nI 1)), some (.int (nI (eM (an p 61 (r + 1) s true a b))))] [.int (nI ((an p 61 (r + 1) s true a b).2.2.2))] σ4
                refine am_reti rfl rfl ?_
                exact ⟨rfl, (((KS.of29 h1 h2).tr hL.KS).KI).inv hI⟩
          · skip
            refine ⟨-1000002, ?_⟩
            refine am_enter' (M := M_X9_found) rfl rfl rfl (by omega) (ls := [some (.ref 41), some (.int (nI 0)), some (.int (nI a)), some (.int (nI b)), some (.int (nI u2)), none, none, none]) rfl (fun d' hd' => ?_)
            refine am_run 2 (pc' := 2) (ls' := [some (.ref 41), some (.int (nI 0)), some (.int (nI a)), some (.int (nI b)), some (.int (nI u2)), none, none, none]) (st' := [.int (nI 0), .ref 41]) (σ' := σ) rfl ?_
            refine am_invv (y := 140) (b := 41) (as := [.int (nI 0)]) (rest := []) rfl rfl rfl rfl rfl rfl rfl (Nat.le_of_ble_eq_true rfl) ?_
            refine c_filled0_1 (by omega) hf ?_
            show am_G _ M_X9_found _ 5 [some (.ref 41), some (.int (nI 0)), some (.int (nI a)), some (.int (nI b)), some (.int (nI u2)), none, none, none] [.ref 73] σ
            refine am_run 4 (pc' := 16) (ls' := [some (.ref 41), some (.int (nI 0)), some (.int (nI a)), some (.int (nI b)), some (.int (nI u2)), some (.ref 73), none, none]) (st' := [.int (nI a)]) (σ' := σ) rfl ?_
            refine am_invs (y := 141) (as := [.int (nI a)]) (rest := []) rfl rfl rfl rfl rfl rfl (Nat.le_of_ble_eq_true rfl) ?_
            refine c_sig1 (by omega) (by omega) ?_
            show am_G _ M_X9_found _ 19 [some (.ref 41), some (.int (nI 0)), some (.int (nI a)), some (.int (nI b)), some (.int (nI u2)), some (.ref 73), none, none] [.int (nI 1)] σ
            refine am_if (ty := 46) (tn := 22) rfl (by decide) rfl rfl (fun (h_1 : nI 1 = 0) => ?_) (fun (h_1 : ¬ (nI 1 = 0)) => ?_)
            · exact absurd h_1 (by decide)
            refine am_run 1 (pc' := 23) (ls' := [some (.ref 41), some (.int (nI 0)), some (.int (nI a)), some (.int (nI b)), some (.int (nI u2)), some (.ref 73), none, none]) (st' := [.int (nI b)]) (σ' := σ) rfl ?_
            refine am_invs (y := 141) (as := [.int (nI b)]) (rest := []) rfl rfl rfl rfl rfl rfl (Nat.le_of_ble_eq_true rfl) ?_
            refine c_sig1 (by omega) (by omega) ?_
            show am_G _ M_X9_found _ 26 [some (.ref 41), some (.int (nI 0)), some (.int (nI a)), some (.int (nI b)), some (.int (nI u2)), some (.ref 73), none, none] [.int (nI 1)] σ
            refine am_if (ty := 46) (tn := 29) rfl (by decide) rfl rfl (fun (h_2 : nI 1 = 0) => ?_) (fun (h_2 : ¬ (nI 1 = 0)) => ?_)
            · exact absurd h_2 (by decide)
            refine am_run 3 (pc' := 32) (ls' := [some (.ref 41), some (.int (nI 0)), some (.int (nI a)), some (.int (nI b)), some (.int (nI u2)), some (.ref 73), none, none]) (st' := [.int (nI a &&& nI b)]) (σ' := σ) rfl ?_
            refine am_top (v' := nI (a &&& b)) (nx_and _ _) ?_
            refine am_if (ty := 35) (tn := 46) rfl (by decide) rfl rfl (fun (h_3 : nI (a &&& b) = 0) => ?_) (fun (h_3 : ¬ (nI (a &&& b) = 0)) => ?_)
            · have h_3 : a &&& b = 0 := (am_n0 (by omega)).mp h_3
              omega
            have h_3 : ¬ (a &&& b = 0) := fun z => h_3 ((am_n0 (by omega)).mpr z)
            refine am_run 1 (pc' := 48) (ls' := [some (.ref 41), some (.int (nI 0)), some (.int (nI a)), some (.int (nI b)), some (.int (nI u2)), some (.ref 73), none, none]) (st' := [.int (-1000002)]) (σ' := σ) rfl ?_
            refine am_reti rfl rfl ?_
            refine ⟨rfl, ?_⟩
            refine am_enter' (M := M_X10_found) rfl rfl rfl (by omega) (ls := [some (.ref 0), some (.int (nI 0)), some (.int (nI a)), some (.int (nI b)), some (.int (nI u2)), none, none]) rfl (fun d2 hd2 => ?_)
            refine am_run 2 (pc' := 2) (ls' := [some (.ref 0), some (.int (nI 0)), some (.int (nI a)), some (.int (nI b)), some (.int (nI u2)), none, none]) (st' := [.int (nI 0), .ref 0]) (σ' := σ) rfl ?_
            refine am_invv (y := 151) (b := 0) (as := [.int (nI 0)]) (rest := []) rfl rfl rfl rfl rfl rfl rfl (Nat.le_of_ble_eq_true rfl) ?_
            refine c_prog0_1 (by omega) (n := n) (by exact hn2) hn1 hn60 ?_
            show am_G _ M_X10_found _ 5 [some (.ref 0), some (.int (nI 0)), some (.int (nI a)), some (.int (nI b)), some (.int (nI u2)), none, none] [.int (nI 1)] σ
            refine am_if (ty := 8) (tn := 11) rfl (by decide) rfl rfl (fun (h_101 : nI 1 = 0) => ?_) (fun (h_101 : ¬ (nI 1 = 0)) => ?_)
            · exact absurd h_101 (by decide)
            refine am_run 3 (pc' := 16) (ls' := [some (.ref 0), some (.int (nI 0)), some (.int (nI a)), some (.int (nI b)), some (.int (nI u2)), none, none]) (st' := [.int (nI 255), .int (nI 0), .int (nI a)]) (σ' := σ) rfl ?_
            refine am_invs (y := 148) (as := [.int (nI a), .int (nI 0), .int (nI 255)]) (rest := []) rfl rfl rfl rfl rfl rfl (Nat.le_of_ble_eq_true rfl) ?_
            refine c_in1 (by omega) (by omega) (by omega) (by omega) ?_
            show am_G _ M_X10_found _ 19 [some (.ref 0), some (.int (nI 0)), some (.int (nI a)), some (.int (nI b)), some (.int (nI u2)), none, none] [.int (nI 1)] σ
            refine am_if (ty := 47) (tn := 22) rfl (by decide) rfl rfl (fun (h_102 : nI 1 = 0) => ?_) (fun (h_102 : ¬ (nI 1 = 0)) => ?_)
            · exact absurd h_102 (by decide)
            refine am_run 3 (pc' := 27) (ls' := [some (.ref 0), some (.int (nI 0)), some (.int (nI a)), some (.int (nI b)), some (.int (nI u2)), none, none]) (st' := [.int (nI 255), .int (nI 0), .int (nI b)]) (σ' := σ) rfl ?_
            refine am_invs (y := 148) (as := [.int (nI b), .int (nI 0), .int (nI 255)]) (rest := []) rfl rfl rfl rfl rfl rfl (Nat.le_of_ble_eq_true rfl) ?_
            refine c_in1 (by omega) (by omega) (by omega) (by omega) ?_
            show am_G _ M_X10_found _ 30 [some (.ref 0), some (.int (nI 0)), some (.int (nI a)), some (.int (nI b)), some (.int (nI u2)), none, none] [.int (nI 1)] σ
            refine am_if (ty := 47) (tn := 33) rfl (by decide) rfl rfl (fun (h_103 : nI 1 = 0) => ?_) (fun (h_103 : ¬ (nI 1 = 0)) => ?_)
            · exact absurd h_103 (by decide)
            refine am_run 3 (pc' := 37) (ls' := [some (.ref 0), some (.int (nI 0)), some (.int (nI a)), some (.int (nI b)), some (.int (nI u2)), none, none]) (st' := [.int (nI 3), .int (nI 0), .int (nI u2)]) (σ' := σ) rfl ?_
            refine am_invs (y := 148) (as := [.int (nI u2), .int (nI 0), .int (nI 3)]) (rest := []) rfl rfl rfl rfl rfl rfl (Nat.le_of_ble_eq_true rfl) ?_
            refine c_in1 (by omega) (by omega) (by omega) (by omega) ?_
            show am_G _ M_X10_found _ 40 [some (.ref 0), some (.int (nI 0)), some (.int (nI a)), some (.int (nI b)), some (.int (nI u2)), none, none] [.int (nI 1)] σ
            refine am_if (ty := 47) (tn := 43) rfl (by decide) rfl rfl (fun (h_104 : nI 1 = 0) => ?_) (fun (h_104 : ¬ (nI 1 = 0)) => ?_)
            · exact absurd h_104 (by decide)
            refine am_run 4 (pc' := 52) (ls' := [some (.ref 0), some (.int (nI 0)), some (.int (nI a)), some (.int (nI b)), some (.int (nI u2)), some (.int (nI 1)), none]) (st' := [.int (nI 1)]) (σ' := σ) rfl ?_
            refine am_if (ty := 61) (tn := 55) rfl (by decide) rfl rfl (fun (h_105 : nI 1 = 0) => ?_) (fun (h_105 : ¬ (nI 1 = 0)) => ?_)
            · exact absurd h_105 (by decide)
            refine am_run 3 (pc' := 58) (ls' := [some (.ref 0), some (.int (nI 0)), some (.int (nI a)), some (.int (nI b)), some (.int (nI u2)), some (.int (nI 1)), none]) (st' := [.int (nI a &&& nI b)]) (σ' := σ) rfl ?_
            refine am_top (v' := nI (a &&& b)) (nx_and _ _) ?_
            refine am_if (ty := 64) (tn := 61) rfl (by decide) rfl rfl (fun (h_106 : nI (a &&& b) = 0) => ?_) (fun (h_106 : ¬ (nI (a &&& b) = 0)) => ?_)
            · have h_106 : a &&& b = 0 := (am_n0 (by omega)).mp h_106
              omega
            have h_106 : ¬ (a &&& b = 0) := fun z => h_106 ((am_n0 (by omega)).mpr z)
            refine am_run 1 (pc' := 63) (ls' := [some (.ref 0), some (.int (nI 0)), some (.int (nI a)), some (.int (nI b)), some (.int (nI u2)), some (.int (nI 1)), none]) (st' := [.int (-1000002)]) (σ' := σ) rfl ?_
            refine am_reti rfl rfl ?_
            exact ⟨rfl, hI⟩
        · rcases id hv_ with hvn | ⟨hv0, hvb⟩
          · by_cases hov : a &&& b = 0
            · skip
              refine ⟨-1000002, ?_⟩
              refine am_enter' (M := M_X9_found) rfl rfl rfl (by omega) (ls := [some (.ref 41), some (.int (nI 0)), some (.int (nI a)), some (.int (nI b)), some (.int v), none, none, none]) rfl (fun d' hd' => ?_)
              refine am_run 2 (pc' := 2) (ls' := [some (.ref 41), some (.int (nI 0)), some (.int (nI a)), some (.int (nI b)), some (.int v), none, none, none]) (st' := [.int (nI 0), .ref 41]) (σ' := σ) rfl ?_
              refine am_invv (y := 140) (b := 41) (as := [.int (nI 0)]) (rest := []) rfl rfl rfl rfl rfl rfl rfl (Nat.le_of_ble_eq_true rfl) ?_
              refine c_filled0_1 (by omega) hf ?_
              show am_G _ M_X9_found _ 5 [some (.ref 41), some (.int (nI 0)), some (.int (nI a)), some (.int (nI b)), some (.int v), none, none, none] [.ref 73] σ
              refine am_run 4 (pc' := 16) (ls' := [some (.ref 41), some (.int (nI 0)), some (.int (nI a)), some (.int (nI b)), some (.int v), some (.ref 73), none, none]) (st' := [.int (nI a)]) (σ' := σ) rfl ?_
              refine am_invs (y := 141) (as := [.int (nI a)]) (rest := []) rfl rfl rfl rfl rfl rfl (Nat.le_of_ble_eq_true rfl) ?_
              refine c_sig1 (by omega) (by omega) ?_
              show am_G _ M_X9_found _ 19 [some (.ref 41), some (.int (nI 0)), some (.int (nI a)), some (.int (nI b)), some (.int v), some (.ref 73), none, none] [.int (nI 1)] σ
              refine am_if (ty := 46) (tn := 22) rfl (by decide) rfl rfl (fun (h_1 : nI 1 = 0) => ?_) (fun (h_1 : ¬ (nI 1 = 0)) => ?_)
              · exact absurd h_1 (by decide)
              refine am_run 1 (pc' := 23) (ls' := [some (.ref 41), some (.int (nI 0)), some (.int (nI a)), some (.int (nI b)), some (.int v), some (.ref 73), none, none]) (st' := [.int (nI b)]) (σ' := σ) rfl ?_
              refine am_invs (y := 141) (as := [.int (nI b)]) (rest := []) rfl rfl rfl rfl rfl rfl (Nat.le_of_ble_eq_true rfl) ?_
              refine c_sig1 (by omega) (by omega) ?_
              show am_G _ M_X9_found _ 26 [some (.ref 41), some (.int (nI 0)), some (.int (nI a)), some (.int (nI b)), some (.int v), some (.ref 73), none, none] [.int (nI 1)] σ
              refine am_if (ty := 46) (tn := 29) rfl (by decide) rfl rfl (fun (h_2 : nI 1 = 0) => ?_) (fun (h_2 : ¬ (nI 1 = 0)) => ?_)
              · exact absurd h_2 (by decide)
              refine am_run 3 (pc' := 32) (ls' := [some (.ref 41), some (.int (nI 0)), some (.int (nI a)), some (.int (nI b)), some (.int v), some (.ref 73), none, none]) (st' := [.int (nI a &&& nI b)]) (σ' := σ) rfl ?_
              refine am_top (v' := nI (a &&& b)) (nx_and _ _) ?_
              refine am_if (ty := 35) (tn := 46) rfl (by decide) rfl rfl (fun (h_3 : nI (a &&& b) = 0) => ?_) (fun (h_3 : ¬ (nI (a &&& b) = 0)) => ?_)
              rotate_left
              · have h_3 : ¬ (a &&& b = 0) := fun z => h_3 ((am_n0 (by omega)).mpr z)
                omega
              have h_3 : a &&& b = 0 := (am_n0 (by omega)).mp h_3
              refine am_run 1 (pc' := 37) (ls' := [some (.ref 41), some (.int (nI 0)), some (.int (nI a)), some (.int (nI b)), some (.int v), some (.ref 73), none, none]) (st' := [.int v]) (σ' := σ) rfl ?_
              refine am_if (ty := 46) (tn := 40) rfl (by decide) rfl rfl (fun (h_4 : v < 0) => ?_) (fun (h_4 : ¬ (v < 0)) => ?_)
              rotate_left
              · exact absurd hvn h_4
              refine am_run 1 (pc' := 48) (ls' := [some (.ref 41), some (.int (nI 0)), some (.int (nI a)), some (.int (nI b)), some (.int v), some (.ref 73), none, none]) (st' := [.int (-1000002)]) (σ' := σ) rfl ?_
              refine am_reti rfl rfl ?_
              refine ⟨rfl, ?_⟩
              refine am_enter' (M := M_X10_found) rfl rfl rfl (by omega) (ls := [some (.ref 0), some (.int (nI 0)), some (.int (nI a)), some (.int (nI b)), some (.int v), none, none]) rfl (fun d2 hd2 => ?_)
              refine am_run 2 (pc' := 2) (ls' := [some (.ref 0), some (.int (nI 0)), some (.int (nI a)), some (.int (nI b)), some (.int v), none, none]) (st' := [.int (nI 0), .ref 0]) (σ' := σ) rfl ?_
              refine am_invv (y := 151) (b := 0) (as := [.int (nI 0)]) (rest := []) rfl rfl rfl rfl rfl rfl rfl (Nat.le_of_ble_eq_true rfl) ?_
              refine c_prog0_1 (by omega) (n := n) (by exact hn2) hn1 hn60 ?_
              show am_G _ M_X10_found _ 5 [some (.ref 0), some (.int (nI 0)), some (.int (nI a)), some (.int (nI b)), some (.int v), none, none] [.int (nI 1)] σ
              refine am_if (ty := 8) (tn := 11) rfl (by decide) rfl rfl (fun (h_101 : nI 1 = 0) => ?_) (fun (h_101 : ¬ (nI 1 = 0)) => ?_)
              · exact absurd h_101 (by decide)
              refine am_run 3 (pc' := 16) (ls' := [some (.ref 0), some (.int (nI 0)), some (.int (nI a)), some (.int (nI b)), some (.int v), none, none]) (st' := [.int (nI 255), .int (nI 0), .int (nI a)]) (σ' := σ) rfl ?_
              refine am_invs (y := 148) (as := [.int (nI a), .int (nI 0), .int (nI 255)]) (rest := []) rfl rfl rfl rfl rfl rfl (Nat.le_of_ble_eq_true rfl) ?_
              refine c_in1 (by omega) (by omega) (by omega) (by omega) ?_
              show am_G _ M_X10_found _ 19 [some (.ref 0), some (.int (nI 0)), some (.int (nI a)), some (.int (nI b)), some (.int v), none, none] [.int (nI 1)] σ
              refine am_if (ty := 47) (tn := 22) rfl (by decide) rfl rfl (fun (h_102 : nI 1 = 0) => ?_) (fun (h_102 : ¬ (nI 1 = 0)) => ?_)
              · exact absurd h_102 (by decide)
              refine am_run 3 (pc' := 27) (ls' := [some (.ref 0), some (.int (nI 0)), some (.int (nI a)), some (.int (nI b)), some (.int v), none, none]) (st' := [.int (nI 255), .int (nI 0), .int (nI b)]) (σ' := σ) rfl ?_
              refine am_invs (y := 148) (as := [.int (nI b), .int (nI 0), .int (nI 255)]) (rest := []) rfl rfl rfl rfl rfl rfl (Nat.le_of_ble_eq_true rfl) ?_
              refine c_in1 (by omega) (by omega) (by omega) (by omega) ?_
              show am_G _ M_X10_found _ 30 [some (.ref 0), some (.int (nI 0)), some (.int (nI a)), some (.int (nI b)), some (.int v), none, none] [.int (nI 1)] σ
              refine am_if (ty := 47) (tn := 33) rfl (by decide) rfl rfl (fun (h_103 : nI 1 = 0) => ?_) (fun (h_103 : ¬ (nI 1 = 0)) => ?_)
              · exact absurd h_103 (by decide)
              refine am_run 3 (pc' := 37) (ls' := [some (.ref 0), some (.int (nI 0)), some (.int (nI a)), some (.int (nI b)), some (.int v), none, none]) (st' := [.int (nI 3), .int (nI 0), .int v]) (σ' := σ) rfl ?_
              refine am_invs (y := 148) (as := [.int v, .int (nI 0), .int (nI 3)]) (rest := []) rfl rfl rfl rfl rfl rfl (Nat.le_of_ble_eq_true rfl) ?_
              refine c_in0 (by omega) hv_ ?_
              show am_G _ M_X10_found _ 40 [some (.ref 0), some (.int (nI 0)), some (.int (nI a)), some (.int (nI b)), some (.int v), none, none] [.int (nI 0)] σ
              refine am_if (ty := 47) (tn := 43) rfl (by decide) rfl rfl (fun (h_104 : nI 0 = 0) => ?_) (fun (h_104 : ¬ (nI 0 = 0)) => ?_)
              rotate_left
              · exact absurd (by decide) h_104
              refine am_run 3 (pc' := 52) (ls' := [some (.ref 0), some (.int (nI 0)), some (.int (nI a)), some (.int (nI b)), some (.int v), some (.int (nI 0)), none]) (st' := [.int (nI 0)]) (σ' := σ) rfl ?_
              refine am_if (ty := 61) (tn := 55) rfl (by decide) rfl rfl (fun (h_105 : nI 0 = 0) => ?_) (fun (h_105 : ¬ (nI 0 = 0)) => ?_)
              rotate_left
              · exact absurd (by decide) h_105
              refine am_run 1 (pc' := 63) (ls' := [some (.ref 0), some (.int (nI 0)), some (.int (nI a)), some (.int (nI b)), some (.int v), some (.int (nI 0)), none]) (st' := [.int (-1000002)]) (σ' := σ) rfl ?_
              refine am_reti rfl rfl ?_
              exact ⟨rfl, hI⟩
            · skip
              refine ⟨-1000002, ?_⟩
              refine am_enter' (M := M_X9_found) rfl rfl rfl (by omega) (ls := [some (.ref 41), some (.int (nI 0)), some (.int (nI a)), some (.int (nI b)), some (.int v), none, none, none]) rfl (fun d' hd' => ?_)
              refine am_run 2 (pc' := 2) (ls' := [some (.ref 41), some (.int (nI 0)), some (.int (nI a)), some (.int (nI b)), some (.int v), none, none, none]) (st' := [.int (nI 0), .ref 41]) (σ' := σ) rfl ?_
              refine am_invv (y := 140) (b := 41) (as := [.int (nI 0)]) (rest := []) rfl rfl rfl rfl rfl rfl rfl (Nat.le_of_ble_eq_true rfl) ?_
              refine c_filled0_1 (by omega) hf ?_
              show am_G _ M_X9_found _ 5 [some (.ref 41), some (.int (nI 0)), some (.int (nI a)), some (.int (nI b)), some (.int v), none, none, none] [.ref 73] σ
              refine am_run 4 (pc' := 16) (ls' := [some (.ref 41), some (.int (nI 0)), some (.int (nI a)), some (.int (nI b)), some (.int v), some (.ref 73), none, none]) (st' := [.int (nI a)]) (σ' := σ) rfl ?_
              refine am_invs (y := 141) (as := [.int (nI a)]) (rest := []) rfl rfl rfl rfl rfl rfl (Nat.le_of_ble_eq_true rfl) ?_
              refine c_sig1 (by omega) (by omega) ?_
              show am_G _ M_X9_found _ 19 [some (.ref 41), some (.int (nI 0)), some (.int (nI a)), some (.int (nI b)), some (.int v), some (.ref 73), none, none] [.int (nI 1)] σ
              refine am_if (ty := 46) (tn := 22) rfl (by decide) rfl rfl (fun (h_1 : nI 1 = 0) => ?_) (fun (h_1 : ¬ (nI 1 = 0)) => ?_)
              · exact absurd h_1 (by decide)
              refine am_run 1 (pc' := 23) (ls' := [some (.ref 41), some (.int (nI 0)), some (.int (nI a)), some (.int (nI b)), some (.int v), some (.ref 73), none, none]) (st' := [.int (nI b)]) (σ' := σ) rfl ?_
              refine am_invs (y := 141) (as := [.int (nI b)]) (rest := []) rfl rfl rfl rfl rfl rfl (Nat.le_of_ble_eq_true rfl) ?_
              refine c_sig1 (by omega) (by omega) ?_
              show am_G _ M_X9_found _ 26 [some (.ref 41), some (.int (nI 0)), some (.int (nI a)), some (.int (nI b)), some (.int v), some (.ref 73), none, none] [.int (nI 1)] σ
              refine am_if (ty := 46) (tn := 29) rfl (by decide) rfl rfl (fun (h_2 : nI 1 = 0) => ?_) (fun (h_2 : ¬ (nI 1 = 0)) => ?_)
              · exact absurd h_2 (by decide)
              refine am_run 3 (pc' := 32) (ls' := [some (.ref 41), some (.int (nI 0)), some (.int (nI a)), some (.int (nI b)), some (.int v), some (.ref 73), none, none]) (st' := [.int (nI a &&& nI b)]) (σ' := σ) rfl ?_
              refine am_top (v' := nI (a &&& b)) (nx_and _ _) ?_
              refine am_if (ty := 35) (tn := 46) rfl (by decide) rfl rfl (fun (h_3 : nI (a &&& b) = 0) => ?_) (fun (h_3 : ¬ (nI (a &&& b) = 0)) => ?_)
              · have h_3 : a &&& b = 0 := (am_n0 (by omega)).mp h_3
                omega
              have h_3 : ¬ (a &&& b = 0) := fun z => h_3 ((am_n0 (by omega)).mpr z)
              refine am_run 1 (pc' := 48) (ls' := [some (.ref 41), some (.int (nI 0)), some (.int (nI a)), some (.int (nI b)), some (.int v), some (.ref 73), none, none]) (st' := [.int (-1000002)]) (σ' := σ) rfl ?_
              refine am_reti rfl rfl ?_
              refine ⟨rfl, ?_⟩
              refine am_enter' (M := M_X10_found) rfl rfl rfl (by omega) (ls := [some (.ref 0), some (.int (nI 0)), some (.int (nI a)), some (.int (nI b)), some (.int v), none, none]) rfl (fun d2 hd2 => ?_)
              refine am_run 2 (pc' := 2) (ls' := [some (.ref 0), some (.int (nI 0)), some (.int (nI a)), some (.int (nI b)), some (.int v), none, none]) (st' := [.int (nI 0), .ref 0]) (σ' := σ) rfl ?_
              refine am_invv (y := 151) (b := 0) (as := [.int (nI 0)]) (rest := []) rfl rfl rfl rfl rfl rfl rfl (Nat.le_of_ble_eq_true rfl) ?_
              refine c_prog0_1 (by omega) (n := n) (by exact hn2) hn1 hn60 ?_
              show am_G _ M_X10_found _ 5 [some (.ref 0), some (.int (nI 0)), some (.int (nI a)), some (.int (nI b)), some (.int v), none, none] [.int (nI 1)] σ
              refine am_if (ty := 8) (tn := 11) rfl (by decide) rfl rfl (fun (h_101 : nI 1 = 0) => ?_) (fun (h_101 : ¬ (nI 1 = 0)) => ?_)
              · exact absurd h_101 (by decide)
              refine am_run 3 (pc' := 16) (ls' := [some (.ref 0), some (.int (nI 0)), some (.int (nI a)), some (.int (nI b)), some (.int v), none, none]) (st' := [.int (nI 255), .int (nI 0), .int (nI a)]) (σ' := σ) rfl ?_
              refine am_invs (y := 148) (as := [.int (nI a), .int (nI 0), .int (nI 255)]) (rest := []) rfl rfl rfl rfl rfl rfl (Nat.le_of_ble_eq_true rfl) ?_
              refine c_in1 (by omega) (by omega) (by omega) (by omega) ?_
              show am_G _ M_X10_found _ 19 [some (.ref 0), some (.int (nI 0)), some (.int (nI a)), some (.int (nI b)), some (.int v), none, none] [.int (nI 1)] σ
              refine am_if (ty := 47) (tn := 22) rfl (by decide) rfl rfl (fun (h_102 : nI 1 = 0) => ?_) (fun (h_102 : ¬ (nI 1 = 0)) => ?_)
              · exact absurd h_102 (by decide)
              refine am_run 3 (pc' := 27) (ls' := [some (.ref 0), some (.int (nI 0)), some (.int (nI a)), some (.int (nI b)), some (.int v), none, none]) (st' := [.int (nI 255), .int (nI 0), .int (nI b)]) (σ' := σ) rfl ?_
              refine am_invs (y := 148) (as := [.int (nI b), .int (nI 0), .int (nI 255)]) (rest := []) rfl rfl rfl rfl rfl rfl (Nat.le_of_ble_eq_true rfl) ?_
              refine c_in1 (by omega) (by omega) (by omega) (by omega) ?_
              show am_G _ M_X10_found _ 30 [some (.ref 0), some (.int (nI 0)), some (.int (nI a)), some (.int (nI b)), some (.int v), none, none] [.int (nI 1)] σ
              refine am_if (ty := 47) (tn := 33) rfl (by decide) rfl rfl (fun (h_103 : nI 1 = 0) => ?_) (fun (h_103 : ¬ (nI 1 = 0)) => ?_)
              · exact absurd h_103 (by decide)
              refine am_run 3 (pc' := 37) (ls' := [some (.ref 0), some (.int (nI 0)), some (.int (nI a)), some (.int (nI b)), some (.int v), none, none]) (st' := [.int (nI 3), .int (nI 0), .int v]) (σ' := σ) rfl ?_
              refine am_invs (y := 148) (as := [.int v, .int (nI 0), .int (nI 3)]) (rest := []) rfl rfl rfl rfl rfl rfl (Nat.le_of_ble_eq_true rfl) ?_
              refine c_in0 (by omega) hv_ ?_
              show am_G _ M_X10_found _ 40 [some (.ref 0), some (.int (nI 0)), some (.int (nI a)), some (.int (nI b)), some (.int v), none, none] [.int (nI 0)] σ
              refine am_if (ty := 47) (tn := 43) rfl (by decide) rfl rfl (fun (h_104 : nI 0 = 0) => ?_) (fun (h_104 : ¬ (nI 0 = 0)) => ?_)
              rotate_left
              · exact absurd (by decide) h_104
              refine am_run 3 (pc' := 52) (ls' := [some (.ref 0), some (.int (nI 0)), some (.int (nI a)), some (.int (nI b)), some (.int v), some (.int (nI 0)), none]) (st' := [.int (nI 0)]) (σ' := σ) rfl ?_
              refine am_if (ty := 61) (tn := 55) rfl (by decide) rfl rfl (fun (h_105 : nI 0 = 0) => ?_) (fun (h_105 : ¬ (nI 0 = 0)) => ?_)
              rotate_left
              · exact absurd (by decide) h_105
              refine am_run 1 (pc' := 63) (ls' := [some (.ref 0), some (.int (nI 0)), some (.int (nI a)), some (.int (nI b)), some (.int v), some (.int (nI 0)), none]) (st' := [.int (-1000002)]) (σ' := σ) rfl ?_
              refine am_reti rfl rfl ?_
              exact ⟨rfl, hI⟩
          · by_cases hov : a &&& b = 0
            · skip
              refine ⟨-1000002, ?_⟩
              refine am_enter' (M := M_X9_found) rfl rfl rfl (by omega) (ls := [some (.ref 41), some (.int (nI 0)), some (.int (nI a)), some (.int (nI b)), some (.int v), none, none, none]) rfl (fun d' hd' => ?_)
              refine am_run 2 (pc' := 2) (ls' := [some (.ref 41), some (.int (nI 0)), some (.int (nI a)), some (.int (nI b)), some (.int v), none, none, none]) (st' := [.int (nI 0), .ref 41]) (σ' := σ) rfl ?_
              refine am_invv (y := 140) (b := 41) (as := [.int (nI 0)]) (rest := []) rfl rfl rfl rfl rfl rfl rfl (Nat.le_of_ble_eq_true rfl) ?_
              refine c_filled0_1 (by omega) hf ?_
              show am_G _ M_X9_found _ 5 [some (.ref 41), some (.int (nI 0)), some (.int (nI a)), some (.int (nI b)), some (.int v), none, none, none] [.ref 73] σ
              refine am_run 4 (pc' := 16) (ls' := [some (.ref 41), some (.int (nI 0)), some (.int (nI a)), some (.int (nI b)), some (.int v), some (.ref 73), none, none]) (st' := [.int (nI a)]) (σ' := σ) rfl ?_
              refine am_invs (y := 141) (as := [.int (nI a)]) (rest := []) rfl rfl rfl rfl rfl rfl (Nat.le_of_ble_eq_true rfl) ?_
              refine c_sig1 (by omega) (by omega) ?_
              show am_G _ M_X9_found _ 19 [some (.ref 41), some (.int (nI 0)), some (.int (nI a)), some (.int (nI b)), some (.int v), some (.ref 73), none, none] [.int (nI 1)] σ
              refine am_if (ty := 46) (tn := 22) rfl (by decide) rfl rfl (fun (h_1 : nI 1 = 0) => ?_) (fun (h_1 : ¬ (nI 1 = 0)) => ?_)
              · exact absurd h_1 (by decide)
              refine am_run 1 (pc' := 23) (ls' := [some (.ref 41), some (.int (nI 0)), some (.int (nI a)), some (.int (nI b)), some (.int v), some (.ref 73), none, none]) (st' := [.int (nI b)]) (σ' := σ) rfl ?_
              refine am_invs (y := 141) (as := [.int (nI b)]) (rest := []) rfl rfl rfl rfl rfl rfl (Nat.le_of_ble_eq_true rfl) ?_
              refine c_sig1 (by omega) (by omega) ?_
              show am_G _ M_X9_found _ 26 [some (.ref 41), some (.int (nI 0)), some (.int (nI a)), some (.int (nI b)), some (.int v), some (.ref 73), none, none] [.int (nI 1)] σ
              refine am_if (ty := 46) (tn := 29) rfl (by decide) rfl rfl (fun (h_2 : nI 1 = 0) => ?_) (fun (h_2 : ¬ (nI 1 = 0)) => ?_)
              · exact absurd h_2 (by decide)
              refine am_run 3 (pc' := 32) (ls' := [some (.ref 41), some (.int (nI 0)), some (.int (nI a)), some (.int (nI b)), some (.int v), some (.ref 73), none, none]) (st' := [.int (nI a &&& nI b)]) (σ' := σ) rfl ?_
              refine am_top (v' := nI (a &&& b)) (nx_and _ _) ?_
              refine am_if (ty := 35) (tn := 46) rfl (by decide) rfl rfl (fun (h_3 : nI (a &&& b) = 0) => ?_) (fun (h_3 : ¬ (nI (a &&& b) = 0)) => ?_)
              rotate_left
              · have h_3 : ¬ (a &&& b = 0) := fun z => h_3 ((am_n0 (by omega)).mpr z)
                omega
              have h_3 : a &&& b = 0 := (am_n0 (by omega)).mp h_3
              refine am_run 1 (pc' := 37) (ls' := [some (.ref 41), some (.int (nI 0)), some (.int (nI a)), some (.int (nI b)), some (.int v), some (.ref 73), none, none]) (st' := [.int v]) (σ' := σ) rfl ?_
              refine am_if (ty := 46) (tn := 40) rfl (by decide) rfl rfl (fun (h_4 : v < 0) => ?_) (fun (h_4 : ¬ (v < 0)) => ?_)
              · exact absurd h_4 hv0
              refine am_run 2 (pc' := 43) (ls' := [some (.ref 41), some (.int (nI 0)), some (.int (nI a)), some (.int (nI b)), some (.int v), some (.ref 73), none, none]) (st' := [.int (nI 3), .int v]) (σ' := σ) rfl ?_
              refine am_ic (ty := 46) (tn := 49) rfl (by decide) rfl rfl (fun (h_5 : nI 3 < v) => ?_) (fun (h_5 : ¬ (nI 3 < v)) => ?_)
              rotate_left
              · exact absurd hvb h_5
              refine am_run 1 (pc' := 48) (ls' := [some (.ref 41), some (.int (nI 0)), some (.int (nI a)), some (.int (nI b)), some (.int v), some (.ref 73), none, none]) (st' := [.int (-1000002)]) (σ' := σ) rfl ?_
              refine am_reti rfl rfl ?_
              refine ⟨rfl, ?_⟩
              refine am_enter' (M := M_X10_found) rfl rfl rfl (by omega) (ls := [some (.ref 0), some (.int (nI 0)), some (.int (nI a)), some (.int (nI b)), some (.int v), none, none]) rfl (fun d2 hd2 => ?_)
              refine am_run 2 (pc' := 2) (ls' := [some (.ref 0), some (.int (nI 0)), some (.int (nI a)), some (.int (nI b)), some (.int v), none, none]) (st' := [.int (nI 0), .ref 0]) (σ' := σ) rfl ?_
              refine am_invv (y := 151) (b := 0) (as := [.int (nI 0)]) (rest := []) rfl rfl rfl rfl rfl rfl rfl (Nat.le_of_ble_eq_true rfl) ?_
              refine c_prog0_1 (by omega) (n := n) (by exact hn2) hn1 hn60 ?_
              show am_G _ M_X10_found _ 5 [some (.ref 0), some (.int (nI 0)), some (.int (nI a)), some (.int (nI b)), some (.int v), none, none] [.int (nI 1)] σ
              refine am_if (ty := 8) (tn := 11) rfl (by decide) rfl rfl (fun (h_101 : nI 1 = 0) => ?_) (fun (h_101 : ¬ (nI 1 = 0)) => ?_)
              · exact absurd h_101 (by decide)
              refine am_run 3 (pc' := 16) (ls' := [some (.ref 0), some (.int (nI 0)), some (.int (nI a)), some (.int (nI b)), some (.int v), none, none]) (st' := [.int (nI 255), .int (nI 0), .int (nI a)]) (σ' := σ) rfl ?_
              refine am_invs (y := 148) (as := [.int (nI a), .int (nI 0), .int (nI 255)]) (rest := []) rfl rfl rfl rfl rfl rfl (Nat.le_of_ble_eq_true rfl) ?_
              refine c_in1 (by omega) (by omega) (by omega) (by omega) ?_
              show am_G _ M_X10_found _ 19 [some (.ref 0), some (.int (nI 0)), some (.int (nI a)), some (.int (nI b)), some (.int v), none, none] [.int (nI 1)] σ
              refine am_if (ty := 47) (tn := 22) rfl (by decide) rfl rfl (fun (h_102 : nI 1 = 0) => ?_) (fun (h_102 : ¬ (nI 1 = 0)) => ?_)
              · exact absurd h_102 (by decide)
              refine am_run 3 (pc' := 27) (ls' := [some (.ref 0), some (.int (nI 0)), some (.int (nI a)), some (.int (nI b)), some (.int v), none, none]) (st' := [.int (nI 255), .int (nI 0), .int (nI b)]) (σ' := σ) rfl ?_
              refine am_invs (y := 148) (as := [.int (nI b), .int (nI 0), .int (nI 255)]) (rest := []) rfl rfl rfl rfl rfl rfl (Nat.le_of_ble_eq_true rfl) ?_
              refine c_in1 (by omega) (by omega) (by omega) (by omega) ?_
              show am_G _ M_X10_found _ 30 [some (.ref 0), some (.int (nI 0)), some (.int (nI a)), some (.int (nI b)), some (.int v), none, none] [.int (nI 1)] σ
              refine am_if (ty := 47) (tn := 33) rfl (by decide) rfl rfl (fun (h_103 : nI 1 = 0) => ?_) (fun (h_103 : ¬ (nI 1 = 0)) => ?_)
              · exact absurd h_103 (by decide)
              refine am_run 3 (pc' := 37) (ls' := [some (.ref 0), some (.int (nI 0)), some (.int (nI a)), some (.int (nI b)), some (.int v), none, none]) (st' := [.int (nI 3), .int (nI 0), .int v]) (σ' := σ) rfl ?_
              refine am_invs (y := 148) (as := [.int v, .int (nI 0), .int (nI 3)]) (rest := []) rfl rfl rfl rfl rfl rfl (Nat.le_of_ble_eq_true rfl) ?_
              refine c_in0 (by omega) hv_ ?_
              show am_G _ M_X10_found _ 40 [some (.ref 0), some (.int (nI 0)), some (.int (nI a)), some (.int (nI b)), some (.int v), none, none] [.int (nI 0)] σ
              refine am_if (ty := 47) (tn := 43) rfl (by decide) rfl rfl (fun (h_104 : nI 0 = 0) => ?_) (fun (h_104 : ¬ (nI 0 = 0)) => ?_)
              rotate_left
              · exact absurd (by decide) h_104
              refine am_run 3 (pc' := 52) (ls' := [some (.ref 0), some (.int (nI 0)), some (.int (nI a)), some (.int (nI b)), some (.int v), some (.int (nI 0)), none]) (st' := [.int (nI 0)]) (σ' := σ) rfl ?_
              refine am_if (ty := 61) (tn := 55) rfl (by decide) rfl rfl (fun (h_105 : nI 0 = 0) => ?_) (fun (h_105 : ¬ (nI 0 = 0)) => ?_)
              rotate_left
              · exact absurd (by decide) h_105
              refine am_run 1 (pc' := 63) (ls' := [some (.ref 0), some (.int (nI 0)), some (.int (nI a)), some (.int (nI b)), some (.int v), some (.int (nI 0)), none]) (st' := [.int (-1000002)]) (σ' := σ) rfl ?_
              refine am_reti rfl rfl ?_
              exact ⟨rfl, hI⟩
            · skip
              refine ⟨-1000002, ?_⟩
              refine am_enter' (M := M_X9_found) rfl rfl rfl (by omega) (ls := [some (.ref 41), some (.int (nI 0)), some (.int (nI a)), some (.int (nI b)), some (.int v), none, none, none]) rfl (fun d' hd' => ?_)
              refine am_run 2 (pc' := 2) (ls' := [some (.ref 41), some (.int (nI 0)), some (.int (nI a)), some (.int (nI b)), some (.int v), none, none, none]) (st' := [.int (nI 0), .ref 41]) (σ' := σ) rfl ?_
              refine am_invv (y := 140) (b := 41) (as := [.int (nI 0)]) (rest := []) rfl rfl rfl rfl rfl rfl rfl (Nat.le_of_ble_eq_true rfl) ?_
              refine c_filled0_1 (by omega) hf ?_
              show am_G _ M_X9_found _ 5 [some (.ref 41), some (.int (nI 0)), some (.int (nI a)), some (.int (nI b)), some (.int v), none, none, none] [.ref 73] σ
              refine am_run 4 (pc' := 16) (ls' := [some (.ref 41), some (.int (nI 0)), some (.int (nI a)), some (.int (nI b)), some (.int v), some (.ref 73), none, none]) (st' := [.int (nI a)]) (σ' := σ) rfl ?_
              refine am_invs (y := 141) (as := [.int (nI a)]) (rest := []) rfl rfl rfl rfl rfl rfl (Nat.le_of_ble_eq_true rfl) ?_
              refine c_sig1 (by omega) (by omega) ?_
              show am_G _ M_X9_found _ 19 [some (.ref 41), some (.int (nI 0)), some (.int (nI a)), some (.int (nI b)), some (.int v), some (.ref 73), none, none] [.int (nI 1)] σ
              refine am_if (ty := 46) (tn := 22) rfl (by decide) rfl rfl (fun (h_1 : nI 1 = 0) => ?_) (fun (h_1 : ¬ (nI 1 = 0)) => ?_)
              · exact absurd h_1 (by decide)
              refine am_run 1 (pc' := 23) (ls' := [some (.ref 41), some (.int (nI 0)), some (.int (nI a)), some (.int (nI b)), some (.int v), some (.ref 73), none, none]) (st' := [.int (nI b)]) (σ' := σ) rfl ?_
              refine am_invs (y := 141) (as := [.int (nI b)]) (rest := []) rfl rfl rfl rfl rfl rfl (Nat.le_of_ble_eq_true rfl) ?_
              refine c_sig1 (by omega) (by omega) ?_
              show am_G _ M_X9_found _ 26 [some (.ref 41), some (.int (nI 0)), some (.int (nI a)), some (.int (nI b)), some (.int v), some (.ref 73), none, none] [.int (nI 1)] σ
              refine am_if (ty := 46) (tn := 29) rfl (by decide) rfl rfl (fun (h_2 : nI 1 = 0) => ?_) (fun (h_2 : ¬ (nI 1 = 0)) => ?_)
              · exact absurd h_2 (by decide)
              refine am_run 3 (pc' := 32) (ls' := [some (.ref 41), some (.int (nI 0)), some (.int (nI a)), some (.int (nI b)), some (.int v), some (.ref 73), none, none]) (st' := [.int (nI a &&& nI b)]) (σ' := σ) rfl ?_
              refine am_top (v' := nI (a &&& b)) (nx_and _ _) ?_
              refine am_if (ty := 35) (tn := 46) rfl (by decide) rfl rfl (fun (h_3 : nI (a &&& b) = 0) => ?_) (fun (h_3 : ¬ (nI (a &&& b) = 0)) => ?_)
              · have h_3 : a &&& b = 0 := (am_n0 (by omega)).mp h_3
                omega
              have h_3 : ¬ (a &&& b = 0) := fun z => h_3 ((am_n0 (by omega)).mpr z)
              refine am_run 1 (pc' := 48) (ls' := [some (.ref 41), some (.int (nI 0)), some (.int (nI a)), some (.int (nI b)), some (.int v), some (.ref 73), none, none]) (st' := [.int (-1000002)]) (σ' := σ) rfl ?_
              refine am_reti rfl rfl ?_
              refine ⟨rfl, ?_⟩
              refine am_enter' (M := M_X10_found) rfl rfl rfl (by omega) (ls := [some (.ref 0), some (.int (nI 0)), some (.int (nI a)), some (.int (nI b)), some (.int v), none, none]) rfl (fun d2 hd2 => ?_)
              refine am_run 2 (pc' := 2) (ls' := [some (.ref 0), some (.int (nI 0)), some (.int (nI a)), some (.int (nI b)), some (.int v), none, none]) (st' := [.int (nI 0), .ref 0]) (σ' := σ) rfl ?_
              refine am_invv (y := 151) (b := 0) (as := [.int (nI 0)]) (rest := []) rfl rfl rfl rfl rfl rfl rfl (Nat.le_of_ble_eq_true rfl) ?_
              refine c_prog0_1 (by omega) (n := n) (by exact hn2) hn1 hn60 ?_
              show am_G _ M_X10_found _ 5 [some (.ref 0), some (.int (nI 0)), some (.int (nI a)), some (.int (nI b)), some (.int v), none, none] [.int (nI 1)] σ
              refine am_if (ty := 8) (tn := 11) rfl (by decide) rfl rfl (fun (h_101 : nI 1 = 0) => ?_) (fun (h_101 : ¬ (nI 1 = 0)) => ?_)
              · exact absurd h_101 (by decide)
              refine am_run 3 (pc' := 16) (ls' := [some (.ref 0), some (.int (nI 0)), some (.int (nI a)), some (.int (nI b)), some (.int v), none, none]) (st' := [.int (nI 255), .int (nI 0), .int (nI a)]) (σ' := σ) rfl ?_
              refine am_invs (y := 148) (as := [.int (nI a), .int (nI 0), .int (nI 255)]) (rest := []) rfl rfl rfl rfl rfl rfl (Nat.le_of_ble_eq_true rfl) ?_
              refine c_in1 (by omega) (by omega) (by omega) (by omega) ?_
              show am_G _ M_X10_found _ 19 [some (.ref 0), some (.int (nI 0)), some (.int (nI a)), some (.int (nI b)), some (.int v), none, none] [.int (nI 1)] σ
              refine am_if (ty := 47) (tn := 22) rfl (by decide) rfl rfl (fun (h_102 : nI 1 = 0) => ?_) (fun (h_102 : ¬ (nI 1 = 0)) => ?_)
              · exact absurd h_102 (by decide)
              refine am_run 3 (pc' := 27) (ls' := [some (.ref 0), some (.int (nI 0)), some (.int (nI a)), some (.int (nI b)), some (.int v), none, none]) (st' := [.int (nI 255), .int (nI 0), .int (nI b)]) (σ' := σ) rfl ?_
              refine am_invs (y := 148) (as := [.int (nI b), .int (nI 0), .int (nI 255)]) (rest := []) rfl rfl rfl rfl rfl rfl (Nat.le_of_ble_eq_true rfl) ?_
              refine c_in1 (by omega) (by omega) (by omega) (by omega) ?_
              show am_G _ M_X10_found _ 30 [some (.ref 0), some (.int (nI 0)), some (.int (nI a)), some (.int (nI b)), some (.int v), none, none] [.int (nI 1)] σ
              refine am_if (ty := 47) (tn := 33) rfl (by decide) rfl rfl (fun (h_103 : nI 1 = 0) => ?_) (fun (h_103 : ¬ (nI 1 = 0)) => ?_)
              · exact absurd h_103 (by decide)
              refine am_run 3 (pc' := 37) (ls' := [some (.ref 0), some (.int (nI 0)), some (.int (nI a)), some (.int (nI b)), some (.int v), none, none]) (st' := [.int (nI 3), .int (nI 0), .int v]) (σ' := σ) rfl ?_
              refine am_invs (y := 148) (as := [.int v, .int (nI 0), .int (nI 3)]) (rest := []) rfl rfl rfl rfl rfl rfl (Nat.le_of_ble_eq_true rfl) ?_
              refine c_in0 (by omega) hv_ ?_
              show am_G _ M_X10_found _ 40 [some (.ref 0), some (.int (nI 0)), some (.int (nI a)), some (.int (nI b)), some (.int v), none, none] [.int (nI 0)] σ
              refine am_if (ty := 47) (tn := 43) rfl (by decide) rfl rfl (fun (h_104 : nI 0 = 0) => ?_) (fun (h_104 : ¬ (nI 0 = 0)) => ?_)
              rotate_left
              · exact absurd (by decide) h_104
              refine am_run 3 (pc' := 52) (ls' := [some (.ref 0), some (.int (nI 0)), some (.int (nI a)), some (.int (nI b)), some (.int v), some (.int (nI 0)), none]) (st' := [.int (nI 0)]) (σ' := σ) rfl ?_
              refine am_if (ty := 61) (tn := 55) rfl (by decide) rfl rfl (fun (h_105 : nI 0 = 0) => ?_) (fun (h_105 : ¬ (nI 0 = 0)) => ?_)
              rotate_left
              · exact absurd (by decide) h_105
              refine am_run 1 (pc' := 63) (ls' := [some (.ref 0), some (.int (nI 0)), some (.int (nI a)), some (.int (nI b)), some (.int v), some (.int (nI 0)), none]) (st' := [.int (-1000002)]) (σ' := σ) rfl ?_
              refine am_reti rfl rfl ?_
              exact ⟨rfl, hI⟩
      · skip
        refine ⟨-1000002, ?_⟩
        refine am_enter' (M := M_X9_found) rfl rfl rfl (by omega) (ls := [some (.ref 41), some (.int (nI 0)), some (.int (nI a)), some (.int z), some (.int v), none, none, none]) rfl (fun d' hd' => ?_)
        refine am_run 2 (pc' := 2) (ls' := [some (.ref 41), some (.int (nI 0)), some (.int (nI a)), some (.int z), some (.int v), none, none, none]) (st' := [.int (nI 0), .ref 41]) (σ' := σ) rfl ?_
        refine am_invv (y := 140) (b := 41) (as := [.int (nI 0)]) (rest := []) rfl rfl rfl rfl rfl rfl rfl (Nat.le_of_ble_eq_true rfl) ?_
        refine c_filled0_1 (by omega) hf ?_
        show am_G _ M_X9_found _ 5 [some (.ref 41), some (.int (nI 0)), some (.int (nI a)), some (.int z), some (.int v), none, none, none] [.ref 73] σ
        refine am_run 4 (pc' := 16) (ls' := [some (.ref 41), some (.int (nI 0)), some (.int (nI a)), some (.int z), some (.int v), some (.ref 73), none, none]) (st' := [.int (nI a)]) (σ' := σ) rfl ?_
        refine am_invs (y := 141) (as := [.int (nI a)]) (rest := []) rfl rfl rfl rfl rfl rfl (Nat.le_of_ble_eq_true rfl) ?_
        refine c_sig1 (by omega) (by omega) ?_
        show am_G _ M_X9_found _ 19 [some (.ref 41), some (.int (nI 0)), some (.int (nI a)), some (.int z), some (.int v), some (.ref 73), none, none] [.int (nI 1)] σ
        refine am_if (ty := 46) (tn := 22) rfl (by decide) rfl rfl (fun (h_1 : nI 1 = 0) => ?_) (fun (h_1 : ¬ (nI 1 = 0)) => ?_)
        · exact absurd h_1 (by decide)
        refine am_run 1 (pc' := 23) (ls' := [some (.ref 41), some (.int (nI 0)), some (.int (nI a)), some (.int z), some (.int v), some (.ref 73), none, none]) (st' := [.int z]) (σ' := σ) rfl ?_
        refine am_invs (y := 141) (as := [.int z]) (rest := []) rfl rfl rfl rfl rfl rfl (Nat.le_of_ble_eq_true rfl) ?_
        refine c_sig0 (by omega) hz ?_
        show am_G _ M_X9_found _ 26 [some (.ref 41), some (.int (nI 0)), some (.int (nI a)), some (.int z), some (.int v), some (.ref 73), none, none] [.int (nI 0)] σ
        refine am_if (ty := 46) (tn := 29) rfl (by decide) rfl rfl (fun (h_2 : nI 0 = 0) => ?_) (fun (h_2 : ¬ (nI 0 = 0)) => ?_)
        rotate_left
        · exact absurd (by decide) h_2
        refine am_run 1 (pc' := 48) (ls' := [some (.ref 41), some (.int (nI 0)), some (.int (nI a)), some (.int z), some (.int v), some (.ref 73), none, none]) (st' := [.int (-1000002)]) (σ' := σ) rfl ?_
        refine am_reti rfl rfl ?_
        refine ⟨rfl, ?_⟩
        refine am_enter' (M := M_X10_found) rfl rfl rfl (by omega) (ls := [some (.ref 0), some (.int (nI 0)), some (.int (nI a)), some (.int z), some (.int v), none, none]) rfl (fun d2 hd2 => ?_)
        refine am_run 2 (pc' := 2) (ls' := [some (.ref 0), some (.int (nI 0)), some (.int (nI a)), some (.int z), some (.int v), none, none]) (st' := [.int (nI 0), .ref 0]) (σ' := σ) rfl ?_
        refine am_invv (y := 151) (b := 0) (as := [.int (nI 0)]) (rest := []) rfl rfl rfl rfl rfl rfl rfl (Nat.le_of_ble_eq_true rfl) ?_
        refine c_prog0_1 (by omega) (n := n) (by exact hn2) hn1 hn60 ?_
        show am_G _ M_X10_found _ 5 [some (.ref 0), some (.int (nI 0)), some (.int (nI a)), some (.int z), some (.int v), none, none] [.int (nI 1)] σ
        refine am_if (ty := 8) (tn := 11) rfl (by decide) rfl rfl (fun (h_101 : nI 1 = 0) => ?_) (fun (h_101 : ¬ (nI 1 = 0)) => ?_)
        · exact absurd h_101 (by decide)
        refine am_run 3 (pc' := 16) (ls' := [some (.ref 0), some (.int (nI 0)), some (.int (nI a)), some (.int z), some (.int v), none, none]) (st' := [.int (nI 255), .int (nI 0), .int (nI a)]) (σ' := σ) rfl ?_
        refine am_invs (y := 148) (as := [.int (nI a), .int (nI 0), .int (nI 255)]) (rest := []) rfl rfl rfl rfl rfl rfl (Nat.le_of_ble_eq_true rfl) ?_
        refine c_in1 (by omega) (by omega) (by omega) (by omega) ?_
        show am_G _ M_X10_found _ 19 [some (.ref 0), some (.int (nI 0)), some (.int (nI a)), some (.int z), some (.int v), none, none] [.int (nI 1)] σ
        refine am_if (ty := 47) (tn := 22) rfl (by decide) rfl rfl (fun (h_102 : nI 1 = 0) => ?_) (fun (h_102 : ¬ (nI 1 = 0)) => ?_)
        · exact absurd h_102 (by decide)
        refine am_run 3 (pc' := 27) (ls' := [some (.ref 0), some (.int (nI 0)), some (.int (nI a)), some (.int z), some (.int v), none, none]) (st' := [.int (nI 255), .int (nI 0), .int z]) (σ' := σ) rfl ?_
        refine am_invs (y := 148) (as := [.int z, .int (nI 0), .int (nI 255)]) (rest := []) rfl rfl rfl rfl rfl rfl (Nat.le_of_ble_eq_true rfl) ?_
        refine c_in0 (by omega) hz ?_
        show am_G _ M_X10_found _ 30 [some (.ref 0), some (.int (nI 0)), some (.int (nI a)), some (.int z), some (.int v), none, none] [.int (nI 0)] σ
        refine am_if (ty := 47) (tn := 33) rfl (by decide) rfl rfl (fun (h_103 : nI 0 = 0) => ?_) (fun (h_103 : ¬ (nI 0 = 0)) => ?_)
        rotate_left
        · exact absurd (by decide) h_103
        refine am_run 3 (pc' := 52) (ls' := [some (.ref 0), some (.int (nI 0)), some (.int (nI a)), some (.int z), some (.int v), some (.int (nI 0)), none]) (st' := [.int (nI 0)]) (σ' := σ) rfl ?_
        refine am_if (ty := 61) (tn := 55) rfl (by decide) rfl rfl (fun (h_104 : nI 0 = 0) => ?_) (fun (h_104 : ¬ (nI 0 = 0)) => ?_)
        rotate_left
        · exact absurd (by decide) h_104
        refine am_run 1 (pc' := 63) (ls' := [some (.ref 0), some (.int (nI 0)), some (.int (nI a)), some (.int z), some (.int v), some (.int (nI 0)), none]) (st' := [.int (-1000002)]) (σ' := σ) rfl ?_
        refine am_reti rfl rfl ?_
        exact ⟨rfl, hI⟩
    · skip
      refine ⟨-1000002, ?_⟩
      refine am_enter' (M := M_X9_found) rfl rfl rfl (by omega) (ls := [some (.ref 41), some (.int (nI 0)), some (.int y), some (.int z), some (.int v), none, none, none]) rfl (fun d' hd' => ?_)
      refine am_run 2 (pc' := 2) (ls' := [some (.ref 41), some (.int (nI 0)), some (.int y), some (.int z), some (.int v), none, none, none]) (st' := [.int (nI 0), .ref 41]) (σ' := σ) rfl ?_
      refine am_invv (y := 140) (b := 41) (as := [.int (nI 0)]) (rest := []) rfl rfl rfl rfl rfl rfl rfl (Nat.le_of_ble_eq_true rfl) ?_
      refine c_filled0_1 (by omega) hf ?_
      show am_G _ M_X9_found _ 5 [some (.ref 41), some (.int (nI 0)), some (.int y), some (.int z), some (.int v), none, none, none] [.ref 73] σ
      refine am_run 4 (pc' := 16) (ls' := [some (.ref 41), some (.int (nI 0)), some (.int y), some (.int z), some (.int v), some (.ref 73), none, none]) (st' := [.int y]) (σ' := σ) rfl ?_
      refine am_invs (y := 141) (as := [.int y]) (rest := []) rfl rfl rfl rfl rfl rfl (Nat.le_of_ble_eq_true rfl) ?_
      refine c_sig0 (by omega) hy ?_
      show am_G _ M_X9_found _ 19 [some (.ref 41), some (.int (nI 0)), some (.int y), some (.int z), some (.int v), some (.ref 73), none, none] [.int (nI 0)] σ
      refine am_if (ty := 46) (tn := 22) rfl (by decide) rfl rfl (fun (h_1 : nI 0 = 0) => ?_) (fun (h_1 : ¬ (nI 0 = 0)) => ?_)
      rotate_left
      · exact absurd (by decide) h_1
      refine am_run 1 (pc' := 48) (ls' := [some (.ref 41), some (.int (nI 0)), some (.int y), some (.int z), some (.int v), some (.ref 73), none, none]) (st' := [.int (-1000002)]) (σ' := σ) rfl ?_
      refine am_reti rfl rfl ?_
      refine ⟨rfl, ?_⟩
      refine am_enter' (M := M_X10_found) rfl rfl rfl (by omega) (ls := [some (.ref 0), some (.int (nI 0)), some (.int y), some (.int z), some (.int v), none, none]) rfl (fun d2 hd2 => ?_)
      refine am_run 2 (pc' := 2) (ls' := [some (.ref 0), some (.int (nI 0)), some (.int y), some (.int z), some (.int v), none, none]) (st' := [.int (nI 0), .ref 0]) (σ' := σ) rfl ?_
      refine am_invv (y := 151) (b := 0) (as := [.int (nI 0)]) (rest := []) rfl rfl rfl rfl rfl rfl rfl (Nat.le_of_ble_eq_true rfl) ?_
      refine c_prog0_1 (by omega) (n := n) (by exact hn2) hn1 hn60 ?_
      show am_G _ M_X10_found _ 5 [some (.ref 0), some (.int (nI 0)), some (.int y), some (.int z), some (.int v), none, none] [.int (nI 1)] σ
      refine am_if (ty := 8) (tn := 11) rfl (by decide) rfl rfl (fun (h_101 : nI 1 = 0) => ?_) (fun (h_101 : ¬ (nI 1 = 0)) => ?_)
      · exact absurd h_101 (by decide)
      refine am_run 3 (pc' := 16) (ls' := [some (.ref 0), some (.int (nI 0)), some (.int y), some (.int z), some (.int v), none, none]) (st' := [.int (nI 255), .int (nI 0), .int y]) (σ' := σ) rfl ?_
      refine am_invs (y := 148) (as := [.int y, .int (nI 0), .int (nI 255)]) (rest := []) rfl rfl rfl rfl rfl rfl (Nat.le_of_ble_eq_true rfl) ?_
      refine c_in0 (by omega) hy ?_
      show am_G _ M_X10_found _ 19 [some (.ref 0), some (.int (nI 0)), some (.int y), some (.int z), some (.int v), none, none] [.int (nI 0)] σ
      refine am_if (ty := 47) (tn := 22) rfl (by decide) rfl rfl (fun (h_102 : nI 0 = 0) => ?_) (fun (h_102 : ¬ (nI 0 = 0)) => ?_)
      rotate_left
      · exact absurd (by decide) h_102
      refine am_run 3 (pc' := 52) (ls' := [some (.ref 0), some (.int (nI 0)), some (.int y), some (.int z), some (.int v), some (.int (nI 0)), none]) (st' := [.int (nI 0)]) (σ' := σ) rfl ?_
      refine am_if (ty := 61) (tn := 55) rfl (by decide) rfl rfl (fun (h_103 : nI 0 = 0) => ?_) (fun (h_103 : ¬ (nI 0 = 0)) => ?_)
      rotate_left
      · exact absurd (by decide) h_103
      refine am_run 1 (pc' := 63) (ls' := [some (.ref 0), some (.int (nI 0)), some (.int y), some (.int z), some (.int v), some (.int (nI 0)), none]) (st' := [.int (-1000002)]) (σ' := σ) rfl ?_
      refine am_reti rfl rfl ?_
      exact ⟨rfl, hI⟩
  · obtain ⟨hf, p, n, r, kk, rk, od, dp, ow, s, m, hP, hH⟩ := hF
    obtain ⟨hn1, hR, hro, hM, hk1, hk2, hkk, hND⟩ := id hP
    obtain ⟨a3, b3, hv, a4, b4, hm, hh⟩ := id hH
    have hW := hM.1.2.1
    have hn60 := hW.1
    have hs := hv.1
    have hrn : r < n := hM.2.1.2.1
    have hn2 := hM.1.2.2.2.1
    rcases i32_in y (k := 255) (by decide) with ⟨a, ha0, rfl⟩ | hy
    · have ha : a < 256 := by omega
      rcases i32_in z (k := 255) (by decide) with ⟨b, hb0, rfl⟩ | hz
      · have hb : b < 256 := by omega
        have hab : a &&& b ≤ a := Nat.and_le_left
        have ok2 := an_ok hW 61 (r + 1) s true a b (show r + 1 ≤ n by omega)
        rcases i32_in v (k := 3) (by decide) with ⟨u2, hu2, rfl⟩ | hv_
        · by_cases hov : a &&& b = 0
          · by_cases hs0 : s = 0
            · rcases (show u2 = 0 ∨ u2 = 1 ∨ u2 = 2 ∨ u2 = 3 by omega) with rfl | rfl | rfl | rfl
              · skip
                refine ⟨-1000003, ?_⟩
                refine am_enter' (M := M_X9_found) rfl rfl rfl (by omega) (ls := [some (.ref 41), some (.int (nI 1)), some (.int (nI a)), some (.int (nI b)), some (.int (nI 0)), none, none, none]) rfl (fun d' hd' => ?_)
                refine am_run 2 (pc' := 2) (ls' := [some (.ref 41), some (.int (nI 1)), some (.int (nI a)), some (.int (nI b)), some (.int (nI 0)), none, none, none]) (st' := [.int (nI 1), .ref 41]) (σ' := σ) rfl ?_
                refine am_invv (y := 140) (b := 41) (as := [.int (nI 1)]) (rest := []) rfl rfl rfl rfl rfl rfl rfl (Nat.le_of_ble_eq_true rfl) ?_
                refine c_filled1_1 (by omega) hf ?_
                show am_G _ M_X9_found _ 5 [some (.ref 41), some (.int (nI 1)), some (.int (nI a)), some (.int (nI b)), some (.int (nI 0)), none, none, none] [.ref 75] σ
                refine am_run 4 (pc' := 16) (ls' := [some (.ref 41), some (.int (nI 1)), some (.int (nI a)), some (.int (nI b)), some (.int (nI 0)), some (.ref 75), none, none]) (st' := [.int (nI a)]) (σ' := σ) rfl ?_
                refine am_invs (y := 141) (as := [.int (nI a)]) (rest := []) rfl rfl rfl rfl rfl rfl (Nat.le_of_ble_eq_true rfl) ?_
                refine c_sig1 (by omega) (by omega) ?_
                show am_G _ M_X9_found _ 19 [some (.ref 41), some (.int (nI 1)), some (.int (nI a)), some (.int (nI b)), some (.int (nI 0)), some (.ref 75), none, none] [.int (nI 1)] σ
                refine am_if (ty := 46) (tn := 22) rfl (by decide) rfl rfl (fun (h_1 : nI 1 = 0) => ?_) (fun (h_1 : ¬ (nI 1 = 0)) => ?_)
                · exact absurd h_1 (by decide)
                refine am_run 1 (pc' := 23) (ls' := [some (.ref 41), some (.int (nI 1)), some (.int (nI a)), some (.int (nI b)), some (.int (nI 0)), some (.ref 75), none, none]) (st' := [.int (nI b)]) (σ' := σ) rfl ?_
                refine am_invs (y := 141) (as := [.int (nI b)]) (rest := []) rfl rfl rfl rfl rfl rfl (Nat.le_of_ble_eq_true rfl) ?_
                refine c_sig1 (by omega) (by omega) ?_
                show am_G _ M_X9_found _ 26 [some (.ref 41), some (.int (nI 1)), some (.int (nI a)), some (.int (nI b)), some (.int (nI 0)), some (.ref 75), none, none] [.int (nI 1)] σ
                refine am_if (ty := 46) (tn := 29) rfl (by decide) rfl rfl (fun (h_2 : nI 1 = 0) => ?_) (fun (h_2 : ¬ (nI 1 = 0)) => ?_)
                · exact absurd h_2 (by decide)
                refine am_run 3 (pc' := 32) (ls' := [some (.ref 41), some (.int (nI 1)), some (.int (nI a)), some (.int (nI b)), some (.int (nI 0)), some (.ref 75), none, none]) (st' := [.int (nI a &&& nI b)]) (σ' := σ) rfl ?_
                refine am_top (v' := nI (a &&& b)) (nx_and _ _) ?_
                refine am_if (ty := 35) (tn := 46) rfl (by decide) rfl rfl (fun (h_3 : nI (a &&& b) = 0) => ?_) (fun (h_3 : ¬ (nI (a &&& b) = 0)) => ?_)
                rotate_left
                · have h_3 : ¬ (a &&& b = 0) := fun z => h_3 ((am_n0 (by omega)).mpr z)
                  omega
                have h_3 : a &&& b = 0 := (am_n0 (by omega)).mp h_3
                refine am_run 1 (pc' := 37) (ls' := [some (.ref 41), some (.int (nI 1)), some (.int (nI a)), some (.int (nI b)), some (.int (nI 0)), some (.ref 75), none, none]) (st' := [.int (nI 0)]) (σ' := σ) rfl ?_
                refine am_if (ty := 46) (tn := 40) rfl (by decide) rfl rfl (fun (h_4 : nI 0 < 0) => ?_) (fun (h_4 : ¬ (nI 0 < 0)) => ?_)
                · exact absurd h_4 (by decide)
                refine am_run 2 (pc' := 43) (ls' := [some (.ref 41), some (.int (nI 1)), some (.int (nI a)), some (.int (nI b)), some (.int (nI 0)), some (.ref 75), none, none]) (st' := [.int (nI 3), .int (nI 0)]) (σ' := σ) rfl ?_
                refine am_ic (ty := 46) (tn := 49) rfl (by decide) rfl rfl (fun (h_5 : nI 3 < nI 0) => ?_) (fun (h_5 : ¬ (nI 3 < nI 0)) => ?_)
                · exact absurd h_5 (by decide)
                refine am_run 1 (pc' := 51) (ls' := [some (.ref 41), some (.int (nI 1)), some (.int (nI a)), some (.int (nI b)), some (.int (nI 0)), some (.ref 75), none, none]) (st' := [.ref 75]) (σ' := σ) rfl ?_
                refine am_invv (y := 67) (b := 75) (as := []) (rest := []) rfl rfl rfl rfl rfl rfl rfl (Nat.le_of_ble_eq_true rfl) ?_
                refine am_enter' rfl rfl rfl (by omega) (ls := [some (.ref 75)]) rfl (fun d_6 hd_6 => ?_)
                refine am_run 2 (pc' := 4) (ls' := [some (.ref 75)]) (st' := [.int (σ.1 75 3)]) (σ' := σ) rfl ?_
                refine am_top (v' := nI s) a3 ?_
                refine am_reti rfl rfl ?_
                show am_G _ M_X9_found _ 54 [some (.ref 41), some (.int (nI 1)), some (.int (nI a)), some (.int (nI b)), some (.int (nI 0)), some (.ref 75), none, none] [.int (nI s)] σ
                refine am_if (ty := 57) (tn := 60) rfl (by decide) rfl rfl (fun (h_7 : nI s = 0) => ?_) (fun (h_7 : ¬ (nI s = 0)) => ?_)
                rotate_left
                · have h_7 : ¬ (s = 0) := fun z => h_7 ((am_n0 (by omega)).mpr z)
                  omega
                have h_7 : s = 0 := (am_n0 (by omega)).mp h_7
                refine am_run 1 (pc' := 59) (ls' := [some (.ref 41), some (.int (nI 1)), some (.int (nI a)), some (.int (nI b)), some (.int (nI 0)), some (.ref 75), none, none]) (st' := [.int (-1000003)]) (σ' := σ) rfl ?_
                refine am_reti rfl rfl ?_
                refine ⟨rfl, ?_⟩
                refine am_enter' (M := M_X10_found) rfl rfl rfl (by omega) (ls := [some (.ref 0), some (.int (nI 1)), some (.int (nI a)), some (.int (nI b)), some (.int (nI 0)), none, none]) rfl (fun d2 hd2 => ?_)
                refine am_run 2 (pc' := 2) (ls' := [some (.ref 0), some (.int (nI 1)), some (.int (nI a)), some (.int (nI b)), some (.int (nI 0)), none, none]) (st' := [.int (nI 1), .ref 0]) (σ' := σ) rfl ?_
                refine am_invv (y := 151) (b := 0) (as := [.int (nI 1)]) (rest := []) rfl rfl rfl rfl rfl rfl rfl (Nat.le_of_ble_eq_true rfl) ?_
                refine c_prog1_1 (by omega) (n := n) (by exact hn2) hn1 hn60 ?_
                show am_G _ M_X10_found _ 5 [some (.ref 0), some (.int (nI 1)), some (.int (nI a)), some (.int (nI b)), some (.int (nI 0)), none, none] [.int (nI 1)] σ
                refine am_if (ty := 8) (tn := 11) rfl (by decide) rfl rfl (fun (h_101 : nI 1 = 0) => ?_) (fun (h_101 : ¬ (nI 1 = 0)) => ?_)
                · exact absurd h_101 (by decide)
                refine am_run 3 (pc' := 16) (ls' := [some (.ref 0), some (.int (nI 1)), some (.int (nI a)), some (.int (nI b)), some (.int (nI 0)), none, none]) (st' := [.int (nI 255), .int (nI 0), .int (nI a)]) (σ' := σ) rfl ?_
                refine am_invs (y := 148) (as := [.int (nI a), .int (nI 0), .int (nI 255)]) (rest := []) rfl rfl rfl rfl rfl rfl (Nat.le_of_ble_eq_true rfl) ?_
                refine c_in1 (by omega) (by omega) (by omega) (by omega) ?_
                show am_G _ M_X10_found _ 19 [some (.ref 0), some (.int (nI 1)), some (.int (nI a)), some (.int (nI b)), some (.int (nI 0)), none, none] [.int (nI 1)] σ
                refine am_if (ty := 47) (tn := 22) rfl (by decide) rfl rfl (fun (h_102 : nI 1 = 0) => ?_) (fun (h_102 : ¬ (nI 1 = 0)) => ?_)
                · exact absurd h_102 (by decide)
                refine am_run 3 (pc' := 27) (ls' := [some (.ref 0), some (.int (nI 1)), some (.int (nI a)), some (.int (nI b)), some (.int (nI 0)), none, none]) (st' := [.int (nI 255), .int (nI 0), .int (nI b)]) (σ' := σ) rfl ?_
                refine am_invs (y := 148) (as := [.int (nI b), .int (nI 0), .int (nI 255)]) (rest := []) rfl rfl rfl rfl rfl rfl (Nat.le_of_ble_eq_true rfl) ?_
                refine c_in1 (by omega) (by omega) (by omega) (by omega) ?_
                show am_G _ M_X10_found _ 30 [some (.ref 0), some (.int (nI 1)), some (.int (nI a)), some (.int (nI b)), some (.int (nI 0)), none, none] [.int (nI 1)] σ
                refine am_if (ty := 47) (tn := 33) rfl (by decide) rfl rfl (fun (h_103 : nI 1 = 0) => ?_) (fun (h_103 : ¬ (nI 1 = 0)) => ?_)
                · exact absurd h_103 (by decide)
                refine am_run 3 (pc' := 37) (ls' := [some (.ref 0), some (.int (nI 1)), some (.int (nI a)), some (.int (nI b)), some (.int (nI 0)), none, none]) (st' := [.int (nI 3), .int (nI 0), .int (nI 0)]) (σ' := σ) rfl ?_
                refine am_invs (y := 148) (as := [.int (nI 0), .int (nI 0), .int (nI 3)]) (rest := []) rfl rfl rfl rfl rfl rfl (Nat.le_of_ble_eq_true rfl) ?_
                refine c_in1 (by omega) (by omega) (by omega) (by omega) ?_
                show am_G _ M_X10_found _ 40 [some (.ref 0), some (.int (nI 1)), some (.int (nI a)), some (.int (nI b)), some (.int (nI 0)), none, none] [.int (nI 1)] σ
                refine am_if (ty := 47) (tn := 43) rfl (by decide) rfl rfl (fun (h_104 : nI 1 = 0) => ?_) (fun (h_104 : ¬ (nI 1 = 0)) => ?_)
                · exact absurd h_104 (by decide)
                refine am_run 4 (pc' := 52) (ls' := [some (.ref 0), some (.int (nI 1)), some (.int (nI a)), some (.int (nI b)), some (.int (nI 0)), some (.int (nI 1)), none]) (st' := [.int (nI 1)]) (σ' := σ) rfl ?_
                refine am_if (ty := 61) (tn := 55) rfl (by decide) rfl rfl (fun (h_105 : nI 1 = 0) => ?_) (fun (h_105 : ¬ (nI 1 = 0)) => ?_)
                · exact absurd h_105 (by decide)
                refine am_run 3 (pc' := 58) (ls' := [some (.ref 0), some (.int (nI 1)), some (.int (nI a)), some (.int (nI b)), some (.int (nI 0)), some (.int (nI 1)), none]) (st' := [.int (nI a &&& nI b)]) (σ' := σ) rfl ?_
                refine am_top (v' := nI (a &&& b)) (nx_and _ _) ?_
                refine am_if (ty := 64) (tn := 61) rfl (by decide) rfl rfl (fun (h_106 : nI (a &&& b) = 0) => ?_) (fun (h_106 : ¬ (nI (a &&& b) = 0)) => ?_)
                rotate_left
                · have h_106 : ¬ (a &&& b = 0) := fun z => h_106 ((am_n0 (by omega)).mpr z)
                  omega
                have h_106 : a &&& b = 0 := (am_n0 (by omega)).mp h_106
                refine am_run 3 (pc' := 69) (ls' := [some (.ref 0), some (.int (nI 1)), some (.int (nI a)), some (.int (nI b)), some (.int (nI 0)), some (.int (nI 1)), none]) (st' := [.int (nI 1), .ref 17]) (σ' := σ) rfl ?_
                refine am_ialdN (n := 2) (v := nI s) rfl rfl rfl (by decide) b3 (by decide) ?_
                refine am_if (ty := 73) (tn := 77) rfl (by decide) rfl rfl (fun (h_107 : nI s = 0) => ?_) (fun (h_107 : ¬ (nI s = 0)) => ?_)
                rotate_left
                · have h_107 : ¬ (s = 0) := fun z => h_107 ((am_n0 (by omega)).mpr z)
                  omega
                have h_107 : s = 0 := (am_n0 (by omega)).mp h_107
                refine am_run 1 (pc' := 76) (ls' := [some (.ref 0), some (.int (nI 1)), some (.int (nI a)), some (.int (nI b)), some (.int (nI 0)), some (.int (nI 1)), none]) (st' := [.int (-1000003)]) (σ' := σ) rfl ?_
                refine am_reti rfl rfl ?_
                exact ⟨rfl, hI⟩
              · skip
                refine ⟨-1000003, ?_⟩
                refine am_enter' (M := M_X9_found) rfl rfl rfl (by omega) (ls := [some (.ref 41), some (.int (nI 1)), some (.int (nI a)), some (.int (nI b)), some (.int (nI 1)), none, none, none]) rfl (fun d' hd' => ?_)
                refine am_run 2 (pc' := 2) (ls' := [some (.ref 41), some (.int (nI 1)), some (.int (nI a)), some (.int (nI b)), some (.int (nI 1)), none, none, none]) (st' := [.int (nI 1), .ref 41]) (σ' := σ) rfl ?_
                refine am_invv (y := 140) (b := 41) (as := [.int (nI 1)]) (rest := []) rfl rfl rfl rfl rfl rfl rfl (Nat.le_of_ble_eq_true rfl) ?_
                refine c_filled1_1 (by omega) hf ?_
                show am_G _ M_X9_found _ 5 [some (.ref 41), some (.int (nI 1)), some (.int (nI a)), some (.int (nI b)), some (.int (nI 1)), none, none, none] [.ref 75] σ
                refine am_run 4 (pc' := 16) (ls' := [some (.ref 41), some (.int (nI 1)), some (.int (nI a)), some (.int (nI b)), some (.int (nI 1)), some (.ref 75), none, none]) (st' := [.int (nI a)]) (σ' := σ) rfl ?_
                refine am_invs (y := 141) (as := [.int (nI a)]) (rest := []) rfl rfl rfl rfl rfl rfl (Nat.le_of_ble_eq_true rfl) ?_
                refine c_sig1 (by omega) (by omega) ?_
                show am_G _ M_X9_found _ 19 [some (.ref 41), some (.int (nI 1)), some (.int (nI a)), some (.int (nI b)), some (.int (nI 1)), some (.ref 75), none, none] [.int (nI 1)] σ
                refine am_if (ty := 46) (tn := 22) rfl (by decide) rfl rfl (fun (h_1 : nI 1 = 0) => ?_) (fun (h_1 : ¬ (nI 1 = 0)) => ?_)
                · exact absurd h_1 (by decide)
                refine am_run 1 (pc' := 23) (ls' := [some (.ref 41), some (.int (nI 1)), some (.int (nI a)), some (.int (nI b)), some (.int (nI 1)), some (.ref 75), none, none]) (st' := [.int (nI b)]) (σ' := σ) rfl ?_
                refine am_invs (y := 141) (as := [.int (nI b)]) (rest := []) rfl rfl rfl rfl rfl rfl (Nat.le_of_ble_eq_true rfl) ?_
                refine c_sig1 (by omega) (by omega) ?_
                show am_G _ M_X9_found _ 26 [some (.ref 41), some (.int (nI 1)), some (.int (nI a)), some (.int (nI b)), some (.int (nI 1)), some (.ref 75), none, none] [.int (nI 1)] σ
                refine am_if (ty := 46) (tn := 29) rfl (by decide) rfl rfl (fun (h_2 : nI 1 = 0) => ?_) (fun (h_2 : ¬ (nI 1 = 0)) => ?_)
                · exact absurd h_2 (by decide)
                refine am_run 3 (pc' := 32) (ls' := [some (.ref 41), some (.int (nI 1)), some (.int (nI a)), some (.int (nI b)), some (.int (nI 1)), some (.ref 75), none, none]) (st' := [.int (nI a &&& nI b)]) (σ' := σ) rfl ?_
                refine am_top (v' := nI (a &&& b)) (nx_and _ _) ?_
                refine am_if (ty := 35) (tn := 46) rfl (by decide) rfl rfl (fun (h_3 : nI (a &&& b) = 0) => ?_) (fun (h_3 : ¬ (nI (a &&& b) = 0)) => ?_)
                rotate_left
                · have h_3 : ¬ (a &&& b = 0) := fun z => h_3 ((am_n0 (by omega)).mpr z)
                  omega
                have h_3 : a &&& b = 0 := (am_n0 (by omega)).mp h_3
                refine am_run 1 (pc' := 37) (ls' := [some (.ref 41), some (.int (nI 1)), some (.int (nI a)), some (.int (nI b)), some (.int (nI 1)), some (.ref 75), none, none]) (st' := [.int (nI 1)]) (σ' := σ) rfl ?_
                refine am_if (ty := 46) (tn := 40) rfl (by decide) rfl rfl (fun (h_4 : nI 1 < 0) => ?_) (fun (h_4 : ¬ (nI 1 < 0)) => ?_)
                · exact absurd h_4 (by decide)
                refine am_run 2 (pc' := 43) (ls' := [some (.ref 41), some (.int (nI 1)), some (.int (nI a)), some (.int (nI b)), some (.int (nI 1)), some (.ref 75), none, none]) (st' := [.int (nI 3), .int (nI 1)]) (σ' := σ) rfl ?_
                refine am_ic (ty := 46) (tn := 49) rfl (by decide) rfl rfl (fun (h_5 : nI 3 < nI 1) => ?_) (fun (h_5 : ¬ (nI 3 < nI 1)) => ?_)
                · exact absurd h_5 (by decide)
                refine am_run 1 (pc' := 51) (ls' := [some (.ref 41), some (.int (nI 1)), some (.int (nI a)), some (.int (nI b)), some (.int (nI 1)), some (.ref 75), none, none]) (st' := [.ref 75]) (σ' := σ) rfl ?_
                refine am_invv (y := 67) (b := 75) (as := []) (rest := []) rfl rfl rfl rfl rfl rfl rfl (Nat.le_of_ble_eq_true rfl) ?_
                refine am_enter' rfl rfl rfl (by omega) (ls := [some (.ref 75)]) rfl (fun d_6 hd_6 => ?_)
                refine am_run 2 (pc' := 4) (ls' := [some (.ref 75)]) (st' := [.int (σ.1 75 3)]) (σ' := σ) rfl ?_
                refine am_top (v' := nI s) a3 ?_
                refine am_reti rfl rfl ?_
                show am_G _ M_X9_found _ 54 [some (.ref 41), some (.int (nI 1)), some (.int (nI a)), some (.int (nI b)), some (.int (nI 1)), some (.ref 75), none, none] [.int (nI s)] σ
                refine am_if (ty := 57) (tn := 60) rfl (by decide) rfl rfl (fun (h_7 : nI s = 0) => ?_) (fun (h_7 : ¬ (nI s = 0)) => ?_)
                rotate_left
                · have h_7 : ¬ (s = 0) := fun z => h_7 ((am_n0 (by omega)).mpr z)
                  omega
                have h_7 : s = 0 := (am_n0 (by omega)).mp h_7
                refine am_run 1 (pc' := 59) (ls' := [some (.ref 41), some (.int (nI 1)), some (.int (nI a)), some (.int (nI b)), some (.int (nI 1)), some (.ref 75), none, none]) (st' := [.int (-1000003)]) (σ' := σ) rfl ?_
                refine am_reti rfl rfl ?_
                refine ⟨rfl, ?_⟩
                refine am_enter' (M := M_X10_found) rfl rfl rfl (by omega) (ls := [some (.ref 0), some (.int (nI 1)), some (.int (nI a)), some (.int (nI b)), some (.int (nI 1)), none, none]) rfl (fun d2 hd2 => ?_)
                refine am_run 2 (pc' := 2) (ls' := [some (.ref 0), some (.int (nI 1)), some (.int (nI a)), some (.int (nI b)), some (.int (nI 1)), none, none]) (st' := [.int (nI 1), .ref 0]) (σ' := σ) rfl ?_
                refine am_invv (y := 151) (b := 0) (as := [.int (nI 1)]) (rest := []) rfl rfl rfl rfl rfl rfl rfl (Nat.le_of_ble_eq_true rfl) ?_
                refine c_prog1_1 (by omega) (n := n) (by exact hn2) hn1 hn60 ?_
                show am_G _ M_X10_found _ 5 [some (.ref 0), some (.int (nI 1)), some (.int (nI a)), some (.int (nI b)), some (.int (nI 1)), none, none] [.int (nI 1)] σ
                refine am_if (ty := 8) (tn := 11) rfl (by decide) rfl rfl (fun (h_101 : nI 1 = 0) => ?_) (fun (h_101 : ¬ (nI 1 = 0)) => ?_)
                · exact absurd h_101 (by decide)
                refine am_run 3 (pc' := 16) (ls' := [some (.ref 0), some (.int (nI 1)), some (.int (nI a)), some (.int (nI b)), some (.int (nI 1)), none, none]) (st' := [.int (nI 255), .int (nI 0), .int (nI a)]) (σ' := σ) rfl ?_
                refine am_invs (y := 148) (as := [.int (nI a), .int (nI 0), .int (nI 255)]) (rest := []) rfl rfl rfl rfl rfl rfl (Nat.le_of_ble_eq_true rfl) ?_
                refine c_in1 (by omega) (by omega) (by omega) (by omega) ?_
                show am_G _ M_X10_found _ 19 [some (.ref 0), some (.int (nI 1)), some (.int (nI a)), some (.int (nI b)), some (.int (nI 1)), none, none] [.int (nI 1)] σ
                refine am_if (ty := 47) (tn := 22) rfl (by decide) rfl rfl (fun (h_102 : nI 1 = 0) => ?_) (fun (h_102 : ¬ (nI 1 = 0)) => ?_)
                · exact absurd h_102 (by decide)
                refine am_run 3 (pc' := 27) (ls' := [some (.ref 0), some (.int (nI 1)), some (.int (nI a)), some (.int (nI b)), some (.int (nI 1)), none, none]) (st' := [.int (nI 255), .int (nI 0), .int (nI b)]) (σ' := σ) rfl ?_
                refine am_invs (y := 148) (as := [.int (nI b), .int (nI 0), .int (nI 255)]) (rest := []) rfl rfl rfl rfl rfl rfl (Nat.le_of_ble_eq_true rfl) ?_
                refine c_in1 (by omega) (by omega) (by omega) (by omega) ?_
                show am_G _ M_X10_found _ 30 [some (.ref 0), some (.int (nI 1)), some (.int (nI a)), some (.int (nI b)), some (.int (nI 1)), none, none] [.int (nI 1)] σ
                refine am_if (ty := 47) (tn := 33) rfl (by decide) rfl rfl (fun (h_103 : nI 1 = 0) => ?_) (fun (h_103 : ¬ (nI 1 = 0)) => ?_)
                · exact absurd h_103 (by decide)
                refine am_run 3 (pc' := 37) (ls' := [some (.ref 0), some (.int (nI 1)), some (.int (nI a)), some (.int (nI b)), some (.int (nI 1)), none, none]) (st' := [.int (nI 3), .int (nI 0), .int (nI 1)]) (σ' := σ) rfl ?_
                refine am_invs (y := 148) (as := [.int (nI 1), .int (nI 0), .int (nI 3)]) (rest := []) rfl rfl rfl rfl rfl rfl (Nat.le_of_ble_eq_true rfl) ?_
                refine c_in1 (by omega) (by omega) (by omega) (by omega) ?_
                show am_G _ M_X10_found _ 40 [some (.ref 0), some (.int (nI 1)), some (.int (nI a)), some (.int (nI b)), some (.int (nI 1)), none, none] [.int (nI 1)] σ
                refine am_if (ty := 47) (tn := 43) rfl (by decide) rfl rfl (fun (h_104 : nI 1 = 0) => ?_) (fun (h_104 : ¬ (nI 1 = 0)) => ?_)
                · exact absurd h_104 (by decide)
                refine am_run 4 (pc' := 52) (ls' := [some (.ref 0), some (.int (nI 1)), some (.int (nI a)), some (.int (nI b)), some (.int (nI 1)), some (.int (nI 1)), none]) (st' := [.int (nI 1)]) (σ' := σ) rfl ?_
                refine am_if (ty := 61) (tn := 55) rfl (by decide) rfl rfl (fun (h_105 : nI 1 = 0) => ?_) (fun (h_105 : ¬ (nI 1 = 0)) => ?_)
                · exact absurd h_105 (by decide)
                refine am_run 3 (pc' := 58) (ls' := [some (.ref 0), some (.int (nI 1)), some (.int (nI a)), some (.int (nI b)), some (.int (nI 1)), some (.int (nI 1)), none]) (st' := [.int (nI a &&& nI b)]) (σ' := σ) rfl ?_
                refine am_top (v' := nI (a &&& b)) (nx_and _ _) ?_
                refine am_if (ty := 64) (tn := 61) rfl (by decide) rfl rfl (fun (h_106 : nI (a &&& b) = 0) => ?_) (fun (h_106 : ¬ (nI (a &&& b) = 0)) => ?_)
                rotate_left
                · have h_106 : ¬ (a &&& b = 0) := fun z => h_106 ((am_n0 (by omega)).mpr z)
                  omega
                have h_106 : a &&& b = 0 := (am_n0 (by omega)).mp h_106
                refine am_run 3 (pc' := 69) (ls' := [some (.ref 0), some (.int (nI 1)), some (.int (nI a)), some (.int (nI b)), some (.int (nI 1)), some (.int (nI 1)), none]) (st' := [.int (nI 1), .ref 17]) (σ' := σ) rfl ?_
                refine am_ialdN (n := 2) (v := nI s) rfl rfl rfl (by decide) b3 (by decide) ?_
                refine am_if (ty := 73) (tn := 77) rfl (by decide) rfl rfl (fun (h_107 : nI s = 0) => ?_) (fun (h_107 : ¬ (nI s = 0)) => ?_)
                rotate_left
                · have h_107 : ¬ (s = 0) := fun z => h_107 ((am_n0 (by omega)).mpr z)
                  omega
                have h_107 : s = 0 := (am_n0 (by omega)).mp h_107
                refine am_run 1 (pc' := 76) (ls' := [some (.ref 0), some (.int (nI 1)), some (.int (nI a)), some (.int (nI b)), some (.int (nI 1)), some (.int (nI 1)), none]) (st' := [.int (-1000003)]) (σ' := σ) rfl ?_
                refine am_reti rfl rfl ?_
                exact ⟨rfl, hI⟩
              · skip
                refine ⟨-1000003, ?_⟩
                refine am_enter' (M := M_X9_found) rfl rfl rfl (by omega) (ls := [some (.ref 41), some (.int (nI 1)), some (.int (nI a)), some (.int (nI b)), some (.int (nI 2)), none, none, none]) rfl (fun d' hd' => ?_)
                refine am_run 2 (pc' := 2) (ls' := [some (.ref 41), some (.int (nI 1)), some (.int (nI a)), some (.int (nI b)), some (.int (nI 2)), none, none, none]) (st' := [.int (nI 1), .ref 41]) (σ' := σ) rfl ?_
                refine am_invv (y := 140) (b := 41) (as := [.int (nI 1)]) (rest := []) rfl rfl rfl rfl rfl rfl rfl (Nat.le_of_ble_eq_true rfl) ?_
                refine c_filled1_1 (by omega) hf ?_
                show am_G _ M_X9_found _ 5 [some (.ref 41), some (.int (nI 1)), some (.int (nI a)), some (.int (nI b)), some (.int (nI 2)), none, none, none] [.ref 75] σ
                refine am_run 4 (pc' := 16) (ls' := [some (.ref 41), some (.int (nI 1)), some (.int (nI a)), some (.int (nI b)), some (.int (nI 2)), some (.ref 75), none, none]) (st' := [.int (nI a)]) (σ' := σ) rfl ?_
                refine am_invs (y := 141) (as := [.int (nI a)]) (rest := []) rfl rfl rfl rfl rfl rfl (Nat.le_of_ble_eq_true rfl) ?_
                refine c_sig1 (by omega) (by omega) ?_
                show am_G _ M_X9_found _ 19 [some (.ref 41), some (.int (nI 1)), some (.int (nI a)), some (.int (nI b)), some (.int (nI 2)), some (.ref 75), none, none] [.int (nI 1)] σ
                refine am_if (ty := 46) (tn := 22) rfl (by decide) rfl rfl (fun (h_1 : nI 1 = 0) => ?_) (fun (h_1 : ¬ (nI 1 = 0)) => ?_)
                · exact absurd h_1 (by decide)
                refine am_run 1 (pc' := 23) (ls' := [some (.ref 41), some (.int (nI 1)), some (.int (nI a)), some (.int (nI b)), some (.int (nI 2)), some (.ref 75), none, none]) (st' := [.int (nI b)]) (σ' := σ) rfl ?_
                refine am_invs (y := 141) (as := [.int (nI b)]) (rest := []) rfl rfl rfl rfl rfl rfl (Nat.le_of_ble_eq_true rfl) ?_
                refine c_sig1 (by omega) (by omega) ?_
                show am_G _ M_X9_found _ 26 [some (.ref 41), some (.int (nI 1)), some (.int (nI a)), some (.int (nI b)), some (.int (nI 2)), some (.ref 75), none, none] [.int (nI 1)] σ
                refine am_if (ty := 46) (tn := 29) rfl (by decide) rfl rfl (fun (h_2 : nI 1 = 0) => ?_) (fun (h_2 : ¬ (nI 1 = 0)) => ?_)
                · exact absurd h_2 (by decide)
                refine am_run 3 (pc' := 32) (ls' := [some (.ref 41), some (.int (nI 1)), some (.int (nI a)), some (.int (nI b)), some (.int (nI 2)), some (.ref 75), none, none]) (st' := [.int (nI a &&& nI b)]) (σ' := σ) rfl ?_
                refine am_top (v' := nI (a &&& b)) (nx_and _ _) ?_
                refine am_if (ty := 35) (tn := 46) rfl (by decide) rfl rfl (fun (h_3 : nI (a &&& b) = 0) => ?_) (fun (h_3 : ¬ (nI (a &&& b) = 0)) => ?_)
                rotate_left
                · have h_3 : ¬ (a &&& b = 0) := fun z => h_3 ((am_n0 (by omega)).mpr z)
                  omega
                have h_3 : a &&& b = 0 := (am_n0 (by omega)).mp h_3
                refine am_run 1 (pc' := 37) (ls' := [some (.ref 41), some (.int (nI 1)), some (.int (nI a)), some (.int (nI b)), some (.int (nI 2)), some (.ref 75), none, none]) (st' := [.int (nI 2)]) (σ' := σ) rfl ?_
                refine am_if (ty := 46) (tn := 40) rfl (by decide) rfl rfl (fun (h_4 : nI 2 < 0) => ?_) (fun (h_4 : ¬ (nI 2 < 0)) => ?_)
                · exact absurd h_4 (by decide)
                refine am_run 2 (pc' := 43) (ls' := [some (.ref 41), some (.int (nI 1)), some (.int (nI a)), some (.int (nI b)), some (.int (nI 2)), some (.ref 75), none, none]) (st' := [.int (nI 3), .int (nI 2)]) (σ' := σ) rfl ?_
                refine am_ic (ty := 46) (tn := 49) rfl (by decide) rfl rfl (fun (h_5 : nI 3 < nI 2) => ?_) (fun (h_5 : ¬ (nI 3 < nI 2)) => ?_)
                · exact absurd h_5 (by decide)
                refine am_run 1 (pc' := 51) (ls' := [some (.ref 41), some (.int (nI 1)), some (.int (nI a)), some (.int (nI b)), some (.int (nI 2)), some (.ref 75), none, none]) (st' := [.ref 75]) (σ' := σ) rfl ?_
                refine am_invv (y := 67) (b := 75) (as := []) (rest := []) rfl rfl rfl rfl rfl rfl rfl (Nat.le_of_ble_eq_true rfl) ?_
                refine am_enter' rfl rfl rfl (by omega) (ls := [some (.ref 75)]) rfl (fun d_6 hd_6 => ?_)
                refine am_run 2 (pc' := 4) (ls' := [some (.ref 75)]) (st' := [.int (σ.1 75 3)]) (σ' := σ) rfl ?_
                refine am_top (v' := nI s) a3 ?_
                refine am_reti rfl rfl ?_
                show am_G _ M_X9_found _ 54 [some (.ref 41), some (.int (nI 1)), some (.int (nI a)), some (.int (nI b)), some (.int (nI 2)), some (.ref 75), none, none] [.int (nI s)] σ
                refine am_if (ty := 57) (tn := 60) rfl (by decide) rfl rfl (fun (h_7 : nI s = 0) => ?_) (fun (h_7 : ¬ (nI s = 0)) => ?_)
                rotate_left
                · have h_7 : ¬ (s = 0) := fun z => h_7 ((am_n0 (by omega)).mpr z)
                  omega
                have h_7 : s = 0 := (am_n0 (by omega)).mp h_7
                refine am_run 1 (pc' := 59) (ls' := [some (.ref 41), some (.int (nI 1)), some (.int (nI a)), some (.int (nI b)), some (.int (nI 2)), some (.ref 75), none, none]) (st' := [.int (-1000003)]) (σ' := σ) rfl ?_
                refine am_reti rfl rfl ?_
                refine ⟨rfl, ?_⟩
                refine am_enter' (M := M_X10_found) rfl rfl rfl (by omega) (ls := [some (.ref 0), some (.int (nI 1)), some (.int (nI a)), some (.int (nI b)), some (.int (nI 2)), none, none]) rfl (fun d2 hd2 => ?_)
                refine am_run 2 (pc' := 2) (ls' := [some (.ref 0), some (.int (nI 1)), some (.int (nI a)), some (.int (nI b)), some (.int (nI 2)), none, none]) (st' := [.int (nI 1), .ref 0]) (σ' := σ) rfl ?_
                refine am_invv (y := 151) (b := 0) (as := [.int (nI 1)]) (rest := []) rfl rfl rfl rfl rfl rfl rfl (Nat.le_of_ble_eq_true rfl) ?_
                refine c_prog1_1 (by omega) (n := n) (by exact hn2) hn1 hn60 ?_
                show am_G _ M_X10_found _ 5 [some (.ref 0), some (.int (nI 1)), some (.int (nI a)), some (.int (nI b)), some (.int (nI 2)), none, none] [.int (nI 1)] σ
                refine am_if (ty := 8) (tn := 11) rfl (by decide) rfl rfl (fun (h_101 : nI 1 = 0) => ?_) (fun (h_101 : ¬ (nI 1 = 0)) => ?_)
                · exact absurd h_101 (by decide)
                refine am_run 3 (pc' := 16) (ls' := [some (.ref 0), some (.int (nI 1)), some (.int (nI a)), some (.int (nI b)), some (.int (nI 2)), none, none]) (st' := [.int (nI 255), .int (nI 0), .int (nI a)]) (σ' := σ) rfl ?_
                refine am_invs (y := 148) (as := [.int (nI a), .int (nI 0), .int (nI 255)]) (rest := []) rfl rfl rfl rfl rfl rfl (Nat.le_of_ble_eq_true rfl) ?_
                refine c_in1 (by omega) (by omega) (by omega) (by omega) ?_
                show am_G _ M_X10_found _ 19 [some (.ref 0), some (.int (nI 1)), some (.int (nI a)), some (.int (nI b)), some (.int (nI 2)), none, none] [.int (nI 1)] σ
                refine am_if (ty := 47) (tn := 22) rfl (by decide) rfl rfl (fun (h_102 : nI 1 = 0) => ?_) (fun (h_102 : ¬ (nI 1 = 0)) => ?_)
                · exact absurd h_102 (by decide)
                refine am_run 3 (pc' := 27) (ls' := [some (.ref 0), some (.int (nI 1)), some (.int (nI a)), some (.int (nI b)), some (.int (nI 2)), none, none]) (st' := [.int (nI 255), .int (nI 0), .int (nI b)]) (σ' := σ) rfl ?_
                refine am_invs (y := 148) (as := [.int (nI b), .int (nI 0), .int (nI 255)]) (rest := []) rfl rfl rfl rfl rfl rfl (Nat.le_of_ble_eq_true rfl) ?_
                refine c_in1 (by omega) (by omega) (by omega) (by omega) ?_
                show am_G _ M_X10_found _ 30 [some (.ref 0), some (.int (nI 1)), some (.int (nI a)), some (.int (nI b)), some (.int (nI 2)), none, none] [.int (nI 1)] σ
                refine am_if (ty := 47) (tn := 33) rfl (by decide) rfl rfl (fun (h_103 : nI 1 = 0) => ?_) (fun (h_103 : ¬ (nI 1 = 0)) => ?_)
                · exact absurd h_103 (by decide)
                refine am_run 3 (pc' := 37) (ls' := [some (.ref 0), some (.int (nI 1)), some (.int (nI a)), some (.int (nI b)), some (.int (nI 2)), none, none]) (st' := [.int (nI 3), .int (nI 0), .int (nI 2)]) (σ' := σ) rfl ?_
                refine am_invs (y := 148) (as := [.int (nI 2), .int (nI 0), .int (nI 3)]) (rest := []) rfl rfl rfl rfl rfl rfl (Nat.le_of_ble_eq_true rfl) ?_
                refine c_in1 (by omega) (by omega) (by omega) (by omega) ?_
                show am_G _ M_X10_found _ 40 [some (.ref 0), some (.int (nI 1)), some (.int (nI a)), some (.int (nI b)), some (.int (nI 2)), none, none] [.int (nI 1)] σ
                refine am_if (ty := 47) (tn := 43) rfl (by decide) rfl rfl (fun (h_104 : nI 1 = 0) => ?_) (fun (h_104 : ¬ (nI 1 = 0)) => ?_)
                · exact absurd h_104 (by decide)
                refine am_run 4 (pc' := 52) (ls' := [some (.ref 0), some (.int (nI 1)), some (.int (nI a)), some (.int (nI b)), some (.int (nI 2)), some (.int (nI 1)), none]) (st' := [.int (nI 1)]) (σ' := σ) rfl ?_
                refine am_if (ty := 61) (tn := 55) rfl (by decide) rfl rfl (fun (h_105 : nI 1 = 0) => ?_) (fun (h_105 : ¬ (nI 1 = 0)) => ?_)
                · exact absurd h_105 (by decide)
                refine am_run 3 (pc' := 58) (ls' := [some (.ref 0), some (.int (nI 1)), some (.int (nI a)), some (.int (nI b)), some (.int (nI 2)), some (.int (nI 1)), none]) (st' := [.int (nI a &&& nI b)]) (σ' := σ) rfl ?_
                refine am_top (v' := nI (a &&& b)) (nx_and _ _) ?_
                refine am_if (ty := 64) (tn := 61) rfl (by decide) rfl rfl (fun (h_106 : nI (a &&& b) = 0) => ?_) (fun (h_106 : ¬ (nI (a &&& b) = 0)) => ?_)
                rotate_left
                · have h_106 : ¬ (a &&& b = 0) := fun z => h_106 ((am_n0 (by omega)).mpr z)
                  omega
                have h_106 : a &&& b = 0 := (am_n0 (by omega)).mp h_106
                refine am_run 3 (pc' := 69) (ls' := [some (.ref 0), some (.int (nI 1)), some (.int (nI a)), some (.int (nI b)), some (.int (nI 2)), some (.int (nI 1)), none]) (st' := [.int (nI 1), .ref 17]) (σ' := σ) rfl ?_
                refine am_ialdN (n := 2) (v := nI s) rfl rfl rfl (by decide) b3 (by decide) ?_
                refine am_if (ty := 73) (tn := 77) rfl (by decide) rfl rfl (fun (h_107 : nI s = 0) => ?_) (fun (h_107 : ¬ (nI s = 0)) => ?_)
                rotate_left
                · have h_107 : ¬ (s = 0) := fun z => h_107 ((am_n0 (by omega)).mpr z)
                  omega
                have h_107 : s = 0 := (am_n0 (by omega)).mp h_107
                refine am_run 1 (pc' := 76) (ls' := [some (.ref 0), some (.int (nI 1)), some (.int (nI a)), some (.int (nI b)), some (.int (nI 2)), some (.int (nI 1)), none]) (st' := [.int (-1000003)]) (σ' := σ) rfl ?_
                refine am_reti rfl rfl ?_
                exact ⟨rfl, hI⟩
              · skip
                refine ⟨-1000003, ?_⟩
                refine am_enter' (M := M_X9_found) rfl rfl rfl (by omega) (ls := [some (.ref 41), some (.int (nI 1)), some (.int (nI a)), some (.int (nI b)), some (.int (nI 3)), none, none, none]) rfl (fun d' hd' => ?_)
                refine am_run 2 (pc' := 2) (ls' := [some (.ref 41), some (.int (nI 1)), some (.int (nI a)), some (.int (nI b)), some (.int (nI 3)), none, none, none]) (st' := [.int (nI 1), .ref 41]) (σ' := σ) rfl ?_
                refine am_invv (y := 140) (b := 41) (as := [.int (nI 1)]) (rest := []) rfl rfl rfl rfl rfl rfl rfl (Nat.le_of_ble_eq_true rfl) ?_
                refine c_filled1_1 (by omega) hf ?_
                show am_G _ M_X9_found _ 5 [some (.ref 41), some (.int (nI 1)), some (.int (nI a)), some (.int (nI b)), some (.int (nI 3)), none, none, none] [.ref 75] σ
                refine am_run 4 (pc' := 16) (ls' := [some (.ref 41), some (.int (nI 1)), some (.int (nI a)), some (.int (nI b)), some (.int (nI 3)), some (.ref 75), none, none]) (st' := [.int (nI a)]) (σ' := σ) rfl ?_
                refine am_invs (y := 141) (as := [.int (nI a)]) (rest := []) rfl rfl rfl rfl rfl rfl (Nat.le_of_ble_eq_true rfl) ?_
                refine c_sig1 (by omega) (by omega) ?_
                show am_G _ M_X9_found _ 19 [some (.ref 41), some (.int (nI 1)), some (.int (nI a)), some (.int (nI b)), some (.int (nI 3)), some (.ref 75), none, none] [.int (nI 1)] σ
                refine am_if (ty := 46) (tn := 22) rfl (by decide) rfl rfl (fun (h_1 : nI 1 = 0) => ?_) (fun (h_1 : ¬ (nI 1 = 0)) => ?_)
                · exact absurd h_1 (by decide)
                refine am_run 1 (pc' := 23) (ls' := [some (.ref 41), some (.int (nI 1)), some (.int (nI a)), some (.int (nI b)), some (.int (nI 3)), some (.ref 75), none, none]) (st' := [.int (nI b)]) (σ' := σ) rfl ?_
                refine am_invs (y := 141) (as := [.int (nI b)]) (rest := []) rfl rfl rfl rfl rfl rfl (Nat.le_of_ble_eq_true rfl) ?_
                refine c_sig1 (by omega) (by omega) ?_
                show am_G _ M_X9_found _ 26 [some (.ref 41), some (.int (nI 1)), some (.int (nI a)), some (.int (nI b)), some (.int (nI 3)), some (.ref 75), none, none] [.int (nI 1)] σ
                refine am_if (ty := 46) (tn := 29) rfl (by decide) rfl rfl (fun (h_2 : nI 1 = 0) => ?_) (fun (h_2 : ¬ (nI 1 = 0)) => ?_)
                · exact absurd h_2 (by decide)
                refine am_run 3 (pc' := 32) (ls' := [some (.ref 41), some (.int (nI 1)), some (.int (nI a)), some (.int (nI b)), some (.int (nI 3)), some (.ref 75), none, none]) (st' := [.int (nI a &&& nI b)]) (σ' := σ) rfl ?_
                refine am_top (v' := nI (a &&& b)) (nx_and _ _) ?_
                refine am_if (ty := 35) (tn := 46) rfl (by decide) rfl rfl (fun (h_3 : nI (a &&& b) = 0) => ?_) (fun (h_3 : ¬ (nI (a &&& b) = 0)) => ?_)
                rotate_left
                · have h_3 : ¬ (a &&& b = 0) := fun z => h_3 ((am_n0 (by omega)).mpr z)
                  omega
                have h_3 : a &&& b = 0 := (am_n0 (by omega)).mp h_3
                refine am_run 1 (pc' := 37) (ls' := [some (.ref 41), some (.int (nI 1)), some (.int (nI a)), some (.int (nI b)), some (.int (nI 3)), some (.ref 75), none, none]) (st' := [.int (nI 3)]) (σ' := σ) rfl ?_
                refine am_if (ty := 46) (tn := 40) rfl (by decide) rfl rfl (fun (h_4 : nI 3 < 0) => ?_) (fun (h_4 : ¬ (nI 3 < 0)) => ?_)
                · exact absurd h_4 (by decide)
                refine am_run 2 (pc' := 43) (ls' := [some (.ref 41), some (.int (nI 1)), some (.int (nI a)), some (.int (nI b)), some (.int (nI 3)), some (.ref 75), none, none]) (st' := [.int (nI 3), .int (nI 3)]) (σ' := σ) rfl ?_
                refine am_ic (ty := 46) (tn := 49) rfl (by decide) rfl rfl (fun (h_5 : nI 3 < nI 3) => ?_) (fun (h_5 : ¬ (nI 3 < nI 3)) => ?_)
                · exact absurd h_5 (by decide)
                refine am_run 1 (pc' := 51) (ls' := [some (.ref 41), some (.int (nI 1)), some (.int (nI a)), some (.int (nI b)), some (.int (nI 3)), some (.ref 75), none, none]) (st' := [.ref 75]) (σ' := σ) rfl ?_
                refine am_invv (y := 67) (b := 75) (as := []) (rest := []) rfl rfl rfl rfl rfl rfl rfl (Nat.le_of_ble_eq_true rfl) ?_
                refine am_enter' rfl rfl rfl (by omega) (ls := [some (.ref 75)]) rfl (fun d_6 hd_6 => ?_)
                refine am_run 2 (pc' := 4) (ls' := [some (.ref 75)]) (st' := [.int (σ.1 75 3)]) (σ' := σ) rfl ?_
                refine am_top (v' := nI s) a3 ?_
                refine am_reti rfl rfl ?_
                show am_G _ M_X9_found _ 54 [some (.ref 41), some (.int (nI 1)), some (.int (nI a)), some (.int (nI b)), some (.int (nI 3)), some (.ref 75), none, none] [.int (nI s)] σ
                refine am_if (ty := 57) (tn := 60) rfl (by decide) rfl rfl (fun (h_7 : nI s = 0) => ?_) (fun (h_7 : ¬ (nI s = 0)) => ?_)
                rotate_left
                · have h_7 : ¬ (s = 0) := fun z => h_7 ((am_n0 (by omega)).mpr z)
                  omega
                have h_7 : s = 0 := (am_n0 (by omega)).mp h_7
                refine am_run 1 (pc' := 59) (ls' := [some (.ref 41), some (.int (nI 1)), some (.int (nI a)), some (.int (nI b)), some (.int (nI 3)), some (.ref 75), none, none]) (st' := [.int (-1000003)]) (σ' := σ) rfl ?_
                refine am_reti rfl rfl ?_
                refine ⟨rfl, ?_⟩
                refine am_enter' (M := M_X10_found) rfl rfl rfl (by omega) (ls := [some (.ref 0), some (.int (nI 1)), some (.int (nI a)), some (.int (nI b)), some (.int (nI 3)), none, none]) rfl (fun d2 hd2 => ?_)
                refine am_run 2 (pc' := 2) (ls' := [some (.ref 0), some (.int (nI 1)), some (.int (nI a)), some (.int (nI b)), some (.int (nI 3)), none, none]) (st' := [.int (nI 1), .ref 0]) (σ' := σ) rfl ?_
                refine am_invv (y := 151) (b := 0) (as := [.int (nI 1)]) (rest := []) rfl rfl rfl rfl rfl rfl rfl (Nat.le_of_ble_eq_true rfl) ?_
                refine c_prog1_1 (by omega) (n := n) (by exact hn2) hn1 hn60 ?_
                show am_G _ M_X10_found _ 5 [some (.ref 0), some (.int (nI 1)), some (.int (nI a)), some (.int (nI b)), some (.int (nI 3)), none, none] [.int (nI 1)] σ
                refine am_if (ty := 8) (tn := 11) rfl (by decide) rfl rfl (fun (h_101 : nI 1 = 0) => ?_) (fun (h_101 : ¬ (nI 1 = 0)) => ?_)
                · exact absurd h_101 (by decide)
                refine am_run 3 (pc' := 16) (ls' := [some (.ref 0), some (.int (nI 1)), some (.int (nI a)), some (.int (nI b)), some (.int (nI 3)), none, none]) (st' := [.int (nI 255), .int (nI 0), .int (nI a)]) (σ' := σ) rfl ?_
                refine am_invs (y := 148) (as := [.int (nI a), .int (nI 0), .int (nI 255)]) (rest := []) rfl rfl rfl rfl rfl rfl (Nat.le_of_ble_eq_true rfl) ?_
                refine c_in1 (by omega) (by omega) (by omega) (by omega) ?_
                show am_G _ M_X10_found _ 19 [some (.ref 0), some (.int (nI 1)), some (.int (nI a)), some (.int (nI b)), some (.int (nI 3)), none, none] [.int (nI 1)] σ
                refine am_if (ty := 47) (tn := 22) rfl (by decide) rfl rfl (fun (h_102 : nI 1 = 0) => ?_) (fun (h_102 : ¬ (nI 1 = 0)) => ?_)
                · exact absurd h_102 (by decide)
                refine am_run 3 (pc' := 27) (ls' := [some (.ref 0), some (.int (nI 1)), some (.int (nI a)), some (.int (nI b)), some (.int (nI 3)), none, none]) (st' := [.int (nI 255), .int (nI 0), .int (nI b)]) (σ' := σ) rfl ?_
                refine am_invs (y := 148) (as := [.int (nI b), .int (nI 0), .int (nI 255)]) (rest := []) rfl rfl rfl rfl rfl rfl (Nat.le_of_ble_eq_true rfl) ?_
                refine c_in1 (by omega) (by omega) (by omega) (by omega) ?_
                show am_G _ M_X10_found _ 30 [some (.ref 0), some (.int (nI 1)), some (.int (nI a)), some (.int (nI b)), some (.int (nI 3)), none, none] [.int (nI 1)] σ
                refine am_if (ty := 47) (tn := 33) rfl (by decide) rfl rfl (fun (h_103 : nI 1 = 0) => ?_) (fun (h_103 : ¬ (nI 1 = 0)) => ?_)
                · exact absurd h_103 (by decide)
                refine am_run 3 (pc' := 37) (ls' := [some (.ref 0), some (.int (nI 1)), some (.int (nI a)), some (.int (nI b)), some (.int (nI 3)), none, none]) (st' := [.int (nI 3), .int (nI 0), .int (nI 3)]) (σ' := σ) rfl ?_
                refine am_invs (y := 148) (as := [.int (nI 3), .int (nI 0), .int (nI 3)]) (rest := []) rfl rfl rfl rfl rfl rfl (Nat.le_of_ble_eq_true rfl) ?_
                refine c_in1 (by omega) (by omega) (by omega) (by omega) ?_
                show am_G _ M_X10_found _ 40 [some (.ref 0), some (.int (nI 1)), some (.int (nI a)), some (.int (nI b)), some (.int (nI 3)), none, none] [.int (nI 1)] σ
                refine am_if (ty := 47) (tn := 43) rfl (by decide) rfl rfl (fun (h_104 : nI 1 = 0) => ?_) (fun (h_104 : ¬ (nI 1 = 0)) => ?_)
                · exact absurd h_104 (by decide)
                refine am_run 4 (pc' := 52) (ls' := [some (.ref 0), some (.int (nI 1)), some (.int (nI a)), some (.int (nI b)), some (.int (nI 3)), some (.int (nI 1)), none]) (st' := [.int (nI 1)]) (σ' := σ) rfl ?_
                refine am_if (ty := 61) (tn := 55) rfl (by decide) rfl rfl (fun (h_105 : nI 1 = 0) => ?_) (fun (h_105 : ¬ (nI 1 = 0)) => ?_)
                · exact absurd h_105 (by decide)
                refine am_run 3 (pc' := 58) (ls' := [some (.ref 0), some (.int (nI 1)), some (.int (nI a)), some (.int (nI b)), some (.int (nI 3)), some (.int (nI 1)), none]) (st' := [.int (nI a &&& nI b)]) (σ' := σ) rfl ?_
                refine am_top (v' := nI (a &&& b)) (nx_and _ _) ?_
                refine am_if (ty := 64) (tn := 61) rfl (by decide) rfl rfl (fun (h_106 : nI (a &&& b) = 0) => ?_) (fun (h_106 : ¬ (nI (a &&& b) = 0)) => ?_)
                rotate_left
                · have h_106 : ¬ (a &&& b = 0) := fun z => h_106 ((am_n0 (by omega)).mpr z)
                  omega
                have h_106 : a &&& b = 0 := (am_n0 (by omega)).mp h_106
                refine am_run 3 (pc' := 69) (ls' := [some (.ref 0), some (.int (nI 1)), some (.int (nI a)), some (.int (nI b)), some (.int (nI 3)), some (.int (nI 1)), none]) (st' := [.int (nI 1), .ref 17]) (σ' := σ) rfl ?_
                refine am_ialdN (n := 2) (v := nI s) rfl rfl rfl (by decide) b3 (by decide) ?_
                refine am_if (ty := 73) (tn := 77) rfl (by decide) rfl rfl (fun (h_107 : nI s = 0) => ?_) (fun (h_107 : ¬ (nI s = 0)) => ?_)
                rotate_left
                · have h_107 : ¬ (s = 0) := fun z => h_107 ((am_n0 (by omega)).mpr z)
                  omega
                have h_107 : s = 0 := (am_n0 (by omega)).mp h_107
                refine am_run 1 (pc' := 76) (ls' := [some (.ref 0), some (.int (nI 1)), some (.int (nI a)), some (.int (nI b)), some (.int (nI 3)), some (.int (nI 1)), none]) (st' := [.int (-1000003)]) (σ' := σ) rfl ?_
                refine am_reti rfl rfl ?_
                exact ⟨rfl, hI⟩
            · have hdj := dj_and hov
              rcases (show u2 = 0 ∨ u2 = 1 ∨ u2 = 2 ∨ u2 = 3 by omega) with rfl | rfl | rfl | rfl
              · skip
                refine ⟨nI (an p 61 (r + 1) s true a b).1, ?_⟩
                refine am_enter' (M := M_X9_found) rfl rfl rfl (by omega) (ls := [some (.ref 41), some (.int (nI 1)), some (.int (nI a)), some (.int (nI b)), some (.int (nI 0)), none, none, none]) rfl (fun d' hd' => ?_)
                refine am_run 2 (pc' := 2) (ls' := [some (.ref 41), some (.int (nI 1)), some (.int (nI a)), some (.int (nI b)), some (.int (nI 0)), none, none, none]) (st' := [.int (nI 1), .ref 41]) (σ' := σ) rfl ?_
                refine am_invv (y := 140) (b := 41) (as := [.int (nI 1)]) (rest := []) rfl rfl rfl rfl rfl rfl rfl (Nat.le_of_ble_eq_true rfl) ?_
                refine c_filled1_1 (by omega) hf ?_
                show am_G _ M_X9_found _ 5 [some (.ref 41), some (.int (nI 1)), some (.int (nI a)), some (.int (nI b)), some (.int (nI 0)), none, none, none] [.ref 75] σ
                refine am_run 4 (pc' := 16) (ls' := [some (.ref 41), some (.int (nI 1)), some (.int (nI a)), some (.int (nI b)), some (.int (nI 0)), some (.ref 75), none, none]) (st' := [.int (nI a)]) (σ' := σ) rfl ?_
                refine am_invs (y := 141) (as := [.int (nI a)]) (rest := []) rfl rfl rfl rfl rfl rfl (Nat.le_of_ble_eq_true rfl) ?_
                refine c_sig1 (by omega) (by omega) ?_
                show am_G _ M_X9_found _ 19 [some (.ref 41), some (.int (nI 1)), some (.int (nI a)), some (.int (nI b)), some (.int (nI 0)), some (.ref 75), none, none] [.int (nI 1)] σ
                refine am_if (ty := 46) (tn := 22) rfl (by decide) rfl rfl (fun (h_1 : nI 1 = 0) => ?_) (fun (h_1 : ¬ (nI 1 = 0)) => ?_)
                · exact absurd h_1 (by decide)
                refine am_run 1 (pc' := 23) (ls' := [some (.ref 41), some (.int (nI 1)), some (.int (nI a)), some (.int (nI b)), some (.int (nI 0)), some (.ref 75), none, none]) (st' := [.int (nI b)]) (σ' := σ) rfl ?_
                refine am_invs (y := 141) (as := [.int (nI b)]) (rest := []) rfl rfl rfl rfl rfl rfl (Nat.le_of_ble_eq_true rfl) ?_
                refine c_sig1 (by omega) (by omega) ?_
                show am_G _ M_X9_found _ 26 [some (.ref 41), some (.int (nI 1)), some (.int (nI a)), some (.int (nI b)), some (.int (nI 0)), some (.ref 75), none, none] [.int (nI 1)] σ
                refine am_if (ty := 46) (tn := 29) rfl (by decide) rfl rfl (fun (h_2 : nI 1 = 0) => ?_) (fun (h_2 : ¬ (nI 1 = 0)) => ?_)
                · exact absurd h_2 (by decide)
                refine am_run 3 (pc' := 32) (ls' := [some (.ref 41), some (.int (nI 1)), some (.int (nI a)), some (.int (nI b)), some (.int (nI 0)), some (.ref 75), none, none]) (st' := [.int (nI a &&& nI b)]) (σ' := σ) rfl ?_
                refine am_top (v' := nI (a &&& b)) (nx_and _ _) ?_
                refine am_if (ty := 35) (tn := 46) rfl (by decide) rfl rfl (fun (h_3 : nI (a &&& b) = 0) => ?_) (fun (h_3 : ¬ (nI (a &&& b) = 0)) => ?_)
                rotate_left
                · have h_3 : ¬ (a &&& b = 0) := fun z => h_3 ((am_n0 (by omega)).mpr z)
                  omega
                have h_3 : a &&& b = 0 := (am_n0 (by omega)).mp h_3
                refine am_run 1 (pc' := 37) (ls' := [some (.ref 41), some (.int (nI 1)), some (.int (nI a)), some (.int (nI b)), some (.int (nI 0)), some (.ref 75), none, none]) (st' := [.int (nI 0)]) (σ' := σ) rfl ?_
                refine am_if (ty := 46) (tn := 40) rfl (by decide) rfl rfl (fun (h_4 : nI 0 < 0) => ?_) (fun (h_4 : ¬ (nI 0 < 0)) => ?_)
                · exact absurd h_4 (by decide)
                refine am_run 2 (pc' := 43) (ls' := [some (.ref 41), some (.int (nI 1)), some (.int (nI a)), some (.int (nI b)), some (.int (nI 0)), some (.ref 75), none, none]) (st' := [.int (nI 3), .int (nI 0)]) (σ' := σ) rfl ?_
                refine am_ic (ty := 46) (tn := 49) rfl (by decide) rfl rfl (fun (h_5 : nI 3 < nI 0) => ?_) (fun (h_5 : ¬ (nI 3 < nI 0)) => ?_)
                · exact absurd h_5 (by decide)
                refine am_run 1 (pc' := 51) (ls' := [some (.ref 41), some (.int (nI 1)), some (.int (nI a)), some (.int (nI b)), some (.int (nI 0)), some (.ref 75), none, none]) (st' := [.ref 75]) (σ' := σ) rfl ?_
                refine am_invv (y := 67) (b := 75) (as := []) (rest := []) rfl rfl rfl rfl rfl rfl rfl (Nat.le_of_ble_eq_true rfl) ?_
                refine am_enter' rfl rfl rfl (by omega) (ls := [some (.ref 75)]) rfl (fun d_6 hd_6 => ?_)
                refine am_run 2 (pc' := 4) (ls' := [some (.ref 75)]) (st' := [.int (σ.1 75 3)]) (σ' := σ) rfl ?_
                refine am_top (v' := nI s) a3 ?_
                refine am_reti rfl rfl ?_
                show am_G _ M_X9_found _ 54 [some (.ref 41), some (.int (nI 1)), some (.int (nI a)), some (.int (nI b)), some (.int (nI 0)), some (.ref 75), none, none] [.int (nI s)] σ
                refine am_if (ty := 57) (tn := 60) rfl (by decide) rfl rfl (fun (h_7 : nI s = 0) => ?_) (fun (h_7 : ¬ (nI s = 0)) => ?_)
                · have h_7 : s = 0 := (am_n0 (by omega)).mp h_7
                  omega
                have h_7 : ¬ (s = 0) := fun z => h_7 ((am_n0 (by omega)).mpr z)
                refine am_run 1 (pc' := 62) (ls' := [some (.ref 41), some (.int (nI 1)), some (.int (nI a)), some (.int (nI b)), some (.int (nI 0)), some (.ref 75), none, none]) (st' := [.ref 75]) (σ' := σ) rfl ?_
                refine am_invv (y := 66) (b := 75) (as := []) (rest := []) rfl rfl rfl rfl rfl rfl rfl (Nat.le_of_ble_eq_true rfl) ?_
                refine am_enter' rfl rfl rfl (by omega) (ls := [some (.ref 75)]) rfl (fun d_8 hd_8 => ?_)
                refine am_run 2 (pc' := 4) (ls' := [some (.ref 75)]) (st' := [.ref (σ.2 75 1)]) (σ' := σ) rfl ?_
                refine am_reta rfl rfl (Or.inr ⟨_, rfl⟩) ?_
                show am_G _ M_X9_found _ 65 [some (.ref 41), some (.int (nI 1)), some (.int (nI a)), some (.int (nI b)), some (.int (nI 0)), some (.ref 75), none, none] [.ref (σ.2 75 1)] σ
                refine am_run 1 (pc' := 67) (ls' := [some (.ref 41), some (.int (nI 1)), some (.int (nI a)), some (.int (nI b)), some (.int (nI 0)), some (.ref 75), none, none]) (st' := [.ref 75, .ref (σ.2 75 1)]) (σ' := σ) rfl ?_
                refine am_invv (y := 67) (b := 75) (as := []) (rest := [.ref (σ.2 75 1)]) rfl rfl rfl rfl rfl rfl rfl (Nat.le_of_ble_eq_true rfl) ?_
                refine am_enter' rfl rfl rfl (by omega) (ls := [some (.ref 75)]) rfl (fun d_9 hd_9 => ?_)
                refine am_run 2 (pc' := 4) (ls' := [some (.ref 75)]) (st' := [.int (σ.1 75 3)]) (σ' := σ) rfl ?_
                refine am_top (v' := nI s) a3 ?_
                refine am_reti rfl rfl ?_
                show am_G _ M_X9_found _ 70 [some (.ref 41), some (.int (nI 1)), some (.int (nI a)), some (.int (nI b)), some (.int (nI 0)), some (.ref 75), none, none] [.int (nI s), .ref (σ.2 75 1)] σ
                refine am_run 2 (pc' := 72) (ls' := [some (.ref 41), some (.int (nI 1)), some (.int (nI a)), some (.int (nI b)), some (.int (nI 0)), some (.ref 75), none, none]) (st' := [.int (nI b), .int (nI a), .int (nI s), .ref (σ.2 75 1)]) (σ' := σ) rfl ?_
                refine am_invs (y := 2) (as := [.int (nI a), .int (nI b)]) (rest := [.int (nI s), .ref (σ.2 75 1)]) rfl rfl rfl rfl rfl rfl (Nat.le_of_ble_eq_true rfl) ?_
                refine c_a_knowledge (by omega) (a := a) (b := b) ha ?_
                show am_G _ M_X9_found _ 75 [some (.ref 41), some (.int (nI 1)), some (.int (nI a)), some (.int (nI b)), some (.int (nI 0)), some (.ref 75), none, none] [.int (nI (a + 256 * b)), .int (nI s), .ref (σ.2 75 1)] σ
                refine am_invs (y := 0) (as := [.ref (σ.2 75 1), .int (nI s), .int (nI (a + 256 * b))]) (rest := []) rfl rfl rfl rfl rfl rfl (Nat.le_of_ble_eq_true rfl) ?_
                refine c_a_ofProgram (by omega) hW hR (show r + 1 ≤ n by omega) hro hs ha hb (fun r1 hr1 ok1 => ?_)
                subst hr1
                show am_G _ M_X9_found _ 78 [some (.ref 41), some (.int (nI 1)), some (.int (nI a)), some (.int (nI b)), some (.int (nI 0)), some (.ref 75), none, none] [.int (nI (eC (an p 61 (r + 1) s true a b)))] σ
                refine am_run 2 (pc' := 82) (ls' := [some (.ref 41), some (.int (nI 1)), some (.int (nI a)), some (.int (nI b)), some (.int (nI 0)), some (.ref 75), some (.int (nI (eC (an p 61 (r + 1) s true a b)))), none]) (st' := [.int (nI 0)]) (σ' := σ) rfl ?_
                refine am_if (ty := 91) (tn := 85) rfl (by decide) rfl rfl (fun (h_10 : nI 0 = 0) => ?_) (fun (h_10 : ¬ (nI 0 = 0)) => ?_)
                rotate_left
                · exact absurd (by decide) h_10
                refine am_run 1 (pc' := 93) (ls' := [some (.ref 41), some (.int (nI 1)), some (.int (nI a)), some (.int (nI b)), some (.int (nI 0)), some (.ref 75), some (.int (nI (eC (an p 61 (r + 1) s true a b)))), none]) (st' := [.int (nI (eC (an p 61 (r + 1) s true a b)))]) (σ' := σ) rfl ?_
                refine am_invs (y := 3) (as := [.int (nI (eC (an p 61 (r + 1) s true a b)))]) (rest := []) rfl rfl rfl rfl rfl rfl (Nat.le_of_ble_eq_true rfl) ?_
                refine c_a_must (by omega) ok1 ?_
                show am_G _ M_X9_found _ 96 [some (.ref 41), some (.int (nI 1)), some (.int (nI a)), some (.int (nI b)), some (.int (nI 0)), some (.ref 75), some (.int (nI (eC (an p 61 (r + 1) s true a b)))), none] [.int (nI ((an p 61 (r + 1) s true a b).1 + 256 * (an p 61 (r + 1) s true a b).2.2.1))] σ
                refine am_run 4 (pc' := 109) (ls' := [some (.ref 41), some (.int (nI 1)), some (.int (nI a)), some (.int (nI b)), some (.int (nI 0)), some (.ref 75), some (.int (nI (eC (an p 61 (r + 1) s true a b)))), some (.int (nI ((an p 61 (r + 1) s true a b).1 + 256 * (an p 61 (r + 1) s true a b).2.2.1)))]) (st' := [.int (nI 2), .int (nI 0)]) (σ' := σ) rfl ?_
                refine am_ic (ty := 112) (tn := 120) rfl (by decide) rfl rfl (fun (h_11 : nI 0 < nI 2) => ?_) (fun (h_11 : ¬ (nI 0 < nI 2)) => ?_)
                rotate_left
                · exact absurd (by decide) h_11
                refine am_run 1 (pc' := 114) (ls' := [some (.ref 41), some (.int (nI 1)), some (.int (nI a)), some (.int (nI b)), some (.int (nI 0)), some (.ref 75), some (.int (nI (eC (an p 61 (r + 1) s true a b)))), some (.int (nI ((an p 61 (r + 1) s true a b).1 + 256 * (an p 61 (r + 1) s true a b).2.2.1)))]) (st' := [.int (nI ((an p 61 (r + 1) s true a b).1 + 256 * (an p 61 (r + 1) s true a b).2.2.1))]) (σ' := σ) rfl ?_
                refine am_invs (y := 5) (as := [.int (nI ((an p 61 (r + 1) s true a b).1 + 256 * (an p 61 (r + 1) s true a b).2.2.1))]) (rest := []) rfl rfl rfl rfl rfl rfl (Nat.le_of_ble_eq_true rfl) ?_
                refine c_a_signals (by omega) ok1.1 ?_
                show am_G _ M_X9_found _ 117 [some (.ref 41), some (.int (nI 1)), some (.int (nI a)), some (.int (nI b)), some (.int (nI 0)), some (.ref 75), some (.int (nI (eC (an p 61 (r + 1) s true a b)))), some (.int (nI ((an p 61 (r + 1) s true a b).1 + 256 * (an p 61 (r + 1) s true a b).2.2.1)))] [.int (nI ((an p 61 (r + 1) s true a b).1))] σ
                refine am_run 1 (pc' := 125) (ls' := [some (.ref 41), some (.int (nI 1)), some (.int (nI a)), some (.int (nI b)), some (.int (nI 0)), some (.ref 75), some (.int (nI (eC (an p 61 (r + 1) s true a b)))), some (.int (nI ((an p 61 (r + 1) s true a b).1 + 256 * (an p 61 (r + 1) s true a b).2.2.1)))]) (st' := [.int (nI ((an p 61 (r + 1) s true a b).1))]) (σ' := σ) rfl ?_
                refine am_reti rfl rfl ?_
                refine ⟨rfl, ?_⟩
                refine am_enter' (M := M_X10_found) rfl rfl rfl (by omega) (ls := [some (.ref 0), some (.int (nI 1)), some (.int (nI a)), some (.int (nI b)), some (.int (nI 0)), none, none]) rfl (fun d2 hd2 => ?_)
                refine am_run 2 (pc' := 2) (ls' := [some (.ref 0), some (.int (nI 1)), some (.int (nI a)), some (.int (nI b)), some (.int (nI 0)), none, none]) (st' := [.int (nI 1), .ref 0]) (σ' := σ) rfl ?_
                refine am_invv (y := 151) (b := 0) (as := [.int (nI 1)]) (rest := []) rfl rfl rfl rfl rfl rfl rfl (Nat.le_of_ble_eq_true rfl) ?_
                refine c_prog1_1 (by omega) (n := n) (by exact hn2) hn1 hn60 ?_
                show am_G _ M_X10_found _ 5 [some (.ref 0), some (.int (nI 1)), some (.int (nI a)), some (.int (nI b)), some (.int (nI 0)), none, none] [.int (nI 1)] σ
                refine am_if (ty := 8) (tn := 11) rfl (by decide) rfl rfl (fun (h_101 : nI 1 = 0) => ?_) (fun (h_101 : ¬ (nI 1 = 0)) => ?_)
                · exact absurd h_101 (by decide)
                refine am_run 3 (pc' := 16) (ls' := [some (.ref 0), some (.int (nI 1)), some (.int (nI a)), some (.int (nI b)), some (.int (nI 0)), none, none]) (st' := [.int (nI 255), .int (nI 0), .int (nI a)]) (σ' := σ) rfl ?_
                refine am_invs (y := 148) (as := [.int (nI a), .int (nI 0), .int (nI 255)]) (rest := []) rfl rfl rfl rfl rfl rfl (Nat.le_of_ble_eq_true rfl) ?_
                refine c_in1 (by omega) (by omega) (by omega) (by omega) ?_
                show am_G _ M_X10_found _ 19 [some (.ref 0), some (.int (nI 1)), some (.int (nI a)), some (.int (nI b)), some (.int (nI 0)), none, none] [.int (nI 1)] σ
                refine am_if (ty := 47) (tn := 22) rfl (by decide) rfl rfl (fun (h_102 : nI 1 = 0) => ?_) (fun (h_102 : ¬ (nI 1 = 0)) => ?_)
                · exact absurd h_102 (by decide)
                refine am_run 3 (pc' := 27) (ls' := [some (.ref 0), some (.int (nI 1)), some (.int (nI a)), some (.int (nI b)), some (.int (nI 0)), none, none]) (st' := [.int (nI 255), .int (nI 0), .int (nI b)]) (σ' := σ) rfl ?_
                refine am_invs (y := 148) (as := [.int (nI b), .int (nI 0), .int (nI 255)]) (rest := []) rfl rfl rfl rfl rfl rfl (Nat.le_of_ble_eq_true rfl) ?_
                refine c_in1 (by omega) (by omega) (by omega) (by omega) ?_
                show am_G _ M_X10_found _ 30 [some (.ref 0), some (.int (nI 1)), some (.int (nI a)), some (.int (nI b)), some (.int (nI 0)), none, none] [.int (nI 1)] σ
                refine am_if (ty := 47) (tn := 33) rfl (by decide) rfl rfl (fun (h_103 : nI 1 = 0) => ?_) (fun (h_103 : ¬ (nI 1 = 0)) => ?_)
                · exact absurd h_103 (by decide)
                refine am_run 3 (pc' := 37) (ls' := [some (.ref 0), some (.int (nI 1)), some (.int (nI a)), some (.int (nI b)), some (.int (nI 0)), none, none]) (st' := [.int (nI 3), .int (nI 0), .int (nI 0)]) (σ' := σ) rfl ?_
                refine am_invs (y := 148) (as := [.int (nI 0), .int (nI 0), .int (nI 3)]) (rest := []) rfl rfl rfl rfl rfl rfl (Nat.le_of_ble_eq_true rfl) ?_
                refine c_in1 (by omega) (by omega) (by omega) (by omega) ?_
                show am_G _ M_X10_found _ 40 [some (.ref 0), some (.int (nI 1)), some (.int (nI a)), some (.int (nI b)), some (.int (nI 0)), none, none] [.int (nI 1)] σ
                refine am_if (ty := 47) (tn := 43) rfl (by decide) rfl rfl (fun (h_104 : nI 1 = 0) => ?_) (fun (h_104 : ¬ (nI 1 = 0)) => ?_)
                · exact absurd h_104 (by decide)
                refine am_run 4 (pc' := 52) (ls' := [some (.ref 0), some (.int (nI 1)), some (.int (nI a)), some (.int (nI b)), some (.int (nI 0)), some (.int (nI 1)), none]) (st' := [.int (nI 1)]) (σ' := σ) rfl ?_
                refine am_if (ty := 61) (tn := 55) rfl (by decide) rfl rfl (fun (h_105 : nI 1 = 0) => ?_) (fun (h_105 : ¬ (nI 1 = 0)) => ?_)
                · exact absurd h_105 (by decide)
                refine am_run 3 (pc' := 58) (ls' := [some (.ref 0), some (.int (nI 1)), some (.int (nI a)), some (.int (nI b)), some (.int (nI 0)), some (.int (nI 1)), none]) (st' := [.int (nI a &&& nI b)]) (σ' := σ) rfl ?_
                refine am_top (v' := nI (a &&& b)) (nx_and _ _) ?_
                refine am_if (ty := 64) (tn := 61) rfl (by decide) rfl rfl (fun (h_106 : nI (a &&& b) = 0) => ?_) (fun (h_106 : ¬ (nI (a &&& b) = 0)) => ?_)
                rotate_left
                · have h_106 : ¬ (a &&& b = 0) := fun z => h_106 ((am_n0 (by omega)).mpr z)
                  omega
                have h_106 : a &&& b = 0 := (am_n0 (by omega)).mp h_106
                refine am_run 3 (pc' := 69) (ls' := [some (.ref 0), some (.int (nI 1)), some (.int (nI a)), some (.int (nI b)), some (.int (nI 0)), some (.int (nI 1)), none]) (st' := [.int (nI 1), .ref 17]) (σ' := σ) rfl ?_
                refine am_ialdN (n := 2) (v := nI s) rfl rfl rfl (by decide) b3 (by decide) ?_
                refine am_if (ty := 73) (tn := 77) rfl (by decide) rfl rfl (fun (h_107 : nI s = 0) => ?_) (fun (h_107 : ¬ (nI s = 0)) => ?_)
                · have h_107 : s = 0 := (am_n0 (by omega)).mp h_107
                  omega
                have h_107 : ¬ (s = 0) := fun z => h_107 ((am_n0 (by omega)).mpr z)
                refine am_run 2 (pc' := 80) (ls' := [some (.ref 0), some (.int (nI 1)), some (.int (nI a)), some (.int (nI b)), some (.int (nI 0)), some (.int (nI 1)), some (.int (nI 0))]) (st' := []) (σ' := σ) rfl ?_
                refine c_found_loop (by omega) ha hb (fun σ3 h1 h2 i29 => ?_) 8 0 _ rfl (fun _ _ => rfl) rfl (fun g z => absurd z (Nat.not_lt_zero _))
                have hM3 := hM.keep2 (σ' := σ3) (fun c a => h1 c (by omega))
                have b33 : σ3.1 17 1 = nI s := by rw [h1 17 (by decide)]; exact b3
                refine am_run 5 (pc' := 134) (ls' := [some (.ref 0), some (.int (nI 1)), some (.int (nI a)), some (.int (nI b)), some (.int (nI 0)), some (.int (nI 1)), some (.int (nI 8))]) (st' := [.int (nI 1), .ref 17, .int (nI 1), .ref 0]) (σ' := σ3) rfl ?_
                refine am_ialdN (n := 2) (v := nI s) rfl rfl rfl (by decide) b33 (by decide) ?_
                refine am_invv (y := 209) (b := 0) (as := [.int (nI 1), .int (nI s)]) (rest := []) rfl rfl rfl rfl rfl rfl rfl (Nat.le_of_ble_eq_true rfl) ?_
                refine c_lays (by omega) hM3.1 hs i29 hdj ha hb (fun σ4 hL hB hT => ?_)
                show am_G _ M_X10_found _ 138 [some (.ref 0), some (.int (nI 1)), some (.int (nI a)), some (.int (nI b)), some (.int (nI 0)), some (.int (nI 1)), some (.int (nI 8))] [] σ4
                refine am_run 1 (pc' := 139) (ls' := [some (.ref 0), some (.int (nI 1)), some (.int (nI a)), some (.int (nI b)), some (.int (nI 0)), some (.int (nI 1)), some (.int (nI 8))]) (st' := [.ref 0]) (σ' := σ4) rfl ?_
                refine am_invv (y := 211) (b := 0) (as := []) (rest := []) rfl rfl rfl rfl rfl rfl rfl (Nat.le_of_ble_eq_true rfl) ?_
                refine c_m_whole (by omega) hB (by rw [hL.1 4 (by decide) (by decide)]; exact hM3.2.1.1) hrn hM.2.1.2.2 (hT r hrn 0 (Nat.pow_pos (by decide))) (hv.2.resolve_left hs0) ?_
                show am_G _ M_X10_found _ 142 [some (.ref 0), some (.int (nI 1)), some (.int (nI a)), some (.int (nI b)), some (.int (nI 0)), some (.int (nI 1)), some (.int (nI 8))] [.int (nI (eM (an p 61 (r + 1) s true a b)))] σ4
                refine am_run 2 (pc' := 146) (ls' := [some (.ref 0), some (.int (nI 1)), some (.int (nI a)), some (.int (nI b)), some (.int (nI 0)), some (.int (nI 1)), some (.int (nI (eM (an p 61 (r + 1) s true a b))))]) (st' := [.int (nI 0)]) (σ' := σ4) rfl ?_
                refine am_if (ty := 149) (tn := 157) rfl (by decide) rfl rfl (fun (h_301 : nI 0 = 0) => ?_) (fun (h_301 : ¬ (nI 0 = 0)) => ?_)
                rotate_left
                · exact absurd (by decide) h_301
                refine am_run 1 (pc' := 151) (ls' := [some (.ref 0), some (.int (nI 1)), some (.int (nI a)), some (.int (nI b)), some (.int (nI 0)), some (.int (nI 1)), some (.int (nI (eM (an p 61 (r + 1) s true a b))))]) (st' := [.int (nI (eM (an p 61 (r + 1) s true a b)))]) (σ' := σ4) rfl ?_
                refine am_invs (y := 185) (as := [.int (nI (eM (an p 61 (r + 1) s true a b)))]) (rest := []) rfl rfl rfl rfl rfl rfl (Nat.le_of_ble_eq_true rfl) ?_
                refine c_m_must (by omega) (r := (an p 61 (r + 1) s true a b)) ok2 ?_
                show am_G _ M_X10_found _ 154 [some (.ref 0), some (.int (nI 1)), some (.int (nI a)), some (.int (nI b)), some (.int (nI 0)), some (.int (nI 1)), some (.int (nI (eM (an p 61 (r + 1) s true a b))))] [.int (nI ((an p 61 (r + 1) s true a b).1))] σ4
                refine am_run 1 (pc' := 190) (ls' := [some (.ref 0), some (.int (nI 1)), some (.int (nI a)), some (.int (nI b)), some (.int (nI 0)), some (.int (nI 1)), some (.int (nI (eM (an p 61 (r + 1) s true a b))))]) (st' := [.int (nI ((an p 61 (r + 1) s true a b).1))]) (σ' := σ4) rfl ?_
                refine am_reti rfl rfl ?_
                exact ⟨rfl, (((KS.of29 h1 h2).tr hL.KS).KI).inv hI⟩
              · skip
                refine ⟨nI (an p 61 (r + 1) s true a b).2.1, ?_⟩
                refine am_enter' (M := M_X9_found) rfl rfl rfl (by omega) (ls := [some (.ref 41), some (.int (nI 1)), some (.int (nI a)), some (.int (nI b)), some (.int (nI 1)), none, none, none]) rfl (fun d' hd' => ?_)
                refine am_run 2 (pc' := 2) (ls' := [some (.ref 41), some (.int (nI 1)), some (.int (nI a)), some (.int (nI b)), some (.int (nI 1)), none, none, none]) (st' := [.int (nI 1), .ref 41]) (σ' := σ) rfl ?_
                refine am_invv (y := 140) (b := 41) (as := [.int (nI 1)]) (rest := []) rfl rfl rfl rfl rfl rfl rfl (Nat.le_of_ble_eq_true rfl) ?_
                refine c_filled1_1 (by omega) hf ?_
                show am_G _ M_X9_found _ 5 [some (.ref 41), some (.int (nI 1)), some (.int (nI a)), some (.int (nI b)), some (.int (nI 1)), none, none, none] [.ref 75] σ
                refine am_run 4 (pc' := 16) (ls' := [some (.ref 41), some (.int (nI 1)), some (.int (nI a)), some (.int (nI b)), some (.int (nI 1)), some (.ref 75), none, none]) (st' := [.int (nI a)]) (σ' := σ) rfl ?_
                refine am_invs (y := 141) (as := [.int (nI a)]) (rest := []) rfl rfl rfl rfl rfl rfl (Nat.le_of_ble_eq_true rfl) ?_
                refine c_sig1 (by omega) (by omega) ?_
                show am_G _ M_X9_found _ 19 [some (.ref 41), some (.int (nI 1)), some (.int (nI a)), some (.int (nI b)), some (.int (nI 1)), some (.ref 75), none, none] [.int (nI 1)] σ
                refine am_if (ty := 46) (tn := 22) rfl (by decide) rfl rfl (fun (h_1 : nI 1 = 0) => ?_) (fun (h_1 : ¬ (nI 1 = 0)) => ?_)
                · exact absurd h_1 (by decide)
                refine am_run 1 (pc' := 23) (ls' := [some (.ref 41), some (.int (nI 1)), some (.int (nI a)), some (.int (nI b)), some (.int (nI 1)), some (.ref 75), none, none]) (st' := [.int (nI b)]) (σ' := σ) rfl ?_
                refine am_invs (y := 141) (as := [.int (nI b)]) (rest := []) rfl rfl rfl rfl rfl rfl (Nat.le_of_ble_eq_true rfl) ?_
                refine c_sig1 (by omega) (by omega) ?_
                show am_G _ M_X9_found _ 26 [some (.ref 41), some (.int (nI 1)), some (.int (nI a)), some (.int (nI b)), some (.int (nI 1)), some (.ref 75), none, none] [.int (nI 1)] σ
                refine am_if (ty := 46) (tn := 29) rfl (by decide) rfl rfl (fun (h_2 : nI 1 = 0) => ?_) (fun (h_2 : ¬ (nI 1 = 0)) => ?_)
                · exact absurd h_2 (by decide)
                refine am_run 3 (pc' := 32) (ls' := [some (.ref 41), some (.int (nI 1)), some (.int (nI a)), some (.int (nI b)), some (.int (nI 1)), some (.ref 75), none, none]) (st' := [.int (nI a &&& nI b)]) (σ' := σ) rfl ?_
                refine am_top (v' := nI (a &&& b)) (nx_and _ _) ?_
                refine am_if (ty := 35) (tn := 46) rfl (by decide) rfl rfl (fun (h_3 : nI (a &&& b) = 0) => ?_) (fun (h_3 : ¬ (nI (a &&& b) = 0)) => ?_)
                rotate_left
                · have h_3 : ¬ (a &&& b = 0) := fun z => h_3 ((am_n0 (by omega)).mpr z)
                  omega
                have h_3 : a &&& b = 0 := (am_n0 (by omega)).mp h_3
                refine am_run 1 (pc' := 37) (ls' := [some (.ref 41), some (.int (nI 1)), some (.int (nI a)), some (.int (nI b)), some (.int (nI 1)), some (.ref 75), none, none]) (st' := [.int (nI 1)]) (σ' := σ) rfl ?_
                refine am_if (ty := 46) (tn := 40) rfl (by decide) rfl rfl (fun (h_4 : nI 1 < 0) => ?_) (fun (h_4 : ¬ (nI 1 < 0)) => ?_)
                · exact absurd h_4 (by decide)
                refine am_run 2 (pc' := 43) (ls' := [some (.ref 41), some (.int (nI 1)), some (.int (nI a)), some (.int (nI b)), some (.int (nI 1)), some (.ref 75), none, none]) (st' := [.int (nI 3), .int (nI 1)]) (σ' := σ) rfl ?_
                refine am_ic (ty := 46) (tn := 49) rfl (by decide) rfl rfl (fun (h_5 : nI 3 < nI 1) => ?_) (fun (h_5 : ¬ (nI 3 < nI 1)) => ?_)
                · exact absurd h_5 (by decide)
                refine am_run 1 (pc' := 51) (ls' := [some (.ref 41), some (.int (nI 1)), some (.int (nI a)), some (.int (nI b)), some (.int (nI 1)), some (.ref 75), none, none]) (st' := [.ref 75]) (σ' := σ) rfl ?_
                refine am_invv (y := 67) (b := 75) (as := []) (rest := []) rfl rfl rfl rfl rfl rfl rfl (Nat.le_of_ble_eq_true rfl) ?_
                refine am_enter' rfl rfl rfl (by omega) (ls := [some (.ref 75)]) rfl (fun d_6 hd_6 => ?_)
                refine am_run 2 (pc' := 4) (ls' := [some (.ref 75)]) (st' := [.int (σ.1 75 3)]) (σ' := σ) rfl ?_
                refine am_top (v' := nI s) a3 ?_
                refine am_reti rfl rfl ?_
                show am_G _ M_X9_found _ 54 [some (.ref 41), some (.int (nI 1)), some (.int (nI a)), some (.int (nI b)), some (.int (nI 1)), some (.ref 75), none, none] [.int (nI s)] σ
                refine am_if (ty := 57) (tn := 60) rfl (by decide) rfl rfl (fun (h_7 : nI s = 0) => ?_) (fun (h_7 : ¬ (nI s = 0)) => ?_)
                · have h_7 : s = 0 := (am_n0 (by omega)).mp h_7
                  omega
                have h_7 : ¬ (s = 0) := fun z => h_7 ((am_n0 (by omega)).mpr z)
                refine am_run 1 (pc' := 62) (ls' := [some (.ref 41), some (.int (nI 1)), some (.int (nI a)), some (.int (nI b)), some (.int (nI 1)), some (.ref 75), none, none]) (st' := [.ref 75]) (σ' := σ) rfl ?_
                refine am_invv (y := 66) (b := 75) (as := []) (rest := []) rfl rfl rfl rfl rfl rfl rfl (Nat.le_of_ble_eq_true rfl) ?_
                refine am_enter' rfl rfl rfl (by omega) (ls := [some (.ref 75)]) rfl (fun d_8 hd_8 => ?_)
                refine am_run 2 (pc' := 4) (ls' := [some (.ref 75)]) (st' := [.ref (σ.2 75 1)]) (σ' := σ) rfl ?_
                refine am_reta rfl rfl (Or.inr ⟨_, rfl⟩) ?_
                show am_G _ M_X9_found _ 65 [some (.ref 41), some (.int (nI 1)), some (.int (nI a)), some (.int (nI b)), some (.int (nI 1)), some (.ref 75), none, none] [.ref (σ.2 75 1)] σ
                refine am_run 1 (pc' := 67) (ls' := [some (.ref 41), some (.int (nI 1)), some (.int (nI a)), some (.int (nI b)), some (.int (nI 1)), some (.ref 75), none, none]) (st' := [.ref 75, .ref (σ.2 75 1)]) (σ' := σ) rfl ?_
                refine am_invv (y := 67) (b := 75) (as := []) (rest := [.ref (σ.2 75 1)]) rfl rfl rfl rfl rfl rfl rfl (Nat.le_of_ble_eq_true rfl) ?_
                refine am_enter' rfl rfl rfl (by omega) (ls := [some (.ref 75)]) rfl (fun d_9 hd_9 => ?_)
                refine am_run 2 (pc' := 4) (ls' := [some (.ref 75)]) (st' := [.int (σ.1 75 3)]) (σ' := σ) rfl ?_
                refine am_top (v' := nI s) a3 ?_
                refine am_reti rfl rfl ?_
                show am_G _ M_X9_found _ 70 [some (.ref 41), some (.int (nI 1)), some (.int (nI a)), some (.int (nI b)), some (.int (nI 1)), some (.ref 75), none, none] [.int (nI s), .ref (σ.2 75 1)] σ
                refine am_run 2 (pc' := 72) (ls' := [some (.ref 41), some (.int (nI 1)), some (.int (nI a)), some (.int (nI b)), some (.int (nI 1)), some (.ref 75), none, none]) (st' := [.int (nI b), .int (nI a), .int (nI s), .ref (σ.2 75 1)]) (σ' := σ) rfl ?_
                refine am_invs (y := 2) (as := [.int (nI a), .int (nI b)]) (rest := [.int (nI s), .ref (σ.2 75 1)]) rfl rfl rfl rfl rfl rfl (Nat.le_of_ble_eq_true rfl) ?_
                refine c_a_knowledge (by omega) (a := a) (b := b) ha ?_
                show am_G _ M_X9_found _ 75 [some (.ref 41), some (.int (nI 1)), some (.int (nI a)), some (.int (nI b)), some (.int (nI 1)), some (.ref 75), none, none] [.int (nI (a + 256 * b)), .int (nI s), .ref (σ.2 75 1)] σ
                refine am_invs (y := 0) (as := [.ref (σ.2 75 1), .int (nI s), .int (nI (a + 256 * b))]) (rest := []) rfl rfl rfl rfl rfl rfl (Nat.le_of_ble_eq_true rfl) ?_
                refine c_a_ofProgram (by omega) hW hR (show r + 1 ≤ n by omega) hro hs ha hb (fun r1 hr1 ok1 => ?_)
                subst hr1
                show am_G _ M_X9_found _ 78 [some (.ref 41), some (.int (nI 1)), some (.int (nI a)), some (.int (nI b)), some (.int (nI 1)), some (.ref 75), none, none] [.int (nI (eC (an p 61 (r + 1) s true a b)))] σ
                refine am_run 2 (pc' := 82) (ls' := [some (.ref 41), some (.int (nI 1)), some (.int (nI a)), some (.int (nI b)), some (.int (nI 1)), some (.ref 75), some (.int (nI (eC (an p 61 (r + 1) s true a b)))), none]) (st' := [.int (nI 1)]) (σ' := σ) rfl ?_
                refine am_if (ty := 91) (tn := 85) rfl (by decide) rfl rfl (fun (h_10 : nI 1 = 0) => ?_) (fun (h_10 : ¬ (nI 1 = 0)) => ?_)
                · exact absurd h_10 (by decide)
                refine am_run 2 (pc' := 88) (ls' := [some (.ref 41), some (.int (nI 1)), some (.int (nI a)), some (.int (nI b)), some (.int (nI 1)), some (.ref 75), some (.int (nI (eC (an p 61 (r + 1) s true a b)))), none]) (st' := [.int (nI 2), .int (nI 1)]) (σ' := σ) rfl ?_
                refine am_ic (ty := 91) (tn := 99) rfl (by decide) rfl rfl (fun (h_11 : nI 1 = nI 2) => ?_) (fun (h_11 : ¬ (nI 1 = nI 2)) => ?_)
                · exact absurd h_11 (by decide)
                refine am_run 1 (pc' := 101) (ls' := [some (.ref 41), some (.int (nI 1)), some (.int (nI a)), some (.int (nI b)), some (.int (nI 1)), some (.ref 75), some (.int (nI (eC (an p 61 (r + 1) s true a b)))), none]) (st' := [.int (nI (eC (an p 61 (r + 1) s true a b)))]) (σ' := σ) rfl ?_
                refine am_invs (y := 4) (as := [.int (nI (eC (an p 61 (r + 1) s true a b)))]) (rest := []) rfl rfl rfl rfl rfl rfl (Nat.le_of_ble_eq_true rfl) ?_
                refine c_a_can (by omega) ok1 ?_
                show am_G _ M_X9_found _ 104 [some (.ref 41), some (.int (nI 1)), some (.int (nI a)), some (.int (nI b)), some (.int (nI 1)), some (.ref 75), some (.int (nI (eC (an p 61 (r + 1) s true a b)))), none] [.int (nI ((an p 61 (r + 1) s true a b).2.1 + 256 * (an p 61 (r + 1) s true a b).2.2.2))] σ
                refine am_run 3 (pc' := 109) (ls' := [some (.ref 41), some (.int (nI 1)), some (.int (nI a)), some (.int (nI b)), some (.int (nI 1)), some (.ref 75), some (.int (nI (eC (an p 61 (r + 1) s true a b)))), some (.int (nI ((an p 61 (r + 1) s true a b).2.1 + 256 * (an p 61 (r + 1) s true a b).2.2.2)))]) (st' := [.int (nI 2), .int (nI 1)]) (σ' := σ) rfl ?_
                refine am_ic (ty := 112) (tn := 120) rfl (by decide) rfl rfl (fun (h_12 : nI 1 < nI 2) => ?_) (fun (h_12 : ¬ (nI 1 < nI 2)) => ?_)
                rotate_left
                · exact absurd (by decide) h_12
                refine am_run 1 (pc' := 114) (ls' := [some (.ref 41), some (.int (nI 1)), some (.int (nI a)), some (.int (nI b)), some (.int (nI 1)), some (.ref 75), some (.int (nI (eC (an p 61 (r + 1) s true a b)))), some (.int (nI ((an p 61 (r + 1) s true a b).2.1 + 256 * (an p 61 (r + 1) s true a b).2.2.2)))]) (st' := [.int (nI ((an p 61 (r + 1) s true a b).2.1 + 256 * (an p 61 (r + 1) s true a b).2.2.2))]) (σ' := σ) rfl ?_
                refine am_invs (y := 5) (as := [.int (nI ((an p 61 (r + 1) s true a b).2.1 + 256 * (an p 61 (r + 1) s true a b).2.2.2))]) (rest := []) rfl rfl rfl rfl rfl rfl (Nat.le_of_ble_eq_true rfl) ?_
                refine c_a_signals (by omega) ok1.2.1 ?_
                show am_G _ M_X9_found _ 117 [some (.ref 41), some (.int (nI 1)), some (.int (nI a)), some (.int (nI b)), some (.int (nI 1)), some (.ref 75), some (.int (nI (eC (an p 61 (r + 1) s true a b)))), some (.int (nI ((an p 61 (r + 1) s true a b).2.1 + 256 * (an p 61 (r + 1) s true a b).2.2.2)))] [.int (nI ((an p 61 (r + 1) s true a b).2.1))] σ
                refine am_run 1 (pc' := 125) (ls' := [some (.ref 41), some (.int (nI 1)), some (.int (nI a)), some (.int (nI b)), some (.int (nI 1)), some (.ref 75), some (.int (nI (eC (an p 61 (r + 1) s true a b)))), some (.int (nI ((an p 61 (r + 1) s true a b).2.1 + 256 * (an p 61 (r + 1) s true a b).2.2.2)))]) (st' := [.int (nI ((an p 61 (r + 1) s true a b).2.1))]) (σ' := σ) rfl ?_
                refine am_reti rfl rfl ?_
                refine ⟨rfl, ?_⟩
                refine am_enter' (M := M_X10_found) rfl rfl rfl (by omega) (ls := [some (.ref 0), some (.int (nI 1)), some (.int (nI a)), some (.int (nI b)), some (.int (nI 1)), none, none]) rfl (fun d2 hd2 => ?_)
                refine am_run 2 (pc' := 2) (ls' := [some (.ref 0), some (.int (nI 1)), some (.int (nI a)), some (.int (nI b)), some (.int (nI 1)), none, none]) (st' := [.int (nI 1), .ref 0]) (σ' := σ) rfl ?_
                refine am_invv (y := 151) (b := 0) (as := [.int (nI 1)]) (rest := []) rfl rfl rfl rfl rfl rfl rfl (Nat.le_of_ble_eq_true rfl) ?_
                refine c_prog1_1 (by omega) (n := n) (by exact hn2) hn1 hn60 ?_
                show am_G _ M_X10_found _ 5 [some (.ref 0), some (.int (nI 1)), some (.int (nI a)), some (.int (nI b)), some (.int (nI 1)), none, none] [.int (nI 1)] σ
                refine am_if (ty := 8) (tn := 11) rfl (by decide) rfl rfl (fun (h_101 : nI 1 = 0) => ?_) (fun (h_101 : ¬ (nI 1 = 0)) => ?_)
                · exact absurd h_101 (by decide)
                refine am_run 3 (pc' := 16) (ls' := [some (.ref 0), some (.int (nI 1)), some (.int (nI a)), some (.int (nI b)), some (.int (nI 1)), none, none]) (st' := [.int (nI 255), .int (nI 0), .int (nI a)]) (σ' := σ) rfl ?_
                refine am_invs (y := 148) (as := [.int (nI a), .int (nI 0), .int (nI 255)]) (rest := []) rfl rfl rfl rfl rfl rfl (Nat.le_of_ble_eq_true rfl) ?_
                refine c_in1 (by omega) (by omega) (by omega) (by omega) ?_
                show am_G _ M_X10_found _ 19 [some (.ref 0), some (.int (nI 1)), some (.int (nI a)), some (.int (nI b)), some (.int (nI 1)), none, none] [.int (nI 1)] σ
                refine am_if (ty := 47) (tn := 22) rfl (by decide) rfl rfl (fun (h_102 : nI 1 = 0) => ?_) (fun (h_102 : ¬ (nI 1 = 0)) => ?_)
                · exact absurd h_102 (by decide)
                refine am_run 3 (pc' := 27) (ls' := [some (.ref 0), some (.int (nI 1)), some (.int (nI a)), some (.int (nI b)), some (.int (nI 1)), none, none]) (st' := [.int (nI 255), .int (nI 0), .int (nI b)]) (σ' := σ) rfl ?_
                refine am_invs (y := 148) (as := [.int (nI b), .int (nI 0), .int (nI 255)]) (rest := []) rfl rfl rfl rfl rfl rfl (Nat.le_of_ble_eq_true rfl) ?_
                refine c_in1 (by omega) (by omega) (by omega) (by omega) ?_
                show am_G _ M_X10_found _ 30 [some (.ref 0), some (.int (nI 1)), some (.int (nI a)), some (.int (nI b)), some (.int (nI 1)), none, none] [.int (nI 1)] σ
                refine am_if (ty := 47) (tn := 33) rfl (by decide) rfl rfl (fun (h_103 : nI 1 = 0) => ?_) (fun (h_103 : ¬ (nI 1 = 0)) => ?_)
                · exact absurd h_103 (by decide)
                refine am_run 3 (pc' := 37) (ls' := [some (.ref 0), some (.int (nI 1)), some (.int (nI a)), some (.int (nI b)), some (.int (nI 1)), none, none]) (st' := [.int (nI 3), .int (nI 0), .int (nI 1)]) (σ' := σ) rfl ?_
                refine am_invs (y := 148) (as := [.int (nI 1), .int (nI 0), .int (nI 3)]) (rest := []) rfl rfl rfl rfl rfl rfl (Nat.le_of_ble_eq_true rfl) ?_
                refine c_in1 (by omega) (by omega) (by omega) (by omega) ?_
                show am_G _ M_X10_found _ 40 [some (.ref 0), some (.int (nI 1)), some (.int (nI a)), some (.int (nI b)), some (.int (nI 1)), none, none] [.int (nI 1)] σ
                refine am_if (ty := 47) (tn := 43) rfl (by decide) rfl rfl (fun (h_104 : nI 1 = 0) => ?_) (fun (h_104 : ¬ (nI 1 = 0)) => ?_)
                · exact absurd h_104 (by decide)
                refine am_run 4 (pc' := 52) (ls' := [some (.ref 0), some (.int (nI 1)), some (.int (nI a)), some (.int (nI b)), some (.int (nI 1)), some (.int (nI 1)), none]) (st' := [.int (nI 1)]) (σ' := σ) rfl ?_
                refine am_if (ty := 61) (tn := 55) rfl (by decide) rfl rfl (fun (h_105 : nI 1 = 0) => ?_) (fun (h_105 : ¬ (nI 1 = 0)) => ?_)
                · exact absurd h_105 (by decide)
                refine am_run 3 (pc' := 58) (ls' := [some (.ref 0), some (.int (nI 1)), some (.int (nI a)), some (.int (nI b)), some (.int (nI 1)), some (.int (nI 1)), none]) (st' := [.int (nI a &&& nI b)]) (σ' := σ) rfl ?_
                refine am_top (v' := nI (a &&& b)) (nx_and _ _) ?_
                refine am_if (ty := 64) (tn := 61) rfl (by decide) rfl rfl (fun (h_106 : nI (a &&& b) = 0) => ?_) (fun (h_106 : ¬ (nI (a &&& b) = 0)) => ?_)
                rotate_left
                · have h_106 : ¬ (a &&& b = 0) := fun z => h_106 ((am_n0 (by omega)).mpr z)
                  omega
                have h_106 : a &&& b = 0 := (am_n0 (by omega)).mp h_106
                refine am_run 3 (pc' := 69) (ls' := [some (.ref 0), some (.int (nI 1)), some (.int (nI a)), some (.int (nI b)), some (.int (nI 1)), some (.int (nI 1)), none]) (st' := [.int (nI 1), .ref 17]) (σ' := σ) rfl ?_
                refine am_ialdN (n := 2) (v := nI s) rfl rfl rfl (by decide) b3 (by decide) ?_
                refine am_if (ty := 73) (tn := 77) rfl (by decide) rfl rfl (fun (h_107 : nI s = 0) => ?_) (fun (h_107 : ¬ (nI s = 0)) => ?_)
                · have h_107 : s = 0 := (am_n0 (by omega)).mp h_107
                  omega
                have h_107 : ¬ (s = 0) := fun z => h_107 ((am_n0 (by omega)).mpr z)
                refine am_run 2 (pc' := 80) (ls' := [some (.ref 0), some (.int (nI 1)), some (.int (nI a)), some (.int (nI b)), some (.int (nI 1)), some (.int (nI 1)), some (.int (nI 0))]) (st' := []) (σ' := σ) rfl ?_
                refine c_found_loop (by omega) ha hb (fun σ3 h1 h2 i29 => ?_) 8 0 _ rfl (fun _ _ => rfl) rfl (fun g z => absurd z (Nat.not_lt_zero _))
                have hM3 := hM.keep2 (σ' := σ3) (fun c a => h1 c (by omega))
                have b33 : σ3.1 17 1 = nI s := by rw [h1 17 (by decide)]; exact b3
                refine am_run 5 (pc' := 134) (ls' := [some (.ref 0), some (.int (nI 1)), some (.int (nI a)), some (.int (nI b)), some (.int (nI 1)), some (.int (nI 1)), some (.int (nI 8))]) (st' := [.int (nI 1), .ref 17, .int (nI 1), .ref 0]) (σ' := σ3) rfl ?_
                refine am_ialdN (n := 2) (v := nI s) rfl rfl rfl (by decide) b33 (by decide) ?_
                refine am_invv (y := 209) (b := 0) (as := [.int (nI 1), .int (nI s)]) (rest := []) rfl rfl rfl rfl rfl rfl rfl (Nat.le_of_ble_eq_true rfl) ?_
                refine c_lays (by omega) hM3.1 hs i29 hdj ha hb (fun σ4 hL hB hT => ?_)
                show am_G _ M_X10_found _ 138 [some (.ref 0), some (.int (nI 1)), some (.int (nI a)), some (.int (nI b)), some (.int (nI 1)), some (.int (nI 1)), some (.int (nI 8))] [] σ4
                refine am_run 1 (pc' := 139) (ls' := [some (.ref 0), some (.int (nI 1)), some (.int (nI a)), some (.int (nI b)), some (.int (nI 1)), some (.int (nI 1)), some (.int (nI 8))]) (st' := [.ref 0]) (σ' := σ4) rfl ?_
                refine am_invv (y := 211) (b := 0) (as := []) (rest := []) rfl rfl rfl rfl rfl rfl rfl (Nat.le_of_ble_eq_true rfl) ?_
                refine c_m_whole (by omega) hB (by rw [hL.1 4 (by decide) (by decide)]; exact hM3.2.1.1) hrn hM.2.1.2.2 (hT r hrn 0 (Nat.pow_pos (by decide))) (hv.2.resolve_left hs0) ?_
                show am_G _ M_X10_found _ 142 [some (.ref 0), some (.int (nI 1)), some (.int (nI a)), some (.int (nI b)), some (.int (nI 1)), some (.int (nI 1)), some (.int (nI 8))] [.int (nI (eM (an p 61 (r + 1) s true a b)))] σ4
                refine am_run 2 (pc' := 146) (ls' := [some (.ref 0), some (.int (nI 1)), some (.int (nI a)), some (.int (nI b)), some (.int (nI 1)), some (.int (nI 1)), some (.int (nI (eM (an p 61 (r + 1) s true a b))))]) (st' := [.int (nI 1)]) (σ' := σ4) rfl ?_
                refine am_if (ty := 149) (tn := 157) rfl (by decide) rfl rfl (fun (h_301 : nI 1 = 0) => ?_) (fun (h_301 : ¬ (nI 1 = 0)) => ?_)
                · exact absurd h_301 (by decide)
                refine am_run 2 (pc' := 160) (ls' := [some (.ref 0), some (.int (nI 1)), some (.int (nI a)), some (.int (nI b)), some (.int (nI 1)), some (.int (nI 1)), some (.int (nI (eM (an p 61 (r + 1) s true a b))))]) (st' := [.int (nI 1), .int (nI 1)]) (σ' := σ4) rfl ?_
                refine am_ic (ty := 163) (tn := 171) rfl (by decide) rfl rfl (fun (h_302 : nI 1 = nI 1) => ?_) (fun (h_302 : ¬ (nI 1 = nI 1)) => ?_)
                rotate_left
                · exact absurd (by decide) h_302
                refine am_run 1 (pc' := 165) (ls' := [some (.ref 0), some (.int (nI 1)), some (.int (nI a)), some (.int (nI b)), some (.int (nI 1)), some (.int (nI 1)), some (.int (nI (eM (an p 61 (r + 1) s true a b))))]) (st' := [.int (nI (eM (an p 61 (r + 1) s true a b)))]) (σ' := σ4) rfl ?_
                refine am_invs (y := 186) (as := [.int (nI (eM (an p 61 (r + 1) s true a b)))]) (rest := []) rfl rfl rfl rfl rfl rfl (Nat.le_of_ble_eq_true rfl) ?_
                refine c_m_can (by omega) (r := (an p 61 (r + 1) s true a b)) ok2 ?_
                show am_G _ M_X10_found _ 168 [some (.ref 0), some (.int (nI 1)), some (.int (nI a)), some (.int (nI b)), some (.int (nI 1)), some (.int (nI 1)), some (.int (nI (eM (an p 61 (r + 1) s true a b))))] [.int (nI ((an p 61 (r + 1) s true a b).2.1))] σ4
                refine am_run 1 (pc' := 190) (ls' := [some (.ref 0), some (.int (nI 1)), some (.int (nI a)), some (.int (nI b)), some (.int (nI 1)), some (.int (nI 1)), some (.int (nI (eM (an p 61 (r + 1) s true a b))))]) (st' := [.int (nI ((an p 61 (r + 1) s true a b).2.1))]) (σ' := σ4) rfl ?_
                refine am_reti rfl rfl ?_
                exact ⟨rfl, (((KS.of29 h1 h2).tr hL.KS).KI).inv hI⟩
              · skip
                refine ⟨nI (an p 61 (r + 1) s true a b).2.2.1, ?_⟩
                refine am_enter' (M := M_X9_found) rfl rfl rfl (by omega) (ls := [some (.ref 41), some (.int (nI 1)), some (.int (nI a)), some (.int (nI b)), some (.int (nI 2)), none, none, none]) rfl (fun d' hd' => ?_)
                refine am_run 2 (pc' := 2) (ls' := [some (.ref 41), some (.int (nI 1)), some (.int (nI a)), some (.int (nI b)), some (.int (nI 2)), none, none, none]) (st' := [.int (nI 1), .ref 41]) (σ' := σ) rfl ?_
                refine am_invv (y := 140) (b := 41) (as := [.int (nI 1)]) (rest := []) rfl rfl rfl rfl rfl rfl rfl (Nat.le_of_ble_eq_true rfl) ?_
                refine c_filled1_1 (by omega) hf ?_
                show am_G _ M_X9_found _ 5 [some (.ref 41), some (.int (nI 1)), some (.int (nI a)), some (.int (nI b)), some (.int (nI 2)), none, none, none] [.ref 75] σ
                refine am_run 4 (pc' := 16) (ls' := [some (.ref 41), some (.int (nI 1)), some (.int (nI a)), some (.int (nI b)), some (.int (nI 2)), some (.ref 75), none, none]) (st' := [.int (nI a)]) (σ' := σ) rfl ?_
                refine am_invs (y := 141) (as := [.int (nI a)]) (rest := []) rfl rfl rfl rfl rfl rfl (Nat.le_of_ble_eq_true rfl) ?_
                refine c_sig1 (by omega) (by omega) ?_
                show am_G _ M_X9_found _ 19 [some (.ref 41), some (.int (nI 1)), some (.int (nI a)), some (.int (nI b)), some (.int (nI 2)), some (.ref 75), none, none] [.int (nI 1)] σ
                refine am_if (ty := 46) (tn := 22) rfl (by decide) rfl rfl (fun (h_1 : nI 1 = 0) => ?_) (fun (h_1 : ¬ (nI 1 = 0)) => ?_)
                · exact absurd h_1 (by decide)
                refine am_run 1 (pc' := 23) (ls' := [some (.ref 41), some (.int (nI 1)), some (.int (nI a)), some (.int (nI b)), some (.int (nI 2)), some (.ref 75), none, none]) (st' := [.int (nI b)]) (σ' := σ) rfl ?_
                refine am_invs (y := 141) (as := [.int (nI b)]) (rest := []) rfl rfl rfl rfl rfl rfl (Nat.le_of_ble_eq_true rfl) ?_
                refine c_sig1 (by omega) (by omega) ?_
                show am_G _ M_X9_found _ 26 [some (.ref 41), some (.int (nI 1)), some (.int (nI a)), some (.int (nI b)), some (.int (nI 2)), some (.ref 75), none, none] [.int (nI 1)] σ
                refine am_if (ty := 46) (tn := 29) rfl (by decide) rfl rfl (fun (h_2 : nI 1 = 0) => ?_) (fun (h_2 : ¬ (nI 1 = 0)) => ?_)
                · exact absurd h_2 (by decide)
                refine am_run 3 (pc' := 32) (ls' := [some (.ref 41), some (.int (nI 1)), some (.int (nI a)), some (.int (nI b)), some (.int (nI 2)), some (.ref 75), none, none]) (st' := [.int (nI a &&& nI b)]) (σ' := σ) rfl ?_
                refine am_top (v' := nI (a &&& b)) (nx_and _ _) ?_
                refine am_if (ty := 35) (tn := 46) rfl (by decide) rfl rfl (fun (h_3 : nI (a &&& b) = 0) => ?_) (fun (h_3 : ¬ (nI (a &&& b) = 0)) => ?_)
                rotate_left
                · have h_3 : ¬ (a &&& b = 0) := fun z => h_3 ((am_n0 (by omega)).mpr z)
                  omega
                have h_3 : a &&& b = 0 := (am_n0 (by omega)).mp h_3
                refine am_run 1 (pc' := 37) (ls' := [some (.ref 41), some (.int (nI 1)), some (.int (nI a)), some (.int (nI b)), some (.int (nI 2)), some (.ref 75), none, none]) (st' := [.int (nI 2)]) (σ' := σ) rfl ?_
                refine am_if (ty := 46) (tn := 40) rfl (by decide) rfl rfl (fun (h_4 : nI 2 < 0) => ?_) (fun (h_4 : ¬ (nI 2 < 0)) => ?_)
                · exact absurd h_4 (by decide)
                refine am_run 2 (pc' := 43) (ls' := [some (.ref 41), some (.int (nI 1)), some (.int (nI a)), some (.int (nI b)), some (.int (nI 2)), some (.ref 75), none, none]) (st' := [.int (nI 3), .int (nI 2)]) (σ' := σ) rfl ?_
                refine am_ic (ty := 46) (tn := 49) rfl (by decide) rfl rfl (fun (h_5 : nI 3 < nI 2) => ?_) (fun (h_5 : ¬ (nI 3 < nI 2)) => ?_)
                · exact absurd h_5 (by decide)
                refine am_run 1 (pc' := 51) (ls' := [some (.ref 41), some (.int (nI 1)), some (.int (nI a)), some (.int (nI b)), some (.int (nI 2)), some (.ref 75), none, none]) (st' := [.ref 75]) (σ' := σ) rfl ?_
                refine am_invv (y := 67) (b := 75) (as := []) (rest := []) rfl rfl rfl rfl rfl rfl rfl (Nat.le_of_ble_eq_true rfl) ?_
                refine am_enter' rfl rfl rfl (by omega) (ls := [some (.ref 75)]) rfl (fun d_6 hd_6 => ?_)
                refine am_run 2 (pc' := 4) (ls' := [some (.ref 75)]) (st' := [.int (σ.1 75 3)]) (σ' := σ) rfl ?_
                refine am_top (v' := nI s) a3 ?_
                refine am_reti rfl rfl ?_
                show am_G _ M_X9_found _ 54 [some (.ref 41), some (.int (nI 1)), some (.int (nI a)), some (.int (nI b)), some (.int (nI 2)), some (.ref 75), none, none] [.int (nI s)] σ
                refine am_if (ty := 57) (tn := 60) rfl (by decide) rfl rfl (fun (h_7 : nI s = 0) => ?_) (fun (h_7 : ¬ (nI s = 0)) => ?_)
                · have h_7 : s = 0 := (am_n0 (by omega)).mp h_7
                  omega
                have h_7 : ¬ (s = 0) := fun z => h_7 ((am_n0 (by omega)).mpr z)
                refine am_run 1 (pc' := 62) (ls' := [some (.ref 41), some (.int (nI 1)), some (.int (nI a)), some (.int (nI b)), some (.int (nI 2)), some (.ref 75), none, none]) (st' := [.ref 75]) (σ' := σ) rfl ?_
                refine am_invv (y := 66) (b := 75) (as := []) (rest := []) rfl rfl rfl rfl rfl rfl rfl (Nat.le_of_ble_eq_true rfl) ?_
                refine am_enter' rfl rfl rfl (by omega) (ls := [some (.ref 75)]) rfl (fun d_8 hd_8 => ?_)
                refine am_run 2 (pc' := 4) (ls' := [some (.ref 75)]) (st' := [.ref (σ.2 75 1)]) (σ' := σ) rfl ?_
                refine am_reta rfl rfl (Or.inr ⟨_, rfl⟩) ?_
                show am_G _ M_X9_found _ 65 [some (.ref 41), some (.int (nI 1)), some (.int (nI a)), some (.int (nI b)), some (.int (nI 2)), some (.ref 75), none, none] [.ref (σ.2 75 1)] σ
                refine am_run 1 (pc' := 67) (ls' := [some (.ref 41), some (.int (nI 1)), some (.int (nI a)), some (.int (nI b)), some (.int (nI 2)), some (.ref 75), none, none]) (st' := [.ref 75, .ref (σ.2 75 1)]) (σ' := σ) rfl ?_
                refine am_invv (y := 67) (b := 75) (as := []) (rest := [.ref (σ.2 75 1)]) rfl rfl rfl rfl rfl rfl rfl (Nat.le_of_ble_eq_true rfl) ?_
                refine am_enter' rfl rfl rfl (by omega) (ls := [some (.ref 75)]) rfl (fun d_9 hd_9 => ?_)
                refine am_run 2 (pc' := 4) (ls' := [some (.ref 75)]) (st' := [.int (σ.1 75 3)]) (σ' := σ) rfl ?_
                refine am_top (v' := nI s) a3 ?_
                refine am_reti rfl rfl ?_
                show am_G _ M_X9_found _ 70 [some (.ref 41), some (.int (nI 1)), some (.int (nI a)), some (.int (nI b)), some (.int (nI 2)), some (.ref 75), none, none] [.int (nI s), .ref (σ.2 75 1)] σ
                refine am_run 2 (pc' := 72) (ls' := [some (.ref 41), some (.int (nI 1)), some (.int (nI a)), some (.int (nI b)), some (.int (nI 2)), some (.ref 75), none, none]) (st' := [.int (nI b), .int (nI a), .int (nI s), .ref (σ.2 75 1)]) (σ' := σ) rfl ?_
                refine am_invs (y := 2) (as := [.int (nI a), .int (nI b)]) (rest := [.int (nI s), .ref (σ.2 75 1)]) rfl rfl rfl rfl rfl rfl (Nat.le_of_ble_eq_true rfl) ?_
                refine c_a_knowledge (by omega) (a := a) (b := b) ha ?_
                show am_G _ M_X9_found _ 75 [some (.ref 41), some (.int (nI 1)), some (.int (nI a)), some (.int (nI b)), some (.int (nI 2)), some (.ref 75), none, none] [.int (nI (a + 256 * b)), .int (nI s), .ref (σ.2 75 1)] σ
                refine am_invs (y := 0) (as := [.ref (σ.2 75 1), .int (nI s), .int (nI (a + 256 * b))]) (rest := []) rfl rfl rfl rfl rfl rfl (Nat.le_of_ble_eq_true rfl) ?_
                refine c_a_ofProgram (by omega) hW hR (show r + 1 ≤ n by omega) hro hs ha hb (fun r1 hr1 ok1 => ?_)
                subst hr1
                show am_G _ M_X9_found _ 78 [some (.ref 41), some (.int (nI 1)), some (.int (nI a)), some (.int (nI b)), some (.int (nI 2)), some (.ref 75), none, none] [.int (nI (eC (an p 61 (r + 1) s true a b)))] σ
                refine am_run 2 (pc' := 82) (ls' := [some (.ref 41), some (.int (nI 1)), some (.int (nI a)), some (.int (nI b)), some (.int (nI 2)), some (.ref 75), some (.int (nI (eC (an p 61 (r + 1) s true a b)))), none]) (st' := [.int (nI 2)]) (σ' := σ) rfl ?_
                refine am_if (ty := 91) (tn := 85) rfl (by decide) rfl rfl (fun (h_10 : nI 2 = 0) => ?_) (fun (h_10 : ¬ (nI 2 = 0)) => ?_)
                · exact absurd h_10 (by decide)
                refine am_run 2 (pc' := 88) (ls' := [some (.ref 41), some (.int (nI 1)), some (.int (nI a)), some (.int (nI b)), some (.int (nI 2)), some (.ref 75), some (.int (nI (eC (an p 61 (r + 1) s true a b)))), none]) (st' := [.int (nI 2), .int (nI 2)]) (σ' := σ) rfl ?_
                refine am_ic (ty := 91) (tn := 99) rfl (by decide) rfl rfl (fun (h_11 : nI 2 = nI 2) => ?_) (fun (h_11 : ¬ (nI 2 = nI 2)) => ?_)
                rotate_left
                · exact absurd (by decide) h_11
                refine am_run 1 (pc' := 93) (ls' := [some (.ref 41), some (.int (nI 1)), some (.int (nI a)), some (.int (nI b)), some (.int (nI 2)), some (.ref 75), some (.int (nI (eC (an p 61 (r + 1) s true a b)))), none]) (st' := [.int (nI (eC (an p 61 (r + 1) s true a b)))]) (σ' := σ) rfl ?_
                refine am_invs (y := 3) (as := [.int (nI (eC (an p 61 (r + 1) s true a b)))]) (rest := []) rfl rfl rfl rfl rfl rfl (Nat.le_of_ble_eq_true rfl) ?_
                refine c_a_must (by omega) ok1 ?_
                show am_G _ M_X9_found _ 96 [some (.ref 41), some (.int (nI 1)), some (.int (nI a)), some (.int (nI b)), some (.int (nI 2)), some (.ref 75), some (.int (nI (eC (an p 61 (r + 1) s true a b)))), none] [.int (nI ((an p 61 (r + 1) s true a b).1 + 256 * (an p 61 (r + 1) s true a b).2.2.1))] σ
                refine am_run 4 (pc' := 109) (ls' := [some (.ref 41), some (.int (nI 1)), some (.int (nI a)), some (.int (nI b)), some (.int (nI 2)), some (.ref 75), some (.int (nI (eC (an p 61 (r + 1) s true a b)))), some (.int (nI ((an p 61 (r + 1) s true a b).1 + 256 * (an p 61 (r + 1) s true a b).2.2.1)))]) (st' := [.int (nI 2), .int (nI 2)]) (σ' := σ) rfl ?_
                refine am_ic (ty := 112) (tn := 120) rfl (by decide) rfl rfl (fun (h_12 : nI 2 < nI 2) => ?_) (fun (h_12 : ¬ (nI 2 < nI 2)) => ?_)
                · exact absurd h_12 (by decide)
                refine am_run 1 (pc' := 122) (ls' := [some (.ref 41), some (.int (nI 1)), some (.int (nI a)), some (.int (nI b)), some (.int (nI 2)), some (.ref 75), some (.int (nI (eC (an p 61 (r + 1) s true a b)))), some (.int (nI ((an p 61 (r + 1) s true a b).1 + 256 * (an p 61 (r + 1) s true a b).2.2.1)))]) (st' := [.int (nI ((an p 61 (r + 1) s true a b).1 + 256 * (an p 61 (r + 1) s true a b).2.2.1))]) (σ' := σ) rfl ?_
                refine am_invs (y := 6) (as := [.int (nI ((an p 61 (r + 1) s true a b).1 + 256 * (an p 61 (r + 1) s true a b).2.2.1))]) (rest := []) rfl rfl rfl rfl rfl rfl (Nat.le_of_ble_eq_true rfl) ?_
                refine c_a_codes (by omega) ok1.1 ok1.2.2.1 ?_
                show am_G _ M_X9_found _ 125 [some (.ref 41), some (.int (nI 1)), some (.int (nI a)), some (.int (nI b)), some (.int (nI 2)), some (.ref 75), some (.int (nI (eC (an p 61 (r + 1) s true a b)))), some (.int (nI ((an p 61 (r + 1) s true a b).1 + 256 * (an p 61 (r + 1) s true a b).2.2.1)))] [.int (nI ((an p 61 (r + 1) s true a b).2.2.1))] σ
                refine am_reti rfl rfl ?_
                refine ⟨rfl, ?_⟩
                refine am_enter' (M := M_X10_found) rfl rfl rfl (by omega) (ls := [some (.ref 0), some (.int (nI 1)), some (.int (nI a)), some (.int (nI b)), some (.int (nI 2)), none, none]) rfl (fun d2 hd2 => ?_)
                refine am_run 2 (pc' := 2) (ls' := [some (.ref 0), some (.int (nI 1)), some (.int (nI a)), some (.int (nI b)), some (.int (nI 2)), none, none]) (st' := [.int (nI 1), .ref 0]) (σ' := σ) rfl ?_
                refine am_invv (y := 151) (b := 0) (as := [.int (nI 1)]) (rest := []) rfl rfl rfl rfl rfl rfl rfl (Nat.le_of_ble_eq_true rfl) ?_
                refine c_prog1_1 (by omega) (n := n) (by exact hn2) hn1 hn60 ?_
                show am_G _ M_X10_found _ 5 [some (.ref 0), some (.int (nI 1)), some (.int (nI a)), some (.int (nI b)), some (.int (nI 2)), none, none] [.int (nI 1)] σ
                refine am_if (ty := 8) (tn := 11) rfl (by decide) rfl rfl (fun (h_101 : nI 1 = 0) => ?_) (fun (h_101 : ¬ (nI 1 = 0)) => ?_)
                · exact absurd h_101 (by decide)
                refine am_run 3 (pc' := 16) (ls' := [some (.ref 0), some (.int (nI 1)), some (.int (nI a)), some (.int (nI b)), some (.int (nI 2)), none, none]) (st' := [.int (nI 255), .int (nI 0), .int (nI a)]) (σ' := σ) rfl ?_
                refine am_invs (y := 148) (as := [.int (nI a), .int (nI 0), .int (nI 255)]) (rest := []) rfl rfl rfl rfl rfl rfl (Nat.le_of_ble_eq_true rfl) ?_
                refine c_in1 (by omega) (by omega) (by omega) (by omega) ?_
                show am_G _ M_X10_found _ 19 [some (.ref 0), some (.int (nI 1)), some (.int (nI a)), some (.int (nI b)), some (.int (nI 2)), none, none] [.int (nI 1)] σ
                refine am_if (ty := 47) (tn := 22) rfl (by decide) rfl rfl (fun (h_102 : nI 1 = 0) => ?_) (fun (h_102 : ¬ (nI 1 = 0)) => ?_)
                · exact absurd h_102 (by decide)
                refine am_run 3 (pc' := 27) (ls' := [some (.ref 0), some (.int (nI 1)), some (.int (nI a)), some (.int (nI b)), some (.int (nI 2)), none, none]) (st' := [.int (nI 255), .int (nI 0), .int (nI b)]) (σ' := σ) rfl ?_
                refine am_invs (y := 148) (as := [.int (nI b), .int (nI 0), .int (nI 255)]) (rest := []) rfl rfl rfl rfl rfl rfl (Nat.le_of_ble_eq_true rfl) ?_
                refine c_in1 (by omega) (by omega) (by omega) (by omega) ?_
                show am_G _ M_X10_found _ 30 [some (.ref 0), some (.int (nI 1)), some (.int (nI a)), some (.int (nI b)), some (.int (nI 2)), none, none] [.int (nI 1)] σ
                refine am_if (ty := 47) (tn := 33) rfl (by decide) rfl rfl (fun (h_103 : nI 1 = 0) => ?_) (fun (h_103 : ¬ (nI 1 = 0)) => ?_)
                · exact absurd h_103 (by decide)
                refine am_run 3 (pc' := 37) (ls' := [some (.ref 0), some (.int (nI 1)), some (.int (nI a)), some (.int (nI b)), some (.int (nI 2)), none, none]) (st' := [.int (nI 3), .int (nI 0), .int (nI 2)]) (σ' := σ) rfl ?_
                refine am_invs (y := 148) (as := [.int (nI 2), .int (nI 0), .int (nI 3)]) (rest := []) rfl rfl rfl rfl rfl rfl (Nat.le_of_ble_eq_true rfl) ?_
                refine c_in1 (by omega) (by omega) (by omega) (by omega) ?_
                show am_G _ M_X10_found _ 40 [some (.ref 0), some (.int (nI 1)), some (.int (nI a)), some (.int (nI b)), some (.int (nI 2)), none, none] [.int (nI 1)] σ
                refine am_if (ty := 47) (tn := 43) rfl (by decide) rfl rfl (fun (h_104 : nI 1 = 0) => ?_) (fun (h_104 : ¬ (nI 1 = 0)) => ?_)
                · exact absurd h_104 (by decide)
                refine am_run 4 (pc' := 52) (ls' := [some (.ref 0), some (.int (nI 1)), some (.int (nI a)), some (.int (nI b)), some (.int (nI 2)), some (.int (nI 1)), none]) (st' := [.int (nI 1)]) (σ' := σ) rfl ?_
                refine am_if (ty := 61) (tn := 55) rfl (by decide) rfl rfl (fun (h_105 : nI 1 = 0) => ?_) (fun (h_105 : ¬ (nI 1 = 0)) => ?_)
                · exact absurd h_105 (by decide)
                refine am_run 3 (pc' := 58) (ls' := [some (.ref 0), some (.int (nI 1)), some (.int (nI a)), some (.int (nI b)), some (.int (nI 2)), some (.int (nI 1)), none]) (st' := [.int (nI a &&& nI b)]) (σ' := σ) rfl ?_
                refine am_top (v' := nI (a &&& b)) (nx_and _ _) ?_
                refine am_if (ty := 64) (tn := 61) rfl (by decide) rfl rfl (fun (h_106 : nI (a &&& b) = 0) => ?_) (fun (h_106 : ¬ (nI (a &&& b) = 0)) => ?_)
                rotate_left
                · have h_106 : ¬ (a &&& b = 0) := fun z => h_106 ((am_n0 (by omega)).mpr z)
                  omega
                have h_106 : a &&& b = 0 := (am_n0 (by omega)).mp h_106
                refine am_run 3 (pc' := 69) (ls' := [some (.ref 0), some (.int (nI 1)), some (.int (nI a)), some (.int (nI b)), some (.int (nI 2)), some (.int (nI 1)), none]) (st' := [.int (nI 1), .ref 17]) (σ' := σ) rfl ?_
                refine am_ialdN (n := 2) (v := nI s) rfl rfl rfl (by decide) b3 (by decide) ?_
                refine am_if (ty := 73) (tn := 77) rfl (by decide) rfl rfl (fun (h_107 : nI s = 0) => ?_) (fun (h_107 : ¬ (nI s = 0)) => ?_)
                · have h_107 : s = 0 := (am_n0 (by omega)).mp h_107
                  omega
                have h_107 : ¬ (s = 0) := fun z => h_107 ((am_n0 (by omega)).mpr z)
                refine am_run 2 (pc' := 80) (ls' := [some (.ref 0), some (.int (nI 1)), some (.int (nI a)), some (.int (nI b)), some (.int (nI 2)), some (.int (nI 1)), some (.int (nI 0))]) (st' := []) (σ' := σ) rfl ?_
                refine c_found_loop (by omega) ha hb (fun σ3 h1 h2 i29 => ?_) 8 0 _ rfl (fun _ _ => rfl) rfl (fun g z => absurd z (Nat.not_lt_zero _))
                have hM3 := hM.keep2 (σ' := σ3) (fun c a => h1 c (by omega))
                have b33 : σ3.1 17 1 = nI s := by rw [h1 17 (by decide)]; exact b3
                refine am_run 5 (pc' := 134) (ls' := [some (.ref 0), some (.int (nI 1)), some (.int (nI a)), some (.int (nI b)), some (.int (nI 2)), some (.int (nI 1)), some (.int (nI 8))]) (st' := [.int (nI 1), .ref 17, .int (nI 1), .ref 0]) (σ' := σ3) rfl ?_
                refine am_ialdN (n := 2) (v := nI s) rfl rfl rfl (by decide) b33 (by decide) ?_
                refine am_invv (y := 209) (b := 0) (as := [.int (nI 1), .int (nI s)]) (rest := []) rfl rfl rfl rfl rfl rfl rfl (Nat.le_of_ble_eq_true rfl) ?_
                refine c_lays (by omega) hM3.1 hs i29 hdj ha hb (fun σ4 hL hB hT => ?_)
                show am_G _ M_X10_found _ 138 [some (.ref 0), some (.int (nI 1)), some (.int (nI a)), some (.int (nI b)), some (.int (nI 2)), some (.int (nI 1)), some (.int (nI 8))] [] σ4
                refine am_run 1 (pc' := 139) (ls' := [some (.ref 0), some (.int (nI 1)), some (.int (nI a)), some (.int (nI b)), some (.int (nI 2)), some (.int (nI 1)), some (.int (nI 8))]) (st' := [.ref 0]) (σ' := σ4) rfl ?_
                refine am_invv (y := 211) (b := 0) (as := []) (rest := []) rfl rfl rfl rfl rfl rfl rfl (Nat.le_of_ble_eq_true rfl) ?_
                refine c_m_whole (by omega) hB (by rw [hL.1 4 (by decide) (by decide)]; exact hM3.2.1.1) hrn hM.2.1.2.2 (hT r hrn 0 (Nat.pow_pos (by decide))) (hv.2.resolve_left hs0) ?_
                show am_G _ M_X10_found _ 142 [some (.ref 0), some (.int (nI 1)), some (.int (nI a)), some (.int (nI b)), some (.int (nI 2)), some (.int (nI 1)), some (.int (nI 8))] [.int (nI (eM (an p 61 (r + 1) s true a b)))] σ4
                refine am_run 2 (pc' := 146) (ls' := [some (.ref 0), some (.int (nI 1)), some (.int (nI a)), some (.int (nI b)), some (.int (nI 2)), some (.int (nI 1)), some (.int (nI (eM (an p 61 (r + 1) s true a b))))]) (st' := [.int (nI 2)]) (σ' := σ4) rfl ?_
                refine am_if (ty := 149) (tn := 157) rfl (by decide) rfl rfl (fun (h_301 : nI 2 = 0) => ?_) (fun (h_301 : ¬ (nI 2 = 0)) => ?_)
                · exact absurd h_301 (by decide)
                refine am_run 2 (pc' := 160) (ls' := [some (.ref 0), some (.int (nI 1)), some (.int (nI a)), some (.int (nI b)), some (.int (nI 2)), some (.int (nI 1)), some (.int (nI (eM (an p 61 (r + 1) s true a b))))]) (st' := [.int (nI 1), .int (nI 2)]) (σ' := σ4) rfl ?_
                refine am_ic (ty := 163) (tn := 171) rfl (by decide) rfl rfl (fun (h_302 : nI 2 = nI 1) => ?_) (fun (h_302 : ¬ (nI 2 = nI 1)) => ?_)
                · exact absurd h_302 (by decide)
                refine am_run 2 (pc' := 174) (ls' := [some (.ref 0), some (.int (nI 1)), some (.int (nI a)), some (.int (nI b)), some (.int (nI 2)), some (.int (nI 1)), some (.int (nI (eM (an p 61 (r + 1) s true a b))))]) (st' := [.int (nI 2), .int (nI 2)]) (σ' := σ4) rfl ?_
                refine am_ic (ty := 177) (tn := 185) rfl (by decide) rfl rfl (fun (h_303 : nI 2 = nI 2) => ?_) (fun (h_303 : ¬ (nI 2 = nI 2)) => ?_)
                rotate_left
                · exact absurd (by decide) h_303
                refine am_run 1 (pc' := 179) (ls' := [some (.ref 0), some (.int (nI 1)), some (.int (nI a)), some (.int (nI b)), some (.int (nI 2)), some (.int (nI 1)), some (.int (nI (eM (an p 61 (r + 1) s true a b))))]) (st' := [.int (nI (eM (an p 61 (r + 1) s true a b)))]) (σ' := σ4) rfl ?_
                refine am_invs (y := 187) (as := [.int (nI (eM (an p 61 (r + 1) s true a b)))]) (rest := []) rfl rfl rfl rfl rfl rfl (Nat.le_of_ble_eq_true rfl) ?_
                refine c_m_mustCodes (by omega) (r := (an p 61 (r + 1) s true a b)) ok2 ?_
                show am_G _ M_X10_found _ 182 [some (.ref 0), some (.int (nI 1)), some (.int (nI a)), some (.int (nI b)), some (.int (nI 2)), some (.int (nI 1)), some (.int (nI (eM (an p 61 (r + 1) s true a b))))] [.int (nI ((an p 61 (r + 1) s true a b).2.2.1))] σ4
                refine am_run 1 (pc' := 190) (ls' := [some (.ref 0), some (.int (nI 1)), some (.int (nI a)), some (.int (nI b)), some (.int (nI 2)), some (.int (nI 1)), some (.int (nI (eM (an p 61 (r + 1) s true a b))))]) (st' := [.int (nI ((an p 61 (r + 1) s true a b).2.2.1))]) (σ' := σ4) rfl ?_
                refine am_reti rfl rfl ?_
                exact ⟨rfl, (((KS.of29 h1 h2).tr hL.KS).KI).inv hI⟩
              · skip
                refine ⟨nI (an p 61 (r + 1) s true a b).2.2.2, ?_⟩
                refine am_enter' (M := M_X9_found) rfl rfl rfl (by omega) (ls := [some (.ref 41), some (.int (nI 1)), some (.int (nI a)), some (.int (nI b)), some (.int (nI 3)), none, none, none]) rfl (fun d' hd' => ?_)
                refine am_run 2 (pc' := 2) (ls' := [some (.ref 41), some (.int (nI 1)), some (.int (nI a)), some (.int (nI b)), some (.int (nI 3)), none, none, none]) (st' := [.int (nI 1), .ref 41]) (σ' := σ) rfl ?_
                refine am_invv (y := 140) (b := 41) (as := [.int (nI 1)]) (rest := []) rfl rfl rfl rfl rfl rfl rfl (Nat.le_of_ble_eq_true rfl) ?_
                refine c_filled1_1 (by omega) hf ?_
                show am_G _ M_X9_found _ 5 [some (.ref 41), some (.int (nI 1)), some (.int (nI a)), some (.int (nI b)), some (.int (nI 3)), none, none, none] [.ref 75] σ
                refine am_run 4 (pc' := 16) (ls' := [some (.ref 41), some (.int (nI 1)), some (.int (nI a)), some (.int (nI b)), some (.int (nI 3)), some (.ref 75), none, none]) (st' := [.int (nI a)]) (σ' := σ) rfl ?_
                refine am_invs (y := 141) (as := [.int (nI a)]) (rest := []) rfl rfl rfl rfl rfl rfl (Nat.le_of_ble_eq_true rfl) ?_
                refine c_sig1 (by omega) (by omega) ?_
                show am_G _ M_X9_found _ 19 [some (.ref 41), some (.int (nI 1)), some (.int (nI a)), some (.int (nI b)), some (.int (nI 3)), some (.ref 75), none, none] [.int (nI 1)] σ
                refine am_if (ty := 46) (tn := 22) rfl (by decide) rfl rfl (fun (h_1 : nI 1 = 0) => ?_) (fun (h_1 : ¬ (nI 1 = 0)) => ?_)
                · exact absurd h_1 (by decide)
                refine am_run 1 (pc' := 23) (ls' := [some (.ref 41), some (.int (nI 1)), some (.int (nI a)), some (.int (nI b)), some (.int (nI 3)), some (.ref 75), none, none]) (st' := [.int (nI b)]) (σ' := σ) rfl ?_
                refine am_invs (y := 141) (as := [.int (nI b)]) (rest := []) rfl rfl rfl rfl rfl rfl (Nat.le_of_ble_eq_true rfl) ?_
                refine c_sig1 (by omega) (by omega) ?_
                show am_G _ M_X9_found _ 26 [some (.ref 41), some (.int (nI 1)), some (.int (nI a)), some (.int (nI b)), some (.int (nI 3)), some (.ref 75), none, none] [.int (nI 1)] σ
                refine am_if (ty := 46) (tn := 29) rfl (by decide) rfl rfl (fun (h_2 : nI 1 = 0) => ?_) (fun (h_2 : ¬ (nI 1 = 0)) => ?_)
                · exact absurd h_2 (by decide)
                refine am_run 3 (pc' := 32) (ls' := [some (.ref 41), some (.int (nI 1)), some (.int (nI a)), some (.int (nI b)), some (.int (nI 3)), some (.ref 75), none, none]) (st' := [.int (nI a &&& nI b)]) (σ' := σ) rfl ?_
                refine am_top (v' := nI (a &&& b)) (nx_and _ _) ?_
                refine am_if (ty := 35) (tn := 46) rfl (by decide) rfl rfl (fun (h_3 : nI (a &&& b) = 0) => ?_) (fun (h_3 : ¬ (nI (a &&& b) = 0)) => ?_)
                rotate_left
                · have h_3 : ¬ (a &&& b = 0) := fun z => h_3 ((am_n0 (by omega)).mpr z)
                  omega
                have h_3 : a &&& b = 0 := (am_n0 (by omega)).mp h_3
                refine am_run 1 (pc' := 37) (ls' := [some (.ref 41), some (.int (nI 1)), some (.int (nI a)), some (.int (nI b)), some (.int (nI 3)), some (.ref 75), none, none]) (st' := [.int (nI 3)]) (σ' := σ) rfl ?_
                refine am_if (ty := 46) (tn := 40) rfl (by decide) rfl rfl (fun (h_4 : nI 3 < 0) => ?_) (fun (h_4 : ¬ (nI 3 < 0)) => ?_)
                · exact absurd h_4 (by decide)
                refine am_run 2 (pc' := 43) (ls' := [some (.ref 41), some (.int (nI 1)), some (.int (nI a)), some (.int (nI b)), some (.int (nI 3)), some (.ref 75), none, none]) (st' := [.int (nI 3), .int (nI 3)]) (σ' := σ) rfl ?_
                refine am_ic (ty := 46) (tn := 49) rfl (by decide) rfl rfl (fun (h_5 : nI 3 < nI 3) => ?_) (fun (h_5 : ¬ (nI 3 < nI 3)) => ?_)
                · exact absurd h_5 (by decide)
                refine am_run 1 (pc' := 51) (ls' := [some (.ref 41), some (.int (nI 1)), some (.int (nI a)), some (.int (nI b)), some (.int (nI 3)), some (.ref 75), none, none]) (st' := [.ref 75]) (σ' := σ) rfl ?_
                refine am_invv (y := 67) (b := 75) (as := []) (rest := []) rfl rfl rfl rfl rfl rfl rfl (Nat.le_of_ble_eq_true rfl) ?_
                refine am_enter' rfl rfl rfl (by omega) (ls := [some (.ref 75)]) rfl (fun d_6 hd_6 => ?_)
                refine am_run 2 (pc' := 4) (ls' := [some (.ref 75)]) (st' := [.int (σ.1 75 3)]) (σ' := σ) rfl ?_
                refine am_top (v' := nI s) a3 ?_
                refine am_reti rfl rfl ?_
                show am_G _ M_X9_found _ 54 [some (.ref 41), some (.int (nI 1)), some (.int (nI a)), some (.int (nI b)), some (.int (nI 3)), some (.ref 75), none, none] [.int (nI s)] σ
                refine am_if (ty := 57) (tn := 60) rfl (by decide) rfl rfl (fun (h_7 : nI s = 0) => ?_) (fun (h_7 : ¬ (nI s = 0)) => ?_)
                · have h_7 : s = 0 := (am_n0 (by omega)).mp h_7
                  omega
                have h_7 : ¬ (s = 0) := fun z => h_7 ((am_n0 (by omega)).mpr z)
                refine am_run 1 (pc' := 62) (ls' := [some (.ref 41), some (.int (nI 1)), some (.int (nI a)), some (.int (nI b)), some (.int (nI 3)), some (.ref 75), none, none]) (st' := [.ref 75]) (σ' := σ) rfl ?_
                refine am_invv (y := 66) (b := 75) (as := []) (rest := []) rfl rfl rfl rfl rfl rfl rfl (Nat.le_of_ble_eq_true rfl) ?_
                refine am_enter' rfl rfl rfl (by omega) (ls := [some (.ref 75)]) rfl (fun d_8 hd_8 => ?_)
                refine am_run 2 (pc' := 4) (ls' := [some (.ref 75)]) (st' := [.ref (σ.2 75 1)]) (σ' := σ) rfl ?_
                refine am_reta rfl rfl (Or.inr ⟨_, rfl⟩) ?_
                show am_G _ M_X9_found _ 65 [some (.ref 41), some (.int (nI 1)), some (.int (nI a)), some (.int (nI b)), some (.int (nI 3)), some (.ref 75), none, none] [.ref (σ.2 75 1)] σ
                refine am_run 1 (pc' := 67) (ls' := [some (.ref 41), some (.int (nI 1)), some (.int (nI a)), some (.int (nI b)), some (.int (nI 3)), some (.ref 75), none, none]) (st' := [.ref 75, .ref (σ.2 75 1)]) (σ' := σ) rfl ?_
                refine am_invv (y := 67) (b := 75) (as := []) (rest := [.ref (σ.2 75 1)]) rfl rfl rfl rfl rfl rfl rfl (Nat.le_of_ble_eq_true rfl) ?_
                refine am_enter' rfl rfl rfl (by omega) (ls := [some (.ref 75)]) rfl (fun d_9 hd_9 => ?_)
                refine am_run 2 (pc' := 4) (ls' := [some (.ref 75)]) (st' := [.int (σ.1 75 3)]) (σ' := σ) rfl ?_
                refine am_top (v' := nI s) a3 ?_
                refine am_reti rfl rfl ?_
                show am_G _ M_X9_found _ 70 [some (.ref 41), some (.int (nI 1)), some (.int (nI a)), some (.int (nI b)), some (.int (nI 3)), some (.ref 75), none, none] [.int (nI s), .ref (σ.2 75 1)] σ
                refine am_run 2 (pc' := 72) (ls' := [some (.ref 41), some (.int (nI 1)), some (.int (nI a)), some (.int (nI b)), some (.int (nI 3)), some (.ref 75), none, none]) (st' := [.int (nI b), .int (nI a), .int (nI s), .ref (σ.2 75 1)]) (σ' := σ) rfl ?_
                refine am_invs (y := 2) (as := [.int (nI a), .int (nI b)]) (rest := [.int (nI s), .ref (σ.2 75 1)]) rfl rfl rfl rfl rfl rfl (Nat.le_of_ble_eq_true rfl) ?_
                refine c_a_knowledge (by omega) (a := a) (b := b) ha ?_
                show am_G _ M_X9_found _ 75 [some (.ref 41), some (.int (nI 1)), some (.int (nI a)), some (.int (nI b)), some (.int (nI 3)), some (.ref 75), none, none] [.int (nI (a + 256 * b)), .int (nI s), .ref (σ.2 75 1)] σ
                refine am_invs (y := 0) (as := [.ref (σ.2 75 1), .int (nI s), .int (nI (a + 256 * b))]) (rest := []) rfl rfl rfl rfl rfl rfl (Nat.le_of_ble_eq_true rfl) ?_
                refine c_a_ofProgram (by omega) hW hR (show r + 1 ≤ n by omega) hro hs ha hb (fun r1 hr1 ok1 => ?_)
                subst hr1
                show am_G _ M_X9_found _ 78 [some (.ref 41), some (.int (nI 1)), some (.int (nI a)), some (.int (nI b)), some (.int (nI 3)), some (.ref 75), none, none] [.int (nI (eC (an p 61 (r + 1) s true a b)))] σ
                refine am_run 2 (pc' := 82) (ls' := [some (.ref 41), some (.int (nI 1)), some (.int (nI a)), some (.int (nI b)), some (.int (nI 3)), some (.ref 75), some (.int (nI (eC (an p 61 (r + 1) s true a b)))), none]) (st' := [.int (nI 3)]) (σ' := σ) rfl ?_
                refine am_if (ty := 91) (tn := 85) rfl (by decide) rfl rfl (fun (h_10 : nI 3 = 0) => ?_) (fun (h_10 : ¬ (nI 3 = 0)) => ?_)
                · exact absurd h_10 (by decide)
                refine am_run 2 (pc' := 88) (ls' := [some (.ref 41), some (.int (nI 1)), some (.int (nI a)), some (.int (nI b)), some (.int (nI 3)), some (.ref 75), some (.int (nI (eC (an p 61 (r + 1) s true a b)))), none]) (st' := [.int (nI 2), .int (nI 3)]) (σ' := σ) rfl ?_
                refine am_ic (ty := 91) (tn := 99) rfl (by decide) rfl rfl (fun (h_11 : nI 3 = nI 2) => ?_) (fun (h_11 : ¬ (nI 3 = nI 2)) => ?_)
                · exact absurd h_11 (by decide)
                refine am_run 1 (pc' := 101) (ls' := [some (.ref 41), some (.int (nI 1)), some (.int (nI a)), some (.int (nI b)), some (.int (nI 3)), some (.ref 75), some (.int (nI (eC (an p 61 (r + 1) s true a b)))), none]) (st' := [.int (nI (eC (an p 61 (r + 1) s true a b)))]) (σ' := σ) rfl ?_
                refine am_invs (y := 4) (as := [.int (nI (eC (an p 61 (r + 1) s true a b)))]) (rest := []) rfl rfl rfl rfl rfl rfl (Nat.le_of_ble_eq_true rfl) ?_
                refine c_a_can (by omega) ok1 ?_
                show am_G _ M_X9_found _ 104 [some (.ref 41), some (.int (nI 1)), some (.int (nI a)), some (.int (nI b)), some (.int (nI 3)), some (.ref 75), some (.int (nI (eC (an p 61 (r + 1) s true a b)))), none] [.int (nI ((an p 61 (r + 1) s true a b).2.1 + 256 * (an p 61 (r + 1) s true a b).2.2.2))] σ
                refine am_run 3 (pc' := 109) (ls' := [some (.ref 41), some (.int (nI 1)), some (.int (nI a)), some (.int (nI b)), some (.int (nI 3)), some (.ref 75), some (.int (nI (eC (an p 61 (r + 1) s true a b)))), some (.int (nI ((an p 61 (r + 1) s true a b).2.1 + 256 * (an p 61 (r + 1) s true a b).2.2.2)))]) (st' := [.int (nI 2), .int (nI 3)]) (σ' := σ) rfl ?_
                refine am_ic (ty := 112) (tn := 120) rfl (by decide) rfl rfl (fun (h_12 : nI 3 < nI 2) => ?_) (fun (h_12 : ¬ (nI 3 < nI 2)) => ?_)
                · exact absurd h_12 (by decide)
                refine am_run 1 (pc' := 122) (ls' := [some (.ref 41), some (.int (nI 1)), some (.int (nI a)), some (.int (nI b)), some (.int (nI 3)), some (.ref 75), some (.int (nI (eC (an p 61 (r + 1) s true a b)))), some (.int (nI ((an p 61 (r + 1) s true a b).2.1 + 256 * (an p 61 (r + 1) s true a b).2.2.2)))]) (st' := [.int (nI ((an p 61 (r + 1) s true a b).2.1 + 256 * (an p 61 (r + 1) s true a b).2.2.2))]) (σ' := σ) rfl ?_
                refine am_invs (y := 6) (as := [.int (nI ((an p 61 (r + 1) s true a b).2.1 + 256 * (an p 61 (r + 1) s true a b).2.2.2))]) (rest := []) rfl rfl rfl rfl rfl rfl (Nat.le_of_ble_eq_true rfl) ?_
                refine c_a_codes (by omega) ok1.2.1 ok1.2.2.2 ?_
                show am_G _ M_X9_found _ 125 [some (.ref 41), some (.int (nI 1)), some (.int (nI a)), some (.int (nI b)), some (.int (nI 3)), some (.ref 75), some (.int (nI (eC (an p 61 (r + 1) s true a b)))), some (.int (nI ((an p 61 (r + 1) s true a b).2.1 + 256 * (an p 61 (r + 1) s true a b).2.2.2)))] [.int (nI ((an p 61 (r + 1) s true a b).2.2.2))] σ
                refine am_reti rfl rfl ?_
                refine ⟨rfl, ?_⟩
                refine am_enter' (M := M_X10_found) rfl rfl rfl (by omega) (ls := [some (.ref 0), some (.int (nI 1)), some (.int (nI a)), some (.int (nI b)), some (.int (nI 3)), none, none]) rfl (fun d2 hd2 => ?_)
                refine am_run 2 (pc' := 2) (ls' := [some (.ref 0), some (.int (nI 1)), some (.int (nI a)), some (.int (nI b)), some (.int (nI 3)), none, none]) (st' := [.int (nI 1), .ref 0]) (σ' := σ) rfl ?_
                refine am_invv (y := 151) (b := 0) (as := [.int (nI 1)]) (rest := []) rfl rfl rfl rfl rfl rfl rfl (Nat.le_of_ble_eq_true rfl) ?_
                refine c_prog1_1 (by omega) (n := n) (by exact hn2) hn1 hn60 ?_
                show am_G _ M_X10_found _ 5 [some (.ref 0), some (.int (nI 1)), some (.int (nI a)), some (.int (nI b)), some (.int (nI 3)), none, none] [.int (nI 1)] σ
                refine am_if (ty := 8) (tn := 11) rfl (by decide) rfl rfl (fun (h_101 : nI 1 = 0) => ?_) (fun (h_101 : ¬ (nI 1 = 0)) => ?_)
                · exact absurd h_101 (by decide)
                refine am_run 3 (pc' := 16) (ls' := [some (.ref 0), some (.int (nI 1)), some (.int (nI a)), some (.int (nI b)), some (.int (nI 3)), none, none]) (st' := [.int (nI 255), .int (nI 0), .int (nI a)]) (σ' := σ) rfl ?_
                refine am_invs (y := 148) (as := [.int (nI a), .int (nI 0), .int (nI 255)]) (rest := []) rfl rfl rfl rfl rfl rfl (Nat.le_of_ble_eq_true rfl) ?_
                refine c_in1 (by omega) (by omega) (by omega) (by omega) ?_
                show am_G _ M_X10_found _ 19 [some (.ref 0), some (.int (nI 1)), some (.int (nI a)), some (.int (nI b)), some (.int (nI 3)), none, none] [.int (nI 1)] σ
                refine am_if (ty := 47) (tn := 22) rfl (by decide) rfl rfl (fun (h_102 : nI 1 = 0) => ?_) (fun (h_102 : ¬ (nI 1 = 0)) => ?_)
                · exact absurd h_102 (by decide)
                refine am_run 3 (pc' := 27) (ls' := [some (.ref 0), some (.int (nI 1)), some (.int (nI a)), some (.int (nI b)), some (.int (nI 3)), none, none]) (st' := [.int (nI 255), .int (nI 0), .int (nI b)]) (σ' := σ) rfl ?_
                refine am_invs (y := 148) (as := [.int (nI b), .int (nI 0), .int (nI 255)]) (rest := []) rfl rfl rfl rfl rfl rfl (Nat.le_of_ble_eq_true rfl) ?_
                refine c_in1 (by omega) (by omega) (by omega) (by omega) ?_
                show am_G _ M_X10_found _ 30 [some (.ref 0), some (.int (nI 1)), some (.int (nI a)), some (.int (nI b)), some (.int (nI 3)), none, none] [.int (nI 1)] σ
                refine am_if (ty := 47) (tn := 33) rfl (by decide) rfl rfl (fun (h_103 : nI 1 = 0) => ?_) (fun (h_103 : ¬ (nI 1 = 0)) => ?_)
                · exact absurd h_103 (by decide)
                refine am_run 3 (pc' := 37) (ls' := [some (.ref 0), some (.int (nI 1)), some (.int (nI a)), some (.int (nI b)), some (.int (nI 3)), none, none]) (st' := [.int (nI 3), .int (nI 0), .int (nI 3)]) (σ' := σ) rfl ?_
                refine am_invs (y := 148) (as := [.int (nI 3), .int (nI 0), .int (nI 3)]) (rest := []) rfl rfl rfl rfl rfl rfl (Nat.le_of_ble_eq_true rfl) ?_
                refine c_in1 (by omega) (by omega) (by omega) (by omega) ?_
                show am_G _ M_X10_found _ 40 [some (.ref 0), some (.int (nI 1)), some (.int (nI a)), some (.int (nI b)), some (.int (nI 3)), none, none] [.int (nI 1)] σ
                refine am_if (ty := 47) (tn := 43) rfl (by decide) rfl rfl (fun (h_104 : nI 1 = 0) => ?_) (fun (h_104 : ¬ (nI 1 = 0)) => ?_)
                · exact absurd h_104 (by decide)
                refine am_run 4 (pc' := 52) (ls' := [some (.ref 0), some (.int (nI 1)), some (.int (nI a)), some (.int (nI b)), some (.int (nI 3)), some (.int (nI 1)), none]) (st' := [.int (nI 1)]) (σ' := σ) rfl ?_
                refine am_if (ty := 61) (tn := 55) rfl (by decide) rfl rfl (fun (h_105 : nI 1 = 0) => ?_) (fun (h_105 : ¬ (nI 1 = 0)) => ?_)
                · exact absurd h_105 (by decide)
                refine am_run 3 (pc' := 58) (ls' := [some (.ref 0), some (.int (nI 1)), some (.int (nI a)), some (.int (nI b)), some (.int (nI 3)), some (.int (nI 1)), none]) (st' := [.int (nI a &&& nI b)]) (σ' := σ) rfl ?_
                refine am_top (v' := nI (a &&& b)) (nx_and _ _) ?_
                refine am_if (ty := 64) (tn := 61) rfl (by decide) rfl rfl (fun (h_106 : nI (a &&& b) = 0) => ?_) (fun (h_106 : ¬ (nI (a &&& b) = 0)) => ?_)
                rotate_left
                · have h_106 : ¬ (a &&& b = 0) := fun z => h_106 ((am_n0 (by omega)).mpr z)
                  omega
                have h_106 : a &&& b = 0 := (am_n0 (by omega)).mp h_106
                refine am_run 3 (pc' := 69) (ls' := [some (.ref 0), some (.int (nI 1)), some (.int (nI a)), some (.int (nI b)), some (.int (nI 3)), some (.int (nI 1)), none]) (st' := [.int (nI 1), .ref 17]) (σ' := σ) rfl ?_
                refine am_ialdN (n := 2) (v := nI s) rfl rfl rfl (by decide) b3 (by decide) ?_
                refine am_if (ty := 73) (tn := 77) rfl (by decide) rfl rfl (fun (h_107 : nI s = 0) => ?_) (fun (h_107 : ¬ (nI s = 0)) => ?_)
                · have h_107 : s = 0 := (am_n0 (by omega)).mp h_107
                  omega
                have h_107 : ¬ (s = 0) := fun z => h_107 ((am_n0 (by omega)).mpr z)
                refine am_run 2 (pc' := 80) (ls' := [some (.ref 0), some (.int (nI 1)), some (.int (nI a)), some (.int (nI b)), some (.int (nI 3)), some (.int (nI 1)), some (.int (nI 0))]) (st' := []) (σ' := σ) rfl ?_
                refine c_found_loop (by omega) ha hb (fun σ3 h1 h2 i29 => ?_) 8 0 _ rfl (fun _ _ => rfl) rfl (fun g z => absurd z (Nat.not_lt_zero _))
                have hM3 := hM.keep2 (σ' := σ3) (fun c a => h1 c (by omega))
                have b33 : σ3.1 17 1 = nI s := by rw [h1 17 (by decide)]; exact b3
                refine am_run 5 (pc' := 134) (ls' := [some (.ref 0), some (.int (nI 1)), some (.int (nI a)), some (.int (nI b)), some (.int (nI 3)), some (.int (nI 1)), some (.int (nI 8))]) (st' := [.int (nI 1), .ref 17, .int (nI 1), .ref 0]) (σ' := σ3) rfl ?_
                refine am_ialdN (n := 2) (v := nI s) rfl rfl rfl (by decide) b33 (by decide) ?_
                refine am_invv (y := 209) (b := 0) (as := [.int (nI 1), .int (nI s)]) (rest := []) rfl rfl rfl rfl rfl rfl rfl (Nat.le_of_ble_eq_true rfl) ?_
                refine c_lays (by omega) hM3.1 hs i29 hdj ha hb (fun σ4 hL hB hT => ?_)
                show am_G _ M_X10_found _ 138 [some (.ref 0), some (.int (nI 1)), some (.int (nI a)), some (.int (nI b)), some (.int (nI 3)), some (.int (nI 1)), some (.int (nI 8))] [] σ4
                refine am_run 1 (pc' := 139) (ls' := [some (.ref 0), some (.int (nI 1)), some (.int (nI a)), some (.int (nI b)), some (.int (nI 3)), some (.int (nI 1)), some (.int (nI 8))]) (st' := [.ref 0]) (σ' := σ4) rfl ?_
                refine am_invv (y := 211) (b := 0) (as := []) (rest := []) rfl rfl rfl rfl rfl rfl rfl (Nat.le_of_ble_eq_true rfl) ?_
                refine c_m_whole (by omega) hB (by rw [hL.1 4 (by decide) (by decide)]; exact hM3.2.1.1) hrn hM.2.1.2.2 (hT r hrn 0 (Nat.pow_pos (by decide))) (hv.2.resolve_left hs0) ?_
                show am_G _ M_X10_found _ 142 [some (.ref 0), some (.int (nI 1)), some (.int (nI a)), some (.int (nI b)), some (.int (nI 3)), some (.int (nI 1)), some (.int (nI 8))] [.int (nI (eM (an p 61 (r + 1) s true a b)))] σ4
                refine am_run 2 (pc' := 146) (ls' := [some (.ref 0), some (.int (nI 1)), some (.int (nI a)), some (.int (nI b)), some (.int (nI 3)), some (.int (nI 1)), some (.int (nI (eM (an p 61 (r + 1) s true a b))))]) (st' := [.int (nI 3)]) (σ' := σ4) rfl ?_
                refine am_if (ty := 149) (tn := 157) rfl (by decide) rfl rfl (fun (h_301 : nI 3 = 0) => ?_) (fun (h_301 : ¬ (nI 3 = 0)) => ?_)
                · exact absurd h_301 (by decide)
                refine am_run 2 (pc' := 160) (ls' := [some (.ref 0), some (.int (nI 1)), some (.int (nI a)), some (.int (nI b)), some (.int (nI 3)), some (.int (nI 1)), some (.int (nI (eM (an p 61 (r + 1) s true a b))))]) (st' := [.int (nI 1), .int (nI 3)]) (σ' := σ4) rfl ?_
                refine am_ic (ty := 163) (tn := 171) rfl (by decide) rfl rfl (fun (h_302 : nI 3 = nI 1) => ?_) (fun (h_302 : ¬ (nI 3 = nI 1)) => ?_)
                · exact absurd h_302 (by decide)
                refine am_run 2 (pc' := 174) (ls' := [some (.ref 0), some (.int (nI 1)), some (.int (nI a)), some (.int (nI b)), some (.int (nI 3)), some (.int (nI 1)), some (.int (nI (eM (an p 61 (r + 1) s true a b))))]) (st' := [.int (nI 2), .int (nI 3)]) (σ' := σ4) rfl ?_
                refine am_ic (ty := 177) (tn := 185) rfl (by decide) rfl rfl (fun (h_303 : nI 3 = nI 2) => ?_) (fun (h_303 : ¬ (nI 3 = nI 2)) => ?_)
                · exact absurd h_303 (by decide)
                refine am_run 1 (pc' := 187) (ls' := [some (.ref 0), some (.int (nI 1)), some (.int (nI a)), some (.int (nI b)), some (.int (nI 3)), some (.int (nI 1)), some (.int (nI (eM (an p 61 (r + 1) s true a b))))]) (st' := [.int (nI (eM (an p 61 (r + 1) s true a b)))]) (σ' := σ4) rfl ?_
                refine am_invs (y := 188) (as := [.int (nI (eM (an p 61 (r + 1) s true a b)))]) (rest := []) rfl rfl rfl rfl rfl rfl (Nat.le_of_ble_eq_true rfl) ?_
                refine c_m_canCodes (by omega) (r := (an p 61 (r + 1) s true a b)) ok2 ?_
                show am_G _ M_X10_found _ 190 [some (.ref 0), some (.int (nI 1)), some (.int (nI a)), some (.int (nI b)), some (.int (nI 3)), some (.int (nI 1)), some (.int (nI (eM (an p 61 (r + 1) s true a b))))] [.int (nI ((an p 61 (r + 1) s true a b).2.2.2))] σ4
                refine am_reti rfl rfl ?_
                exact ⟨rfl, (((KS.of29 h1 h2).tr hL.KS).KI).inv hI⟩
          · skip
            refine ⟨-1000002, ?_⟩
            refine am_enter' (M := M_X9_found) rfl rfl rfl (by omega) (ls := [some (.ref 41), some (.int (nI 1)), some (.int (nI a)), some (.int (nI b)), some (.int (nI u2)), none, none, none]) rfl (fun d' hd' => ?_)
            refine am_run 2 (pc' := 2) (ls' := [some (.ref 41), some (.int (nI 1)), some (.int (nI a)), some (.int (nI b)), some (.int (nI u2)), none, none, none]) (st' := [.int (nI 1), .ref 41]) (σ' := σ) rfl ?_
            refine am_invv (y := 140) (b := 41) (as := [.int (nI 1)]) (rest := []) rfl rfl rfl rfl rfl rfl rfl (Nat.le_of_ble_eq_true rfl) ?_
            refine c_filled1_1 (by omega) hf ?_
            show am_G _ M_X9_found _ 5 [some (.ref 41), some (.int (nI 1)), some (.int (nI a)), some (.int (nI b)), some (.int (nI u2)), none, none, none] [.ref 75] σ
            refine am_run 4 (pc' := 16) (ls' := [some (.ref 41), some (.int (nI 1)), some (.int (nI a)), some (.int (nI b)), some (.int (nI u2)), some (.ref 75), none, none]) (st' := [.int (nI a)]) (σ' := σ) rfl ?_
            refine am_invs (y := 141) (as := [.int (nI a)]) (rest := []) rfl rfl rfl rfl rfl rfl (Nat.le_of_ble_eq_true rfl) ?_
            refine c_sig1 (by omega) (by omega) ?_
            show am_G _ M_X9_found _ 19 [some (.ref 41), some (.int (nI 1)), some (.int (nI a)), some (.int (nI b)), some (.int (nI u2)), some (.ref 75), none, none] [.int (nI 1)] σ
            refine am_if (ty := 46) (tn := 22) rfl (by decide) rfl rfl (fun (h_1 : nI 1 = 0) => ?_) (fun (h_1 : ¬ (nI 1 = 0)) => ?_)
            · exact absurd h_1 (by decide)
            refine am_run 1 (pc' := 23) (ls' := [some (.ref 41), some (.int (nI 1)), some (.int (nI a)), some (.int (nI b)), some (.int (nI u2)), some (.ref 75), none, none]) (st' := [.int (nI b)]) (σ' := σ) rfl ?_
            refine am_invs (y := 141) (as := [.int (nI b)]) (rest := []) rfl rfl rfl rfl rfl rfl (Nat.le_of_ble_eq_true rfl) ?_
            refine c_sig1 (by omega) (by omega) ?_
            show am_G _ M_X9_found _ 26 [some (.ref 41), some (.int (nI 1)), some (.int (nI a)), some (.int (nI b)), some (.int (nI u2)), some (.ref 75), none, none] [.int (nI 1)] σ
            refine am_if (ty := 46) (tn := 29) rfl (by decide) rfl rfl (fun (h_2 : nI 1 = 0) => ?_) (fun (h_2 : ¬ (nI 1 = 0)) => ?_)
            · exact absurd h_2 (by decide)
            refine am_run 3 (pc' := 32) (ls' := [some (.ref 41), some (.int (nI 1)), some (.int (nI a)), some (.int (nI b)), some (.int (nI u2)), some (.ref 75), none, none]) (st' := [.int (nI a &&& nI b)]) (σ' := σ) rfl ?_
            refine am_top (v' := nI (a &&& b)) (nx_and _ _) ?_
            refine am_if (ty := 35) (tn := 46) rfl (by decide) rfl rfl (fun (h_3 : nI (a &&& b) = 0) => ?_) (fun (h_3 : ¬ (nI (a &&& b) = 0)) => ?_)
            · have h_3 : a &&& b = 0 := (am_n0 (by omega)).mp h_3
              omega
            have h_3 : ¬ (a &&& b = 0) := fun z => h_3 ((am_n0 (by omega)).mpr z)
            refine am_run 1 (pc' := 48) (ls' := [some (.ref 41), some (.int (nI 1)), some (.int (nI a)), some (.int (nI b)), some (.int (nI u2)), some (.ref 75), none, none]) (st' := [.int (-1000002)]) (σ' := σ) rfl ?_
            refine am_reti rfl rfl ?_
            refine ⟨rfl, ?_⟩
            refine am_enter' (M := M_X10_found) rfl rfl rfl (by omega) (ls := [some (.ref 0), some (.int (nI 1)), some (.int (nI a)), some (.int (nI b)), some (.int (nI u2)), none, none]) rfl (fun d2 hd2 => ?_)
            refine am_run 2 (pc' := 2) (ls' := [some (.ref 0), some (.int (nI 1)), some (.int (nI a)), some (.int (nI b)), some (.int (nI u2)), none, none]) (st' := [.int (nI 1), .ref 0]) (σ' := σ) rfl ?_
            refine am_invv (y := 151) (b := 0) (as := [.int (nI 1)]) (rest := []) rfl rfl rfl rfl rfl rfl rfl (Nat.le_of_ble_eq_true rfl) ?_
            refine c_prog1_1 (by omega) (n := n) (by exact hn2) hn1 hn60 ?_
            show am_G _ M_X10_found _ 5 [some (.ref 0), some (.int (nI 1)), some (.int (nI a)), some (.int (nI b)), some (.int (nI u2)), none, none] [.int (nI 1)] σ
            refine am_if (ty := 8) (tn := 11) rfl (by decide) rfl rfl (fun (h_101 : nI 1 = 0) => ?_) (fun (h_101 : ¬ (nI 1 = 0)) => ?_)
            · exact absurd h_101 (by decide)
            refine am_run 3 (pc' := 16) (ls' := [some (.ref 0), some (.int (nI 1)), some (.int (nI a)), some (.int (nI b)), some (.int (nI u2)), none, none]) (st' := [.int (nI 255), .int (nI 0), .int (nI a)]) (σ' := σ) rfl ?_
            refine am_invs (y := 148) (as := [.int (nI a), .int (nI 0), .int (nI 255)]) (rest := []) rfl rfl rfl rfl rfl rfl (Nat.le_of_ble_eq_true rfl) ?_
            refine c_in1 (by omega) (by omega) (by omega) (by omega) ?_
            show am_G _ M_X10_found _ 19 [some (.ref 0), some (.int (nI 1)), some (.int (nI a)), some (.int (nI b)), some (.int (nI u2)), none, none] [.int (nI 1)] σ
            refine am_if (ty := 47) (tn := 22) rfl (by decide) rfl rfl (fun (h_102 : nI 1 = 0) => ?_) (fun (h_102 : ¬ (nI 1 = 0)) => ?_)
            · exact absurd h_102 (by decide)
            refine am_run 3 (pc' := 27) (ls' := [some (.ref 0), some (.int (nI 1)), some (.int (nI a)), some (.int (nI b)), some (.int (nI u2)), none, none]) (st' := [.int (nI 255), .int (nI 0), .int (nI b)]) (σ' := σ) rfl ?_
            refine am_invs (y := 148) (as := [.int (nI b), .int (nI 0), .int (nI 255)]) (rest := []) rfl rfl rfl rfl rfl rfl (Nat.le_of_ble_eq_true rfl) ?_
            refine c_in1 (by omega) (by omega) (by omega) (by omega) ?_
            show am_G _ M_X10_found _ 30 [some (.ref 0), some (.int (nI 1)), some (.int (nI a)), some (.int (nI b)), some (.int (nI u2)), none, none] [.int (nI 1)] σ
            refine am_if (ty := 47) (tn := 33) rfl (by decide) rfl rfl (fun (h_103 : nI 1 = 0) => ?_) (fun (h_103 : ¬ (nI 1 = 0)) => ?_)
            · exact absurd h_103 (by decide)
            refine am_run 3 (pc' := 37) (ls' := [some (.ref 0), some (.int (nI 1)), some (.int (nI a)), some (.int (nI b)), some (.int (nI u2)), none, none]) (st' := [.int (nI 3), .int (nI 0), .int (nI u2)]) (σ' := σ) rfl ?_
            refine am_invs (y := 148) (as := [.int (nI u2), .int (nI 0), .int (nI 3)]) (rest := []) rfl rfl rfl rfl rfl rfl (Nat.le_of_ble_eq_true rfl) ?_
            refine c_in1 (by omega) (by omega) (by omega) (by omega) ?_
            show am_G _ M_X10_found _ 40 [some (.ref 0), some (.int (nI 1)), some (.int (nI a)), some (.int (nI b)), some (.int (nI u2)), none, none] [.int (nI 1)] σ
            refine am_if (ty := 47) (tn := 43) rfl (by decide) rfl rfl (fun (h_104 : nI 1 = 0) => ?_) (fun (h_104 : ¬ (nI 1 = 0)) => ?_)
            · exact absurd h_104 (by decide)
            refine am_run 4 (pc' := 52) (ls' := [some (.ref 0), some (.int (nI 1)), some (.int (nI a)), some (.int (nI b)), some (.int (nI u2)), some (.int (nI 1)), none]) (st' := [.int (nI 1)]) (σ' := σ) rfl ?_
            refine am_if (ty := 61) (tn := 55) rfl (by decide) rfl rfl (fun (h_105 : nI 1 = 0) => ?_) (fun (h_105 : ¬ (nI 1 = 0)) => ?_)
            · exact absurd h_105 (by decide)
            refine am_run 3 (pc' := 58) (ls' := [some (.ref 0), some (.int (nI 1)), some (.int (nI a)), some (.int (nI b)), some (.int (nI u2)), some (.int (nI 1)), none]) (st' := [.int (nI a &&& nI b)]) (σ' := σ) rfl ?_
            refine am_top (v' := nI (a &&& b)) (nx_and _ _) ?_
            refine am_if (ty := 64) (tn := 61) rfl (by decide) rfl rfl (fun (h_106 : nI (a &&& b) = 0) => ?_) (fun (h_106 : ¬ (nI (a &&& b) = 0)) => ?_)
            · have h_106 : a &&& b = 0 := (am_n0 (by omega)).mp h_106
              omega
            have h_106 : ¬ (a &&& b = 0) := fun z => h_106 ((am_n0 (by omega)).mpr z)
            refine am_run 1 (pc' := 63) (ls' := [some (.ref 0), some (.int (nI 1)), some (.int (nI a)), some (.int (nI b)), some (.int (nI u2)), some (.int (nI 1)), none]) (st' := [.int (-1000002)]) (σ' := σ) rfl ?_
            refine am_reti rfl rfl ?_
            exact ⟨rfl, hI⟩
        · rcases id hv_ with hvn | ⟨hv0, hvb⟩
          · by_cases hov : a &&& b = 0
            · skip
              refine ⟨-1000002, ?_⟩
              refine am_enter' (M := M_X9_found) rfl rfl rfl (by omega) (ls := [some (.ref 41), some (.int (nI 1)), some (.int (nI a)), some (.int (nI b)), some (.int v), none, none, none]) rfl (fun d' hd' => ?_)
              refine am_run 2 (pc' := 2) (ls' := [some (.ref 41), some (.int (nI 1)), some (.int (nI a)), some (.int (nI b)), some (.int v), none, none, none]) (st' := [.int (nI 1), .ref 41]) (σ' := σ) rfl ?_
              refine am_invv (y := 140) (b := 41) (as := [.int (nI 1)]) (rest := []) rfl rfl rfl rfl rfl rfl rfl (Nat.le_of_ble_eq_true rfl) ?_
              refine c_filled1_1 (by omega) hf ?_
              show am_G _ M_X9_found _ 5 [some (.ref 41), some (.int (nI 1)), some (.int (nI a)), some (.int (nI b)), some (.int v), none, none, none] [.ref 75] σ
              refine am_run 4 (pc' := 16) (ls' := [some (.ref 41), some (.int (nI 1)), some (.int (nI a)), some (.int (nI b)), some (.int v), some (.ref 75), none, none]) (st' := [.int (nI a)]) (σ' := σ) rfl ?_
              refine am_invs (y := 141) (as := [.int (nI a)]) (rest := []) rfl rfl rfl rfl rfl rfl (Nat.le_of_ble_eq_true rfl) ?_
              refine c_sig1 (by omega) (by omega) ?_
              show am_G _ M_X9_found _ 19 [some (.ref 41), some (.int (nI 1)), some (.int (nI a)), some (.int (nI b)), some (.int v), some (.ref 75), none, none] [.int (nI 1)] σ
              refine am_if (ty := 46) (tn := 22) rfl (by decide) rfl rfl (fun (h_1 : nI 1 = 0) => ?_) (fun (h_1 : ¬ (nI 1 = 0)) => ?_)
              · exact absurd h_1 (by decide)
              refine am_run 1 (pc' := 23) (ls' := [some (.ref 41), some (.int (nI 1)), some (.int (nI a)), some (.int (nI b)), some (.int v), some (.ref 75), none, none]) (st' := [.int (nI b)]) (σ' := σ) rfl ?_
              refine am_invs (y := 141) (as := [.int (nI b)]) (rest := []) rfl rfl rfl rfl rfl rfl (Nat.le_of_ble_eq_true rfl) ?_
              refine c_sig1 (by omega) (by omega) ?_
              show am_G _ M_X9_found _ 26 [some (.ref 41), some (.int (nI 1)), some (.int (nI a)), some (.int (nI b)), some (.int v), some (.ref 75), none, none] [.int (nI 1)] σ
              refine am_if (ty := 46) (tn := 29) rfl (by decide) rfl rfl (fun (h_2 : nI 1 = 0) => ?_) (fun (h_2 : ¬ (nI 1 = 0)) => ?_)
              · exact absurd h_2 (by decide)
              refine am_run 3 (pc' := 32) (ls' := [some (.ref 41), some (.int (nI 1)), some (.int (nI a)), some (.int (nI b)), some (.int v), some (.ref 75), none, none]) (st' := [.int (nI a &&& nI b)]) (σ' := σ) rfl ?_
              refine am_top (v' := nI (a &&& b)) (nx_and _ _) ?_
              refine am_if (ty := 35) (tn := 46) rfl (by decide) rfl rfl (fun (h_3 : nI (a &&& b) = 0) => ?_) (fun (h_3 : ¬ (nI (a &&& b) = 0)) => ?_)
              rotate_left
              · have h_3 : ¬ (a &&& b = 0) := fun z => h_3 ((am_n0 (by omega)).mpr z)
                omega
              have h_3 : a &&& b = 0 := (am_n0 (by omega)).mp h_3
              refine am_run 1 (pc' := 37) (ls' := [some (.ref 41), some (.int (nI 1)), some (.int (nI a)), some (.int (nI b)), some (.int v), some (.ref 75), none, none]) (st' := [.int v]) (σ' := σ) rfl ?_
              refine am_if (ty := 46) (tn := 40) rfl (by decide) rfl rfl (fun (h_4 : v < 0) => ?_) (fun (h_4 : ¬ (v < 0)) => ?_)
              rotate_left
              · exact absurd hvn h_4
              refine am_run 1 (pc' := 48) (ls' := [some (.ref 41), some (.int (nI 1)), some (.int (nI a)), some (.int (nI b)), some (.int v), some (.ref 75), none, none]) (st' := [.int (-1000002)]) (σ' := σ) rfl ?_
              refine am_reti rfl rfl ?_
              refine ⟨rfl, ?_⟩
              refine am_enter' (M := M_X10_found) rfl rfl rfl (by omega) (ls := [some (.ref 0), some (.int (nI 1)), some (.int (nI a)), some (.int (nI b)), some (.int v), none, none]) rfl (fun d2 hd2 => ?_)
              refine am_run 2 (pc' := 2) (ls' := [some (.ref 0), some (.int (nI 1)), some (.int (nI a)), some (.int (nI b)), some (.int v), none, none]) (st' := [.int (nI 1), .ref 0]) (σ' := σ) rfl ?_
              refine am_invv (y := 151) (b := 0) (as := [.int (nI 1)]) (rest := []) rfl rfl rfl rfl rfl rfl rfl (Nat.le_of_ble_eq_true rfl) ?_
              refine c_prog1_1 (by omega) (n := n) (by exact hn2) hn1 hn60 ?_
              show am_G _ M_X10_found _ 5 [some (.ref 0), some (.int (nI 1)), some (.int (nI a)), some (.int (nI b)), some (.int v), none, none] [.int (nI 1)] σ
              refine am_if (ty := 8) (tn := 11) rfl (by decide) rfl rfl (fun (h_101 : nI 1 = 0) => ?_) (fun (h_101 : ¬ (nI 1 = 0)) => ?_)
              · exact absurd h_101 (by decide)
              refine am_run 3 (pc' := 16) (ls' := [some (.ref 0), some (.int (nI 1)), some (.int (nI a)), some (.int (nI b)), some (.int v), none, none]) (st' := [.int (nI 255), .int (nI 0), .int (nI a)]) (σ' := σ) rfl ?_
              refine am_invs (y := 148) (as := [.int (nI a), .int (nI 0), .int (nI 255)]) (rest := []) rfl rfl rfl rfl rfl rfl (Nat.le_of_ble_eq_true rfl) ?_
              refine c_in1 (by omega) (by omega) (by omega) (by omega) ?_
              show am_G _ M_X10_found _ 19 [some (.ref 0), some (.int (nI 1)), some (.int (nI a)), some (.int (nI b)), some (.int v), none, none] [.int (nI 1)] σ
              refine am_if (ty := 47) (tn := 22) rfl (by decide) rfl rfl (fun (h_102 : nI 1 = 0) => ?_) (fun (h_102 : ¬ (nI 1 = 0)) => ?_)
              · exact absurd h_102 (by decide)
              refine am_run 3 (pc' := 27) (ls' := [some (.ref 0), some (.int (nI 1)), some (.int (nI a)), some (.int (nI b)), some (.int v), none, none]) (st' := [.int (nI 255), .int (nI 0), .int (nI b)]) (σ' := σ) rfl ?_
              refine am_invs (y := 148) (as := [.int (nI b), .int (nI 0), .int (nI 255)]) (rest := []) rfl rfl rfl rfl rfl rfl (Nat.le_of_ble_eq_true rfl) ?_
              refine c_in1 (by omega) (by omega) (by omega) (by omega) ?_
              show am_G _ M_X10_found _ 30 [some (.ref 0), some (.int (nI 1)), some (.int (nI a)), some (.int (nI b)), some (.int v), none, none] [.int (nI 1)] σ
              refine am_if (ty := 47) (tn := 33) rfl (by decide) rfl rfl (fun (h_103 : nI 1 = 0) => ?_) (fun (h_103 : ¬ (nI 1 = 0)) => ?_)
              · exact absurd h_103 (by decide)
              refine am_run 3 (pc' := 37) (ls' := [some (.ref 0), some (.int (nI 1)), some (.int (nI a)), some (.int (nI b)), some (.int v), none, none]) (st' := [.int (nI 3), .int (nI 0), .int v]) (σ' := σ) rfl ?_
              refine am_invs (y := 148) (as := [.int v, .int (nI 0), .int (nI 3)]) (rest := []) rfl rfl rfl rfl rfl rfl (Nat.le_of_ble_eq_true rfl) ?_
              refine c_in0 (by omega) hv_ ?_
              show am_G _ M_X10_found _ 40 [some (.ref 0), some (.int (nI 1)), some (.int (nI a)), some (.int (nI b)), some (.int v), none, none] [.int (nI 0)] σ
              refine am_if (ty := 47) (tn := 43) rfl (by decide) rfl rfl (fun (h_104 : nI 0 = 0) => ?_) (fun (h_104 : ¬ (nI 0 = 0)) => ?_)
              rotate_left
              · exact absurd (by decide) h_104
              refine am_run 3 (pc' := 52) (ls' := [some (.ref 0), some (.int (nI 1)), some (.int (nI a)), some (.int (nI b)), some (.int v), some (.int (nI 0)), none]) (st' := [.int (nI 0)]) (σ' := σ) rfl ?_
              refine am_if (ty := 61) (tn := 55) rfl (by decide) rfl rfl (fun (h_105 : nI 0 = 0) => ?_) (fun (h_105 : ¬ (nI 0 = 0)) => ?_)
              rotate_left
              · exact absurd (by decide) h_105
              refine am_run 1 (pc' := 63) (ls' := [some (.ref 0), some (.int (nI 1)), some (.int (nI a)), some (.int (nI b)), some (.int v), some (.int (nI 0)), none]) (st' := [.int (-1000002)]) (σ' := σ) rfl ?_
              refine am_reti rfl rfl ?_
              exact ⟨rfl, hI⟩
            · skip
              refine ⟨-1000002, ?_⟩
              refine am_enter' (M := M_X9_found) rfl rfl rfl (by omega) (ls := [some (.ref 41), some (.int (nI 1)), some (.int (nI a)), some (.int (nI b)), some (.int v), none, none, none]) rfl (fun d' hd' => ?_)
              refine am_run 2 (pc' := 2) (ls' := [some (.ref 41), some (.int (nI 1)), some (.int (nI a)), some (.int (nI b)), some (.int v), none, none, none]) (st' := [.int (nI 1), .ref 41]) (σ' := σ) rfl ?_
              refine am_invv (y := 140) (b := 41) (as := [.int (nI 1)]) (rest := []) rfl rfl rfl rfl rfl rfl rfl (Nat.le_of_ble_eq_true rfl) ?_
              refine c_filled1_1 (by omega) hf ?_
              show am_G _ M_X9_found _ 5 [some (.ref 41), some (.int (nI 1)), some (.int (nI a)), some (.int (nI b)), some (.int v), none, none, none] [.ref 75] σ
              refine am_run 4 (pc' := 16) (ls' := [some (.ref 41), some (.int (nI 1)), some (.int (nI a)), some (.int (nI b)), some (.int v), some (.ref 75), none, none]) (st' := [.int (nI a)]) (σ' := σ) rfl ?_
              refine am_invs (y := 141) (as := [.int (nI a)]) (rest := []) rfl rfl rfl rfl rfl rfl (Nat.le_of_ble_eq_true rfl) ?_
              refine c_sig1 (by omega) (by omega) ?_
              show am_G _ M_X9_found _ 19 [some (.ref 41), some (.int (nI 1)), some (.int (nI a)), some (.int (nI b)), some (.int v), some (.ref 75), none, none] [.int (nI 1)] σ
              refine am_if (ty := 46) (tn := 22) rfl (by decide) rfl rfl (fun (h_1 : nI 1 = 0) => ?_) (fun (h_1 : ¬ (nI 1 = 0)) => ?_)
              · exact absurd h_1 (by decide)
              refine am_run 1 (pc' := 23) (ls' := [some (.ref 41), some (.int (nI 1)), some (.int (nI a)), some (.int (nI b)), some (.int v), some (.ref 75), none, none]) (st' := [.int (nI b)]) (σ' := σ) rfl ?_
              refine am_invs (y := 141) (as := [.int (nI b)]) (rest := []) rfl rfl rfl rfl rfl rfl (Nat.le_of_ble_eq_true rfl) ?_
              refine c_sig1 (by omega) (by omega) ?_
              show am_G _ M_X9_found _ 26 [some (.ref 41), some (.int (nI 1)), some (.int (nI a)), some (.int (nI b)), some (.int v), some (.ref 75), none, none] [.int (nI 1)] σ
              refine am_if (ty := 46) (tn := 29) rfl (by decide) rfl rfl (fun (h_2 : nI 1 = 0) => ?_) (fun (h_2 : ¬ (nI 1 = 0)) => ?_)
              · exact absurd h_2 (by decide)
              refine am_run 3 (pc' := 32) (ls' := [some (.ref 41), some (.int (nI 1)), some (.int (nI a)), some (.int (nI b)), some (.int v), some (.ref 75), none, none]) (st' := [.int (nI a &&& nI b)]) (σ' := σ) rfl ?_
              refine am_top (v' := nI (a &&& b)) (nx_and _ _) ?_
              refine am_if (ty := 35) (tn := 46) rfl (by decide) rfl rfl (fun (h_3 : nI (a &&& b) = 0) => ?_) (fun (h_3 : ¬ (nI (a &&& b) = 0)) => ?_)
              · have h_3 : a &&& b = 0 := (am_n0 (by omega)).mp h_3
                omega
              have h_3 : ¬ (a &&& b = 0) := fun z => h_3 ((am_n0 (by omega)).mpr z)
              refine am_run 1 (pc' := 48) (ls' := [some (.ref 41), some (.int (nI 1)), some (.int (nI a)), some (.int (nI b)), some (.int v), some (.ref 75), none, none]) (st' := [.int (-1000002)]) (σ' := σ) rfl ?_
              refine am_reti rfl rfl ?_
              refine ⟨rfl, ?_⟩
              refine am_enter' (M := M_X10_found) rfl rfl rfl (by omega) (ls := [some (.ref 0), some (.int (nI 1)), some (.int (nI a)), some (.int (nI b)), some (.int v), none, none]) rfl (fun d2 hd2 => ?_)
              refine am_run 2 (pc' := 2) (ls' := [some (.ref 0), some (.int (nI 1)), some (.int (nI a)), some (.int (nI b)), some (.int v), none, none]) (st' := [.int (nI 1), .ref 0]) (σ' := σ) rfl ?_
              refine am_invv (y := 151) (b := 0) (as := [.int (nI 1)]) (rest := []) rfl rfl rfl rfl rfl rfl rfl (Nat.le_of_ble_eq_true rfl) ?_
              refine c_prog1_1 (by omega) (n := n) (by exact hn2) hn1 hn60 ?_
              show am_G _ M_X10_found _ 5 [some (.ref 0), some (.int (nI 1)), some (.int (nI a)), some (.int (nI b)), some (.int v), none, none] [.int (nI 1)] σ
              refine am_if (ty := 8) (tn := 11) rfl (by decide) rfl rfl (fun (h_101 : nI 1 = 0) => ?_) (fun (h_101 : ¬ (nI 1 = 0)) => ?_)
              · exact absurd h_101 (by decide)
              refine am_run 3 (pc' := 16) (ls' := [some (.ref 0), some (.int (nI 1)), some (.int (nI a)), some (.int (nI b)), some (.int v), none, none]) (st' := [.int (nI 255), .int (nI 0), .int (nI a)]) (σ' := σ) rfl ?_
              refine am_invs (y := 148) (as := [.int (nI a), .int (nI 0), .int (nI 255)]) (rest := []) rfl rfl rfl rfl rfl rfl (Nat.le_of_ble_eq_true rfl) ?_
              refine c_in1 (by omega) (by omega) (by omega) (by omega) ?_
              show am_G _ M_X10_found _ 19 [some (.ref 0), some (.int (nI 1)), some (.int (nI a)), some (.int (nI b)), some (.int v), none, none] [.int (nI 1)] σ
              refine am_if (ty := 47) (tn := 22) rfl (by decide) rfl rfl (fun (h_102 : nI 1 = 0) => ?_) (fun (h_102 : ¬ (nI 1 = 0)) => ?_)
              · exact absurd h_102 (by decide)
              refine am_run 3 (pc' := 27) (ls' := [some (.ref 0), some (.int (nI 1)), some (.int (nI a)), some (.int (nI b)), some (.int v), none, none]) (st' := [.int (nI 255), .int (nI 0), .int (nI b)]) (σ' := σ) rfl ?_
              refine am_invs (y := 148) (as := [.int (nI b), .int (nI 0), .int (nI 255)]) (rest := []) rfl rfl rfl rfl rfl rfl (Nat.le_of_ble_eq_true rfl) ?_
              refine c_in1 (by omega) (by omega) (by omega) (by omega) ?_
              show am_G _ M_X10_found _ 30 [some (.ref 0), some (.int (nI 1)), some (.int (nI a)), some (.int (nI b)), some (.int v), none, none] [.int (nI 1)] σ
              refine am_if (ty := 47) (tn := 33) rfl (by decide) rfl rfl (fun (h_103 : nI 1 = 0) => ?_) (fun (h_103 : ¬ (nI 1 = 0)) => ?_)
              · exact absurd h_103 (by decide)
              refine am_run 3 (pc' := 37) (ls' := [some (.ref 0), some (.int (nI 1)), some (.int (nI a)), some (.int (nI b)), some (.int v), none, none]) (st' := [.int (nI 3), .int (nI 0), .int v]) (σ' := σ) rfl ?_
              refine am_invs (y := 148) (as := [.int v, .int (nI 0), .int (nI 3)]) (rest := []) rfl rfl rfl rfl rfl rfl (Nat.le_of_ble_eq_true rfl) ?_
              refine c_in0 (by omega) hv_ ?_
              show am_G _ M_X10_found _ 40 [some (.ref 0), some (.int (nI 1)), some (.int (nI a)), some (.int (nI b)), some (.int v), none, none] [.int (nI 0)] σ
              refine am_if (ty := 47) (tn := 43) rfl (by decide) rfl rfl (fun (h_104 : nI 0 = 0) => ?_) (fun (h_104 : ¬ (nI 0 = 0)) => ?_)
              rotate_left
              · exact absurd (by decide) h_104
              refine am_run 3 (pc' := 52) (ls' := [some (.ref 0), some (.int (nI 1)), some (.int (nI a)), some (.int (nI b)), some (.int v), some (.int (nI 0)), none]) (st' := [.int (nI 0)]) (σ' := σ) rfl ?_
              refine am_if (ty := 61) (tn := 55) rfl (by decide) rfl rfl (fun (h_105 : nI 0 = 0) => ?_) (fun (h_105 : ¬ (nI 0 = 0)) => ?_)
              rotate_left
              · exact absurd (by decide) h_105
              refine am_run 1 (pc' := 63) (ls' := [some (.ref 0), some (.int (nI 1)), some (.int (nI a)), some (.int (nI b)), some (.int v), some (.int (nI 0)), none]) (st' := [.int (-1000002)]) (σ' := σ) rfl ?_
              refine am_reti rfl rfl ?_
              exact ⟨rfl, hI⟩
          · by_cases hov : a &&& b = 0
            · skip
              refine ⟨-1000002, ?_⟩
              refine am_enter' (M := M_X9_found) rfl rfl rfl (by omega) (ls := [some (.ref 41), some (.int (nI 1)), some (.int (nI a)), some (.int (nI b)), some (.int v), none, none, none]) rfl (fun d' hd' => ?_)
              refine am_run 2 (pc' := 2) (ls' := [some (.ref 41), some (.int (nI 1)), some (.int (nI a)), some (.int (nI b)), some (.int v), none, none, none]) (st' := [.int (nI 1), .ref 41]) (σ' := σ) rfl ?_
              refine am_invv (y := 140) (b := 41) (as := [.int (nI 1)]) (rest := []) rfl rfl rfl rfl rfl rfl rfl (Nat.le_of_ble_eq_true rfl) ?_
              refine c_filled1_1 (by omega) hf ?_
              show am_G _ M_X9_found _ 5 [some (.ref 41), some (.int (nI 1)), some (.int (nI a)), some (.int (nI b)), some (.int v), none, none, none] [.ref 75] σ
              refine am_run 4 (pc' := 16) (ls' := [some (.ref 41), some (.int (nI 1)), some (.int (nI a)), some (.int (nI b)), some (.int v), some (.ref 75), none, none]) (st' := [.int (nI a)]) (σ' := σ) rfl ?_
              refine am_invs (y := 141) (as := [.int (nI a)]) (rest := []) rfl rfl rfl rfl rfl rfl (Nat.le_of_ble_eq_true rfl) ?_
              refine c_sig1 (by omega) (by omega) ?_
              show am_G _ M_X9_found _ 19 [some (.ref 41), some (.int (nI 1)), some (.int (nI a)), some (.int (nI b)), some (.int v), some (.ref 75), none, none] [.int (nI 1)] σ
              refine am_if (ty := 46) (tn := 22) rfl (by decide) rfl rfl (fun (h_1 : nI 1 = 0) => ?_) (fun (h_1 : ¬ (nI 1 = 0)) => ?_)
              · exact absurd h_1 (by decide)
              refine am_run 1 (pc' := 23) (ls' := [some (.ref 41), some (.int (nI 1)), some (.int (nI a)), some (.int (nI b)), some (.int v), some (.ref 75), none, none]) (st' := [.int (nI b)]) (σ' := σ) rfl ?_
              refine am_invs (y := 141) (as := [.int (nI b)]) (rest := []) rfl rfl rfl rfl rfl rfl (Nat.le_of_ble_eq_true rfl) ?_
              refine c_sig1 (by omega) (by omega) ?_
              show am_G _ M_X9_found _ 26 [some (.ref 41), some (.int (nI 1)), some (.int (nI a)), some (.int (nI b)), some (.int v), some (.ref 75), none, none] [.int (nI 1)] σ
              refine am_if (ty := 46) (tn := 29) rfl (by decide) rfl rfl (fun (h_2 : nI 1 = 0) => ?_) (fun (h_2 : ¬ (nI 1 = 0)) => ?_)
              · exact absurd h_2 (by decide)
              refine am_run 3 (pc' := 32) (ls' := [some (.ref 41), some (.int (nI 1)), some (.int (nI a)), some (.int (nI b)), some (.int v), some (.ref 75), none, none]) (st' := [.int (nI a &&& nI b)]) (σ' := σ) rfl ?_
              refine am_top (v' := nI (a &&& b)) (nx_and _ _) ?_
              refine am_if (ty := 35) (tn := 46) rfl (by decide) rfl rfl (fun (h_3 : nI (a &&& b) = 0) => ?_) (fun (h_3 : ¬ (nI (a &&& b) = 0)) => ?_)
              rotate_left
              · have h_3 : ¬ (a &&& b = 0) := fun z => h_3 ((am_n0 (by omega)).mpr z)
                omega
              have h_3 : a &&& b = 0 := (am_n0 (by omega)).mp h_3
              refine am_run 1 (pc' := 37) (ls' := [some (.ref 41), some (.int (nI 1)), some (.int (nI a)), some (.int (nI b)), some (.int v), some (.ref 75), none, none]) (st' := [.int v]) (σ' := σ) rfl ?_
              refine am_if (ty := 46) (tn := 40) rfl (by decide) rfl rfl (fun (h_4 : v < 0) => ?_) (fun (h_4 : ¬ (v < 0)) => ?_)
              · exact absurd h_4 hv0
              refine am_run 2 (pc' := 43) (ls' := [some (.ref 41), some (.int (nI 1)), some (.int (nI a)), some (.int (nI b)), some (.int v), some (.ref 75), none, none]) (st' := [.int (nI 3), .int v]) (σ' := σ) rfl ?_
              refine am_ic (ty := 46) (tn := 49) rfl (by decide) rfl rfl (fun (h_5 : nI 3 < v) => ?_) (fun (h_5 : ¬ (nI 3 < v)) => ?_)
              rotate_left
              · exact absurd hvb h_5
              refine am_run 1 (pc' := 48) (ls' := [some (.ref 41), some (.int (nI 1)), some (.int (nI a)), some (.int (nI b)), some (.int v), some (.ref 75), none, none]) (st' := [.int (-1000002)]) (σ' := σ) rfl ?_
              refine am_reti rfl rfl ?_
              refine ⟨rfl, ?_⟩
              refine am_enter' (M := M_X10_found) rfl rfl rfl (by omega) (ls := [some (.ref 0), some (.int (nI 1)), some (.int (nI a)), some (.int (nI b)), some (.int v), none, none]) rfl (fun d2 hd2 => ?_)
              refine am_run 2 (pc' := 2) (ls' := [some (.ref 0), some (.int (nI 1)), some (.int (nI a)), some (.int (nI b)), some (.int v), none, none]) (st' := [.int (nI 1), .ref 0]) (σ' := σ) rfl ?_
              refine am_invv (y := 151) (b := 0) (as := [.int (nI 1)]) (rest := []) rfl rfl rfl rfl rfl rfl rfl (Nat.le_of_ble_eq_true rfl) ?_
              refine c_prog1_1 (by omega) (n := n) (by exact hn2) hn1 hn60 ?_
              show am_G _ M_X10_found _ 5 [some (.ref 0), some (.int (nI 1)), some (.int (nI a)), some (.int (nI b)), some (.int v), none, none] [.int (nI 1)] σ
              refine am_if (ty := 8) (tn := 11) rfl (by decide) rfl rfl (fun (h_101 : nI 1 = 0) => ?_) (fun (h_101 : ¬ (nI 1 = 0)) => ?_)
              · exact absurd h_101 (by decide)
              refine am_run 3 (pc' := 16) (ls' := [some (.ref 0), some (.int (nI 1)), some (.int (nI a)), some (.int (nI b)), some (.int v), none, none]) (st' := [.int (nI 255), .int (nI 0), .int (nI a)]) (σ' := σ) rfl ?_
              refine am_invs (y := 148) (as := [.int (nI a), .int (nI 0), .int (nI 255)]) (rest := []) rfl rfl rfl rfl rfl rfl (Nat.le_of_ble_eq_true rfl) ?_
              refine c_in1 (by omega) (by omega) (by omega) (by omega) ?_
              show am_G _ M_X10_found _ 19 [some (.ref 0), some (.int (nI 1)), some (.int (nI a)), some (.int (nI b)), some (.int v), none, none] [.int (nI 1)] σ
              refine am_if (ty := 47) (tn := 22) rfl (by decide) rfl rfl (fun (h_102 : nI 1 = 0) => ?_) (fun (h_102 : ¬ (nI 1 = 0)) => ?_)
              · exact absurd h_102 (by decide)
              refine am_run 3 (pc' := 27) (ls' := [some (.ref 0), some (.int (nI 1)), some (.int (nI a)), some (.int (nI b)), some (.int v), none, none]) (st' := [.int (nI 255), .int (nI 0), .int (nI b)]) (σ' := σ) rfl ?_
              refine am_invs (y := 148) (as := [.int (nI b), .int (nI 0), .int (nI 255)]) (rest := []) rfl rfl rfl rfl rfl rfl (Nat.le_of_ble_eq_true rfl) ?_
              refine c_in1 (by omega) (by omega) (by omega) (by omega) ?_
              show am_G _ M_X10_found _ 30 [some (.ref 0), some (.int (nI 1)), some (.int (nI a)), some (.int (nI b)), some (.int v), none, none] [.int (nI 1)] σ
              refine am_if (ty := 47) (tn := 33) rfl (by decide) rfl rfl (fun (h_103 : nI 1 = 0) => ?_) (fun (h_103 : ¬ (nI 1 = 0)) => ?_)
              · exact absurd h_103 (by decide)
              refine am_run 3 (pc' := 37) (ls' := [some (.ref 0), some (.int (nI 1)), some (.int (nI a)), some (.int (nI b)), some (.int v), none, none]) (st' := [.int (nI 3), .int (nI 0), .int v]) (σ' := σ) rfl ?_
              refine am_invs (y := 148) (as := [.int v, .int (nI 0), .int (nI 3)]) (rest := []) rfl rfl rfl rfl rfl rfl (Nat.le_of_ble_eq_true rfl) ?_
              refine c_in0 (by omega) hv_ ?_
              show am_G _ M_X10_found _ 40 [some (.ref 0), some (.int (nI 1)), some (.int (nI a)), some (.int (nI b)), some (.int v), none, none] [.int (nI 0)] σ
              refine am_if (ty := 47) (tn := 43) rfl (by decide) rfl rfl (fun (h_104 : nI 0 = 0) => ?_) (fun (h_104 : ¬ (nI 0 = 0)) => ?_)
              rotate_left
              · exact absurd (by decide) h_104
              refine am_run 3 (pc' := 52) (ls' := [some (.ref 0), some (.int (nI 1)), some (.int (nI a)), some (.int (nI b)), some (.int v), some (.int (nI 0)), none]) (st' := [.int (nI 0)]) (σ' := σ) rfl ?_
              refine am_if (ty := 61) (tn := 55) rfl (by decide) rfl rfl (fun (h_105 : nI 0 = 0) => ?_) (fun (h_105 : ¬ (nI 0 = 0)) => ?_)
              rotate_left
              · exact absurd (by decide) h_105
              refine am_run 1 (pc' := 63) (ls' := [some (.ref 0), some (.int (nI 1)), some (.int (nI a)), some (.int (nI b)), some (.int v), some (.int (nI 0)), none]) (st' := [.int (-1000002)]) (σ' := σ) rfl ?_
              refine am_reti rfl rfl ?_
              exact ⟨rfl, hI⟩
            · skip
              refine ⟨-1000002, ?_⟩
              refine am_enter' (M := M_X9_found) rfl rfl rfl (by omega) (ls := [some (.ref 41), some (.int (nI 1)), some (.int (nI a)), some (.int (nI b)), some (.int v), none, none, none]) rfl (fun d' hd' => ?_)
              refine am_run 2 (pc' := 2) (ls' := [some (.ref 41), some (.int (nI 1)), some (.int (nI a)), some (.int (nI b)), some (.int v), none, none, none]) (st' := [.int (nI 1), .ref 41]) (σ' := σ) rfl ?_
              refine am_invv (y := 140) (b := 41) (as := [.int (nI 1)]) (rest := []) rfl rfl rfl rfl rfl rfl rfl (Nat.le_of_ble_eq_true rfl) ?_
              refine c_filled1_1 (by omega) hf ?_
              show am_G _ M_X9_found _ 5 [some (.ref 41), some (.int (nI 1)), some (.int (nI a)), some (.int (nI b)), some (.int v), none, none, none] [.ref 75] σ
              refine am_run 4 (pc' := 16) (ls' := [some (.ref 41), some (.int (nI 1)), some (.int (nI a)), some (.int (nI b)), some (.int v), some (.ref 75), none, none]) (st' := [.int (nI a)]) (σ' := σ) rfl ?_
              refine am_invs (y := 141) (as := [.int (nI a)]) (rest := []) rfl rfl rfl rfl rfl rfl (Nat.le_of_ble_eq_true rfl) ?_
              refine c_sig1 (by omega) (by omega) ?_
              show am_G _ M_X9_found _ 19 [some (.ref 41), some (.int (nI 1)), some (.int (nI a)), some (.int (nI b)), some (.int v), some (.ref 75), none, none] [.int (nI 1)] σ
              refine am_if (ty := 46) (tn := 22) rfl (by decide) rfl rfl (fun (h_1 : nI 1 = 0) => ?_) (fun (h_1 : ¬ (nI 1 = 0)) => ?_)
              · exact absurd h_1 (by decide)
              refine am_run 1 (pc' := 23) (ls' := [some (.ref 41), some (.int (nI 1)), some (.int (nI a)), some (.int (nI b)), some (.int v), some (.ref 75), none, none]) (st' := [.int (nI b)]) (σ' := σ) rfl ?_
              refine am_invs (y := 141) (as := [.int (nI b)]) (rest := []) rfl rfl rfl rfl rfl rfl (Nat.le_of_ble_eq_true rfl) ?_
              refine c_sig1 (by omega) (by omega) ?_
              show am_G _ M_X9_found _ 26 [some (.ref 41), some (.int (nI 1)), some (.int (nI a)), some (.int (nI b)), some (.int v), some (.ref 75), none, none] [.int (nI 1)] σ
              refine am_if (ty := 46) (tn := 29) rfl (by decide) rfl rfl (fun (h_2 : nI 1 = 0) => ?_) (fun (h_2 : ¬ (nI 1 = 0)) => ?_)
              · exact absurd h_2 (by decide)
              refine am_run 3 (pc' := 32) (ls' := [some (.ref 41), some (.int (nI 1)), some (.int (nI a)), some (.int (nI b)), some (.int v), some (.ref 75), none, none]) (st' := [.int (nI a &&& nI b)]) (σ' := σ) rfl ?_
              refine am_top (v' := nI (a &&& b)) (nx_and _ _) ?_
              refine am_if (ty := 35) (tn := 46) rfl (by decide) rfl rfl (fun (h_3 : nI (a &&& b) = 0) => ?_) (fun (h_3 : ¬ (nI (a &&& b) = 0)) => ?_)
              · have h_3 : a &&& b = 0 := (am_n0 (by omega)).mp h_3
                omega
              have h_3 : ¬ (a &&& b = 0) := fun z => h_3 ((am_n0 (by omega)).mpr z)
              refine am_run 1 (pc' := 48) (ls' := [some (.ref 41), some (.int (nI 1)), some (.int (nI a)), some (.int (nI b)), some (.int v), some (.ref 75), none, none]) (st' := [.int (-1000002)]) (σ' := σ) rfl ?_
              refine am_reti rfl rfl ?_
              refine ⟨rfl, ?_⟩
              refine am_enter' (M := M_X10_found) rfl rfl rfl (by omega) (ls := [some (.ref 0), some (.int (nI 1)), some (.int (nI a)), some (.int (nI b)), some (.int v), none, none]) rfl (fun d2 hd2 => ?_)
              refine am_run 2 (pc' := 2) (ls' := [some (.ref 0), some (.int (nI 1)), some (.int (nI a)), some (.int (nI b)), some (.int v), none, none]) (st' := [.int (nI 1), .ref 0]) (σ' := σ) rfl ?_
              refine am_invv (y := 151) (b := 0) (as := [.int (nI 1)]) (rest := []) rfl rfl rfl rfl rfl rfl rfl (Nat.le_of_ble_eq_true rfl) ?_
              refine c_prog1_1 (by omega) (n := n) (by exact hn2) hn1 hn60 ?_
              show am_G _ M_X10_found _ 5 [some (.ref 0), some (.int (nI 1)), some (.int (nI a)), some (.int (nI b)), some (.int v), none, none] [.int (nI 1)] σ
              refine am_if (ty := 8) (tn := 11) rfl (by decide) rfl rfl (fun (h_101 : nI 1 = 0) => ?_) (fun (h_101 : ¬ (nI 1 = 0)) => ?_)
              · exact absurd h_101 (by decide)
              refine am_run 3 (pc' := 16) (ls' := [some (.ref 0), some (.int (nI 1)), some (.int (nI a)), some (.int (nI b)), some (.int v), none, none]) (st' := [.int (nI 255), .int (nI 0), .int (nI a)]) (σ' := σ) rfl ?_
              refine am_invs (y := 148) (as := [.int (nI a), .int (nI 0), .int (nI 255)]) (rest := []) rfl rfl rfl rfl rfl rfl (Nat.le_of_ble_eq_true rfl) ?_
              refine c_in1 (by omega) (by omega) (by omega) (by omega) ?_
              show am_G _ M_X10_found _ 19 [some (.ref 0), some (.int (nI 1)), some (.int (nI a)), some (.int (nI b)), some (.int v), none, none] [.int (nI 1)] σ
              refine am_if (ty := 47) (tn := 22) rfl (by decide) rfl rfl (fun (h_102 : nI 1 = 0) => ?_) (fun (h_102 : ¬ (nI 1 = 0)) => ?_)
              · exact absurd h_102 (by decide)
              refine am_run 3 (pc' := 27) (ls' := [some (.ref 0), some (.int (nI 1)), some (.int (nI a)), some (.int (nI b)), some (.int v), none, none]) (st' := [.int (nI 255), .int (nI 0), .int (nI b)]) (σ' := σ) rfl ?_
              refine am_invs (y := 148) (as := [.int (nI b), .int (nI 0), .int (nI 255)]) (rest := []) rfl rfl rfl rfl rfl rfl (Nat.le_of_ble_eq_true rfl) ?_
              refine c_in1 (by omega) (by omega) (by omega) (by omega) ?_
              show am_G _ M_X10_found _ 30 [some (.ref 0), some (.int (nI 1)), some (.int (nI a)), some (.int (nI b)), some (.int v), none, none] [.int (nI 1)] σ
              refine am_if (ty := 47) (tn := 33) rfl (by decide) rfl rfl (fun (h_103 : nI 1 = 0) => ?_) (fun (h_103 : ¬ (nI 1 = 0)) => ?_)
              · exact absurd h_103 (by decide)
              refine am_run 3 (pc' := 37) (ls' := [some (.ref 0), some (.int (nI 1)), some (.int (nI a)), some (.int (nI b)), some (.int v), none, none]) (st' := [.int (nI 3), .int (nI 0), .int v]) (σ' := σ) rfl ?_
              refine am_invs (y := 148) (as := [.int v, .int (nI 0), .int (nI 3)]) (rest := []) rfl rfl rfl rfl rfl rfl (Nat.le_of_ble_eq_true rfl) ?_
              refine c_in0 (by omega) hv_ ?_
              show am_G _ M_X10_found _ 40 [some (.ref 0), some (.int (nI 1)), some (.int (nI a)), some (.int (nI b)), some (.int v), none, none] [.int (nI 0)] σ
              refine am_if (ty := 47) (tn := 43) rfl (by decide) rfl rfl (fun (h_104 : nI 0 = 0) => ?_) (fun (h_104 : ¬ (nI 0 = 0)) => ?_)
              rotate_left
              · exact absurd (by decide) h_104
              refine am_run 3 (pc' := 52) (ls' := [some (.ref 0), some (.int (nI 1)), some (.int (nI a)), some (.int (nI b)), some (.int v), some (.int (nI 0)), none]) (st' := [.int (nI 0)]) (σ' := σ) rfl ?_
              refine am_if (ty := 61) (tn := 55) rfl (by decide) rfl rfl (fun (h_105 : nI 0 = 0) => ?_) (fun (h_105 : ¬ (nI 0 = 0)) => ?_)
              rotate_left
              · exact absurd (by decide) h_105
              refine am_run 1 (pc' := 63) (ls' := [some (.ref 0), some (.int (nI 1)), some (.int (nI a)), some (.int (nI b)), some (.int v), some (.int (nI 0)), none]) (st' := [.int (-1000002)]) (σ' := σ) rfl ?_
              refine am_reti rfl rfl ?_
              exact ⟨rfl, hI⟩
      · skip
        refine ⟨-1000002, ?_⟩
        refine am_enter' (M := M_X9_found) rfl rfl rfl (by omega) (ls := [some (.ref 41), some (.int (nI 1)), some (.int (nI a)), some (.int z), some (.int v), none, none, none]) rfl (fun d' hd' => ?_)
        refine am_run 2 (pc' := 2) (ls' := [some (.ref 41), some (.int (nI 1)), some (.int (nI a)), some (.int z), some (.int v), none, none, none]) (st' := [.int (nI 1), .ref 41]) (σ' := σ) rfl ?_
        refine am_invv (y := 140) (b := 41) (as := [.int (nI 1)]) (rest := []) rfl rfl rfl rfl rfl rfl rfl (Nat.le_of_ble_eq_true rfl) ?_
        refine c_filled1_1 (by omega) hf ?_
        show am_G _ M_X9_found _ 5 [some (.ref 41), some (.int (nI 1)), some (.int (nI a)), some (.int z), some (.int v), none, none, none] [.ref 75] σ
        refine am_run 4 (pc' := 16) (ls' := [some (.ref 41), some (.int (nI 1)), some (.int (nI a)), some (.int z), some (.int v), some (.ref 75), none, none]) (st' := [.int (nI a)]) (σ' := σ) rfl ?_
        refine am_invs (y := 141) (as := [.int (nI a)]) (rest := []) rfl rfl rfl rfl rfl rfl (Nat.le_of_ble_eq_true rfl) ?_
        refine c_sig1 (by omega) (by omega) ?_
        show am_G _ M_X9_found _ 19 [some (.ref 41), some (.int (nI 1)), some (.int (nI a)), some (.int z), some (.int v), some (.ref 75), none, none] [.int (nI 1)] σ
        refine am_if (ty := 46) (tn := 22) rfl (by decide) rfl rfl (fun (h_1 : nI 1 = 0) => ?_) (fun (h_1 : ¬ (nI 1 = 0)) => ?_)
        · exact absurd h_1 (by decide)
        refine am_run 1 (pc' := 23) (ls' := [some (.ref 41), some (.int (nI 1)), some (.int (nI a)), some (.int z), some (.int v), some (.ref 75), none, none]) (st' := [.int z]) (σ' := σ) rfl ?_
        refine am_invs (y := 141) (as := [.int z]) (rest := []) rfl rfl rfl rfl rfl rfl (Nat.le_of_ble_eq_true rfl) ?_
        refine c_sig0 (by omega) hz ?_
        show am_G _ M_X9_found _ 26 [some (.ref 41), some (.int (nI 1)), some (.int (nI a)), some (.int z), some (.int v), some (.ref 75), none, none] [.int (nI 0)] σ
        refine am_if (ty := 46) (tn := 29) rfl (by decide) rfl rfl (fun (h_2 : nI 0 = 0) => ?_) (fun (h_2 : ¬ (nI 0 = 0)) => ?_)
        rotate_left
        · exact absurd (by decide) h_2
        refine am_run 1 (pc' := 48) (ls' := [some (.ref 41), some (.int (nI 1)), some (.int (nI a)), some (.int z), some (.int v), some (.ref 75), none, none]) (st' := [.int (-1000002)]) (σ' := σ) rfl ?_
        refine am_reti rfl rfl ?_
        refine ⟨rfl, ?_⟩
        refine am_enter' (M := M_X10_found) rfl rfl rfl (by omega) (ls := [some (.ref 0), some (.int (nI 1)), some (.int (nI a)), some (.int z), some (.int v), none, none]) rfl (fun d2 hd2 => ?_)
        refine am_run 2 (pc' := 2) (ls' := [some (.ref 0), some (.int (nI 1)), some (.int (nI a)), some (.int z), some (.int v), none, none]) (st' := [.int (nI 1), .ref 0]) (σ' := σ) rfl ?_
        refine am_invv (y := 151) (b := 0) (as := [.int (nI 1)]) (rest := []) rfl rfl rfl rfl rfl rfl rfl (Nat.le_of_ble_eq_true rfl) ?_
        refine c_prog1_1 (by omega) (n := n) (by exact hn2) hn1 hn60 ?_
        show am_G _ M_X10_found _ 5 [some (.ref 0), some (.int (nI 1)), some (.int (nI a)), some (.int z), some (.int v), none, none] [.int (nI 1)] σ
        refine am_if (ty := 8) (tn := 11) rfl (by decide) rfl rfl (fun (h_101 : nI 1 = 0) => ?_) (fun (h_101 : ¬ (nI 1 = 0)) => ?_)
        · exact absurd h_101 (by decide)
        refine am_run 3 (pc' := 16) (ls' := [some (.ref 0), some (.int (nI 1)), some (.int (nI a)), some (.int z), some (.int v), none, none]) (st' := [.int (nI 255), .int (nI 0), .int (nI a)]) (σ' := σ) rfl ?_
        refine am_invs (y := 148) (as := [.int (nI a), .int (nI 0), .int (nI 255)]) (rest := []) rfl rfl rfl rfl rfl rfl (Nat.le_of_ble_eq_true rfl) ?_
        refine c_in1 (by omega) (by omega) (by omega) (by omega) ?_
        show am_G _ M_X10_found _ 19 [some (.ref 0), some (.int (nI 1)), some (.int (nI a)), some (.int z), some (.int v), none, none] [.int (nI 1)] σ
        refine am_if (ty := 47) (tn := 22) rfl (by decide) rfl rfl (fun (h_102 : nI 1 = 0) => ?_) (fun (h_102 : ¬ (nI 1 = 0)) => ?_)
        · exact absurd h_102 (by decide)
        refine am_run 3 (pc' := 27) (ls' := [some (.ref 0), some (.int (nI 1)), some (.int (nI a)), some (.int z), some (.int v), none, none]) (st' := [.int (nI 255), .int (nI 0), .int z]) (σ' := σ) rfl ?_
        refine am_invs (y := 148) (as := [.int z, .int (nI 0), .int (nI 255)]) (rest := []) rfl rfl rfl rfl rfl rfl (Nat.le_of_ble_eq_true rfl) ?_
        refine c_in0 (by omega) hz ?_
        show am_G _ M_X10_found _ 30 [some (.ref 0), some (.int (nI 1)), some (.int (nI a)), some (.int z), some (.int v), none, none] [.int (nI 0)] σ
        refine am_if (ty := 47) (tn := 33) rfl (by decide) rfl rfl (fun (h_103 : nI 0 = 0) => ?_) (fun (h_103 : ¬ (nI 0 = 0)) => ?_)
        rotate_left
        · exact absurd (by decide) h_103
        refine am_run 3 (pc' := 52) (ls' := [some (.ref 0), some (.int (nI 1)), some (.int (nI a)), some (.int z), some (.int v), some (.int (nI 0)), none]) (st' := [.int (nI 0)]) (σ' := σ) rfl ?_
        refine am_if (ty := 61) (tn := 55) rfl (by decide) rfl rfl (fun (h_104 : nI 0 = 0) => ?_) (fun (h_104 : ¬ (nI 0 = 0)) => ?_)
        rotate_left
        · exact absurd (by decide) h_104
        refine am_run 1 (pc' := 63) (ls' := [some (.ref 0), some (.int (nI 1)), some (.int (nI a)), some (.int z), some (.int v), some (.int (nI 0)), none]) (st' := [.int (-1000002)]) (σ' := σ) rfl ?_
        refine am_reti rfl rfl ?_
        exact ⟨rfl, hI⟩
    · skip
      refine ⟨-1000002, ?_⟩
      refine am_enter' (M := M_X9_found) rfl rfl rfl (by omega) (ls := [some (.ref 41), some (.int (nI 1)), some (.int y), some (.int z), some (.int v), none, none, none]) rfl (fun d' hd' => ?_)
      refine am_run 2 (pc' := 2) (ls' := [some (.ref 41), some (.int (nI 1)), some (.int y), some (.int z), some (.int v), none, none, none]) (st' := [.int (nI 1), .ref 41]) (σ' := σ) rfl ?_
      refine am_invv (y := 140) (b := 41) (as := [.int (nI 1)]) (rest := []) rfl rfl rfl rfl rfl rfl rfl (Nat.le_of_ble_eq_true rfl) ?_
      refine c_filled1_1 (by omega) hf ?_
      show am_G _ M_X9_found _ 5 [some (.ref 41), some (.int (nI 1)), some (.int y), some (.int z), some (.int v), none, none, none] [.ref 75] σ
      refine am_run 4 (pc' := 16) (ls' := [some (.ref 41), some (.int (nI 1)), some (.int y), some (.int z), some (.int v), some (.ref 75), none, none]) (st' := [.int y]) (σ' := σ) rfl ?_
      refine am_invs (y := 141) (as := [.int y]) (rest := []) rfl rfl rfl rfl rfl rfl (Nat.le_of_ble_eq_true rfl) ?_
      refine c_sig0 (by omega) hy ?_
      show am_G _ M_X9_found _ 19 [some (.ref 41), some (.int (nI 1)), some (.int y), some (.int z), some (.int v), some (.ref 75), none, none] [.int (nI 0)] σ
      refine am_if (ty := 46) (tn := 22) rfl (by decide) rfl rfl (fun (h_1 : nI 0 = 0) => ?_) (fun (h_1 : ¬ (nI 0 = 0)) => ?_)
      rotate_left
      · exact absurd (by decide) h_1
      refine am_run 1 (pc' := 48) (ls' := [some (.ref 41), some (.int (nI 1)), some (.int y), some (.int z), some (.int v), some (.ref 75), none, none]) (st' := [.int (-1000002)]) (σ' := σ) rfl ?_
      refine am_reti rfl rfl ?_
      refine ⟨rfl, ?_⟩
      refine am_enter' (M := M_X10_found) rfl rfl rfl (by omega) (ls := [some (.ref 0), some (.int (nI 1)), some (.int y), some (.int z), some (.int v), none, none]) rfl (fun d2 hd2 => ?_)
      refine am_run 2 (pc' := 2) (ls' := [some (.ref 0), some (.int (nI 1)), some (.int y), some (.int z), some (.int v), none, none]) (st' := [.int (nI 1), .ref 0]) (σ' := σ) rfl ?_
      refine am_invv (y := 151) (b := 0) (as := [.int (nI 1)]) (rest := []) rfl rfl rfl rfl rfl rfl rfl (Nat.le_of_ble_eq_true rfl) ?_
      refine c_prog1_1 (by omega) (n := n) (by exact hn2) hn1 hn60 ?_
      show am_G _ M_X10_found _ 5 [some (.ref 0), some (.int (nI 1)), some (.int y), some (.int z), some (.int v), none, none] [.int (nI 1)] σ
      refine am_if (ty := 8) (tn := 11) rfl (by decide) rfl rfl (fun (h_101 : nI 1 = 0) => ?_) (fun (h_101 : ¬ (nI 1 = 0)) => ?_)
      · exact absurd h_101 (by decide)
      refine am_run 3 (pc' := 16) (ls' := [some (.ref 0), some (.int (nI 1)), some (.int y), some (.int z), some (.int v), none, none]) (st' := [.int (nI 255), .int (nI 0), .int y]) (σ' := σ) rfl ?_
      refine am_invs (y := 148) (as := [.int y, .int (nI 0), .int (nI 255)]) (rest := []) rfl rfl rfl rfl rfl rfl (Nat.le_of_ble_eq_true rfl) ?_
      refine c_in0 (by omega) hy ?_
      show am_G _ M_X10_found _ 19 [some (.ref 0), some (.int (nI 1)), some (.int y), some (.int z), some (.int v), none, none] [.int (nI 0)] σ
      refine am_if (ty := 47) (tn := 22) rfl (by decide) rfl rfl (fun (h_102 : nI 0 = 0) => ?_) (fun (h_102 : ¬ (nI 0 = 0)) => ?_)
      rotate_left
      · exact absurd (by decide) h_102
      refine am_run 3 (pc' := 52) (ls' := [some (.ref 0), some (.int (nI 1)), some (.int y), some (.int z), some (.int v), some (.int (nI 0)), none]) (st' := [.int (nI 0)]) (σ' := σ) rfl ?_
      refine am_if (ty := 61) (tn := 55) rfl (by decide) rfl rfl (fun (h_103 : nI 0 = 0) => ?_) (fun (h_103 : ¬ (nI 0 = 0)) => ?_)
      rotate_left
      · exact absurd (by decide) h_103
      refine am_run 1 (pc' := 63) (ls' := [some (.ref 0), some (.int (nI 1)), some (.int y), some (.int z), some (.int v), some (.int (nI 0)), none]) (st' := [.int (-1000002)]) (σ' := σ) rfl ?_
      refine am_reti rfl rfl ?_
      exact ⟨rfl, hI⟩

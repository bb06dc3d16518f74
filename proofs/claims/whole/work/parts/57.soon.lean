set_option maxRecDepth 10000 in
set_option maxHeartbeats 2000000 in
theorem c_msoon_in {d : Nat} (hd : 20 ≤ d) {σ0 : am_M} {j n r mk wh k : Nat} {p : Pg} {rk od dp : Nat → Nat} {ow : Nat → Nat → Nat} (hM : MI σ0 j p n r rk od dp ow) (hmk : mk < 256) (hmv : mkv mk) (hwh : wh ≤ 9) {Q : am_Q} : ∀ (m i : Nat) (σ' : am_M) (c : Nat) (f h : Nat → Nat) (v8 v9 : Option Value), i + m = 2 ^ pcn mk 21 → KY σ0 σ' → TM σ' c f h → k < c → VA p r c f → (∀ σ'', KY σ0 σ'' → (so_in p (r + 1) mk wh m i k c f h).1 ≠ none → Q (some (.int ((so_in p (r + 1) mk wh m i k c f h).1.getD 0))) σ'') → (∀ σ'' v7 v8 v9, KY σ0 σ'' → (so_in p (r + 1) mk wh m i k c f h).1 = none → TM σ'' (so_in p (r + 1) mk wh m i k c f h).2.1 (so_in p (r + 1) mk wh m i k c f h).2.2.1 (so_in p (r + 1) mk wh m i k c f h).2.2.2 → VA p r (so_in p (r + 1) mk wh m i k c f h).2.1 (so_in p (r + 1) mk wh m i k c f h).2.2.1 → am_G d M_X10_soon Q 178 [some (.ref 0), some (.int (nI j)), some (.int (nI mk)), some (.int (nI wh)), some (.int (nI (2 ^ pcn mk 21))), some (.int (nI 0)), some (.int (nI k)), v7, v8, v9] [] σ'') → am_G d M_X10_soon Q 87 [some (.ref 0), some (.int (nI j)), some (.int (nI mk)), some (.int (nI wh)), some (.int (nI (2 ^ pcn mk 21))), some (.int (nI 0)), some (.int (nI k)), some (.int (nI i)), v8, v9] [] σ'
  | 0, i, σ', c, f, h, v8, v9, hm, hK, hT, hkc, hVA, hA, hN => by
    have h8 := ((mk_f mk hmk).2 hmv.2).1
    have e : i = 2 ^ pcn mk 21 := by omega
    refine am_run 2 (pc' := 91) (ls' := [some (.ref 0), some (.int (nI j)), some (.int (nI mk)), some (.int (nI wh)), some (.int (nI (2 ^ pcn mk 21))), some (.int (nI 0)), some (.int (nI k)), some (.int (nI i)), v8, v9]) (st' := [.int (nI (2 ^ pcn mk 21)), .int (nI i)]) (σ' := σ') rfl ?_
    refine am_ic (ty := 94) (tn := 178) rfl (by decide) rfl rfl (fun (h_1 : nI i < nI (2 ^ pcn mk 21)) => ?_) (fun (h_1 : ¬ (nI i < nI (2 ^ pcn mk 21))) => ?_)
    · have h_1 : i < 2 ^ pcn mk 21 := (nI_ltI (by omega) (by omega)).mp h_1
      omega
    have h_1 : ¬ (i < 2 ^ pcn mk 21) := fun z => h_1 ((nI_ltI (by omega) (by omega)).mpr z)
    exact hN σ' _ _ _ hK rfl hT hVA
  | m + 1, i, σ', c, f, h, v8, v9, hm, hK, hT, hkc, hVA, hA, hN => by
    have h8 := ((mk_f mk hmk).2 hmv.2).1
    have hW := hM.1.2.1
    have hrn : r < n := hM.2.1.2.1
    have hV := fun s u (hu : u < 256) => oc_vs hM s hu
    obtain ⟨t1, t3, t5⟩ := id hT
    obtain ⟨f1, f2, f4, f6⟩ := t5 k hkc
    obtain ⟨b1, b2, b3_, b4_, b5_, b6_⟩ := oc_b (s := f k) hW (show r + 1 ≤ n by omega) (pt_lt mk i)
    have hnv := hV (f k) (pt mk i) (pt_lt mk i)
    generalize hz : oc p (r + 1) (f k) (pt mk i) = z0_ at b1 b2 b3_ b4_ b5_ b6_ hnv 
    obtain ⟨P, A, w, c1, nx, rd⟩ := z0_
    have b1 : P < 256 := b1
    have b2 : A < 256 := b2
    have b3_ : w ≤ 256 := b3_
    have b4_ : c1 ≤ 6 := b4_
    have b5_ : nx < 1048576 := b5_
    have b6_ : rd ≤ 9 := b6_
    have hnv : VS p r nx := hnv
    rcases bt (shw wh (P, A, w, c1, nx, rd)) with hsh | hsh
    · by_cases hw0 : w = 0
      · subst hw0
        refine am_run 2 (pc' := 91) (ls' := [some (.ref 0), some (.int (nI j)), some (.int (nI mk)), some (.int (nI wh)), some (.int (nI (2 ^ pcn mk 21))), some (.int (nI 0)), some (.int (nI k)), some (.int (nI i)), v8, v9]) (st' := [.int (nI (2 ^ pcn mk 21)), .int (nI i)]) (σ' := σ') rfl ?_
        refine am_ic (ty := 94) (tn := 178) rfl (by decide) rfl rfl (fun (h_1 : nI i < nI (2 ^ pcn mk 21)) => ?_) (fun (h_1 : ¬ (nI i < nI (2 ^ pcn mk 21))) => ?_)
        rotate_left
        · have h_1 : ¬ (i < 2 ^ pcn mk 21) := fun z => h_1 ((nI_ltI (by omega) (by omega)).mpr z)
          omega
        have h_1 : i < 2 ^ pcn mk 21 := (nI_ltI (by omega) (by omega)).mp h_1
        refine am_run 5 (pc' := 102) (ls' := [some (.ref 0), some (.int (nI j)), some (.int (nI mk)), some (.int (nI wh)), some (.int (nI (2 ^ pcn mk 21))), some (.int (nI 0)), some (.int (nI k)), some (.int (nI i)), v8, v9]) (st' := [.int (nI k), .ref 32, .int (nI j), .ref 0]) (σ' := σ') rfl ?_
        refine am_ialdN (n := 101) (v := nI (f k)) rfl rfl rfl (by omega) f1 (by decide) ?_
        refine am_run 2 (pc' := 106) (ls' := [some (.ref 0), some (.int (nI j)), some (.int (nI mk)), some (.int (nI wh)), some (.int (nI (2 ^ pcn mk 21))), some (.int (nI 0)), some (.int (nI k)), some (.int (nI i)), v8, v9]) (st' := [.int (nI i), .int (nI mk), .int (nI (f k)), .int (nI j), .ref 0]) (σ' := σ') rfl ?_
        refine am_invs (y := 241) (as := [.int (nI mk), .int (nI i)]) (rest := [.int (nI (f k)), .int (nI j), .ref 0]) rfl rfl rfl rfl rfl rfl (Nat.le_of_ble_eq_true rfl) ?_
        refine c_partOf (by omega) hmk (by omega) ?_
        show am_G _ M_X10_soon _ 109 [some (.ref 0), some (.int (nI j)), some (.int (nI mk)), some (.int (nI wh)), some (.int (nI (2 ^ pcn mk 21))), some (.int (nI 0)), some (.int (nI k)), some (.int (nI i)), v8, v9] [.int (nI (pt mk i)), .int (nI (f k)), .int (nI j), .ref 0] σ'
        refine am_invv (y := 229) (b := 0) (as := [.int (nI j), .int (nI (f k)), .int (nI (pt mk i))]) (rest := []) rfl rfl rfl rfl rfl rfl rfl (Nat.le_of_ble_eq_true rfl) ?_
        refine c_settles1 (by omega) (hK.MI hM) f4 (hVA k hkc).2 (pt_lt mk i) hz (fun σ2 hS i38 i39 i40 i41 i42 i43 i44 i29 => ?_)
        have hK2 := hK.ks hS
        have hT2 := hT.ks hS
        have g2 := (hT2.2.2 k hkc).2.1
        show am_G _ M_X10_soon _ 112 [some (.ref 0), some (.int (nI j)), some (.int (nI mk)), some (.int (nI wh)), some (.int (nI (2 ^ pcn mk 21))), some (.int (nI 0)), some (.int (nI k)), some (.int (nI i)), v8, v9] [.int (nI 1)] σ2
        refine am_run 4 (pc' := 118) (ls' := [some (.ref 0), some (.int (nI j)), some (.int (nI mk)), some (.int (nI wh)), some (.int (nI (2 ^ pcn mk 21))), some (.int (nI 0)), some (.int (nI k)), some (.int (nI i)), some (.int (nI 1)), v9]) (st' := [.int (nI 1), .int (nI wh), .ref 0]) (σ' := σ2) rfl ?_
        refine am_invv (y := 247) (b := 0) (as := [.int (nI wh), .int (nI 1)]) (rest := []) rfl rfl rfl rfl rfl rfl rfl (Nat.le_of_ble_eq_true rfl) ?_
        refine c_sought1 (A := A) (c1 := c1) (rd := rd) (w := 0) (by omega) hwh b1 b5_ i42 i44 (fun _ => ?_) (fun z => absurd (hsh.symm.trans z) (by decide))
        show am_G _ M_X10_soon _ 121 [some (.ref 0), some (.int (nI j)), some (.int (nI mk)), some (.int (nI wh)), some (.int (nI (2 ^ pcn mk 21))), some (.int (nI 0)), some (.int (nI k)), some (.int (nI i)), some (.int (nI 1)), v9] [.int (nI 1)] σ2
        refine am_if (ty := 134) (tn := 124) rfl (by decide) rfl rfl (fun (h_2 : nI 1 = 0) => ?_) (fun (h_2 : ¬ (nI 1 = 0)) => ?_)
        · exact absurd h_2 (by decide)
        refine am_run 3 (pc' := 130) (ls' := [some (.ref 0), some (.int (nI j)), some (.int (nI mk)), some (.int (nI wh)), some (.int (nI (2 ^ pcn mk 21))), some (.int (nI 0)), some (.int (nI k)), some (.int (nI i)), some (.int (nI 1)), v9]) (st' := [.int (nI k), .ref 33]) (σ' := σ2) rfl ?_
        refine am_ialdN (n := 101) (v := nI (h k)) rfl rfl rfl (by omega) g2 (by decide) ?_
        refine am_run 2 (pc' := 133) (ls' := [some (.ref 0), some (.int (nI j)), some (.int (nI mk)), some (.int (nI wh)), some (.int (nI (2 ^ pcn mk 21))), some (.int (nI 0)), some (.int (nI k)), some (.int (nI i)), some (.int (nI 1)), v9]) (st' := [.int (nI (h k) + nI 1)]) (σ' := σ2) rfl ?_
        refine am_top (v' := nI (h k + 1)) (nI_add _ _) ?_
        refine am_reti rfl rfl ?_
        have e : (so_in p (r + 1) mk wh (m + 1) i k c f h) = (some (nI (h k + 1)), c, f, h) := by show (if shw wh (oc p (r + 1) (f k) (pt mk i)) = true then _ else _) = _; rw [hz]; rw [if_pos hsh]
        rw [e] at hA
        exact hA _ hK2 (fun z => by cases z)
      · skip
        refine am_run 2 (pc' := 91) (ls' := [some (.ref 0), some (.int (nI j)), some (.int (nI mk)), some (.int (nI wh)), some (.int (nI (2 ^ pcn mk 21))), some (.int (nI 0)), some (.int (nI k)), some (.int (nI i)), v8, v9]) (st' := [.int (nI (2 ^ pcn mk 21)), .int (nI i)]) (σ' := σ') rfl ?_
        refine am_ic (ty := 94) (tn := 178) rfl (by decide) rfl rfl (fun (h_1 : nI i < nI (2 ^ pcn mk 21)) => ?_) (fun (h_1 : ¬ (nI i < nI (2 ^ pcn mk 21))) => ?_)
        rotate_left
        · have h_1 : ¬ (i < 2 ^ pcn mk 21) := fun z => h_1 ((nI_ltI (by omega) (by omega)).mpr z)
          omega
        have h_1 : i < 2 ^ pcn mk 21 := (nI_ltI (by omega) (by omega)).mp h_1
        refine am_run 5 (pc' := 102) (ls' := [some (.ref 0), some (.int (nI j)), some (.int (nI mk)), some (.int (nI wh)), some (.int (nI (2 ^ pcn mk 21))), some (.int (nI 0)), some (.int (nI k)), some (.int (nI i)), v8, v9]) (st' := [.int (nI k), .ref 32, .int (nI j), .ref 0]) (σ' := σ') rfl ?_
        refine am_ialdN (n := 101) (v := nI (f k)) rfl rfl rfl (by omega) f1 (by decide) ?_
        refine am_run 2 (pc' := 106) (ls' := [some (.ref 0), some (.int (nI j)), some (.int (nI mk)), some (.int (nI wh)), some (.int (nI (2 ^ pcn mk 21))), some (.int (nI 0)), some (.int (nI k)), some (.int (nI i)), v8, v9]) (st' := [.int (nI i), .int (nI mk), .int (nI (f k)), .int (nI j), .ref 0]) (σ' := σ') rfl ?_
        refine am_invs (y := 241) (as := [.int (nI mk), .int (nI i)]) (rest := [.int (nI (f k)), .int (nI j), .ref 0]) rfl rfl rfl rfl rfl rfl (Nat.le_of_ble_eq_true rfl) ?_
        refine c_partOf (by omega) hmk (by omega) ?_
        show am_G _ M_X10_soon _ 109 [some (.ref 0), some (.int (nI j)), some (.int (nI mk)), some (.int (nI wh)), some (.int (nI (2 ^ pcn mk 21))), some (.int (nI 0)), some (.int (nI k)), some (.int (nI i)), v8, v9] [.int (nI (pt mk i)), .int (nI (f k)), .int (nI j), .ref 0] σ'
        refine am_invv (y := 229) (b := 0) (as := [.int (nI j), .int (nI (f k)), .int (nI (pt mk i))]) (rest := []) rfl rfl rfl rfl rfl rfl rfl (Nat.le_of_ble_eq_true rfl) ?_
        refine c_settles0 (by omega) (hK.MI hM) f4 (hVA k hkc).2 (pt_lt mk i) hz hw0 (fun σ2 hS i38 i39 i40 i41 i29 => ?_)
        have hK2 := hK.ks hS
        have hT2 := hT.ks hS
        have g2 := (hT2.2.2 k hkc).2.1
        show am_G _ M_X10_soon _ 112 [some (.ref 0), some (.int (nI j)), some (.int (nI mk)), some (.int (nI wh)), some (.int (nI (2 ^ pcn mk 21))), some (.int (nI 0)), some (.int (nI k)), some (.int (nI i)), v8, v9] [.int (nI 0)] σ2
        refine am_run 4 (pc' := 118) (ls' := [some (.ref 0), some (.int (nI j)), some (.int (nI mk)), some (.int (nI wh)), some (.int (nI (2 ^ pcn mk 21))), some (.int (nI 0)), some (.int (nI k)), some (.int (nI i)), some (.int (nI 0)), v9]) (st' := [.int (nI 0), .int (nI wh), .ref 0]) (σ' := σ2) rfl ?_
        refine am_invv (y := 247) (b := 0) (as := [.int (nI wh), .int (nI 0)]) (rest := []) rfl rfl rfl rfl rfl rfl rfl (Nat.le_of_ble_eq_true rfl) ?_
        refine c_sought0 (A := A) (c1 := c1) (rd := rd) (w := w) (by omega) hwh b1 b5_ hw0 (fun _ => ?_) (fun z => absurd (hsh.symm.trans z) (by decide))
        show am_G _ M_X10_soon _ 121 [some (.ref 0), some (.int (nI j)), some (.int (nI mk)), some (.int (nI wh)), some (.int (nI (2 ^ pcn mk 21))), some (.int (nI 0)), some (.int (nI k)), some (.int (nI i)), some (.int (nI 0)), v9] [.int (nI 1)] σ2
        refine am_if (ty := 134) (tn := 124) rfl (by decide) rfl rfl (fun (h_2 : nI 1 = 0) => ?_) (fun (h_2 : ¬ (nI 1 = 0)) => ?_)
        · exact absurd h_2 (by decide)
        refine am_run 3 (pc' := 130) (ls' := [some (.ref 0), some (.int (nI j)), some (.int (nI mk)), some (.int (nI wh)), some (.int (nI (2 ^ pcn mk 21))), some (.int (nI 0)), some (.int (nI k)), some (.int (nI i)), some (.int (nI 0)), v9]) (st' := [.int (nI k), .ref 33]) (σ' := σ2) rfl ?_
        refine am_ialdN (n := 101) (v := nI (h k)) rfl rfl rfl (by omega) g2 (by decide) ?_
        refine am_run 2 (pc' := 133) (ls' := [some (.ref 0), some (.int (nI j)), some (.int (nI mk)), some (.int (nI wh)), some (.int (nI (2 ^ pcn mk 21))), some (.int (nI 0)), some (.int (nI k)), some (.int (nI i)), some (.int (nI 0)), v9]) (st' := [.int (nI (h k) + nI 1)]) (σ' := σ2) rfl ?_
        refine am_top (v' := nI (h k + 1)) (nI_add _ _) ?_
        refine am_reti rfl rfl ?_
        have e : (so_in p (r + 1) mk wh (m + 1) i k c f h) = (some (nI (h k + 1)), c, f, h) := by show (if shw wh (oc p (r + 1) (f k) (pt mk i)) = true then _ else _) = _; rw [hz]; rw [if_pos hsh]
        rw [e] at hA
        exact hA _ hK2 (fun z => by cases z)
    · by_cases hw0 : w = 0
      · subst hw0
        have hfl := fnd_le f z0 nx 0 c
        by_cases hfn : fnd f z0 nx 0 c < c
        · skip
          refine am_run 2 (pc' := 91) (ls' := [some (.ref 0), some (.int (nI j)), some (.int (nI mk)), some (.int (nI wh)), some (.int (nI (2 ^ pcn mk 21))), some (.int (nI 0)), some (.int (nI k)), some (.int (nI i)), v8, v9]) (st' := [.int (nI (2 ^ pcn mk 21)), .int (nI i)]) (σ' := σ') rfl ?_
          refine am_ic (ty := 94) (tn := 178) rfl (by decide) rfl rfl (fun (h_1 : nI i < nI (2 ^ pcn mk 21)) => ?_) (fun (h_1 : ¬ (nI i < nI (2 ^ pcn mk 21))) => ?_)
          rotate_left
          · have h_1 : ¬ (i < 2 ^ pcn mk 21) := fun z => h_1 ((nI_ltI (by omega) (by omega)).mpr z)
            omega
          have h_1 : i < 2 ^ pcn mk 21 := (nI_ltI (by omega) (by omega)).mp h_1
          refine am_run 5 (pc' := 102) (ls' := [some (.ref 0), some (.int (nI j)), some (.int (nI mk)), some (.int (nI wh)), some (.int (nI (2 ^ pcn mk 21))), some (.int (nI 0)), some (.int (nI k)), some (.int (nI i)), v8, v9]) (st' := [.int (nI k), .ref 32, .int (nI j), .ref 0]) (σ' := σ') rfl ?_
          refine am_ialdN (n := 101) (v := nI (f k)) rfl rfl rfl (by omega) f1 (by decide) ?_
          refine am_run 2 (pc' := 106) (ls' := [some (.ref 0), some (.int (nI j)), some (.int (nI mk)), some (.int (nI wh)), some (.int (nI (2 ^ pcn mk 21))), some (.int (nI 0)), some (.int (nI k)), some (.int (nI i)), v8, v9]) (st' := [.int (nI i), .int (nI mk), .int (nI (f k)), .int (nI j), .ref 0]) (σ' := σ') rfl ?_
          refine am_invs (y := 241) (as := [.int (nI mk), .int (nI i)]) (rest := [.int (nI (f k)), .int (nI j), .ref 0]) rfl rfl rfl rfl rfl rfl (Nat.le_of_ble_eq_true rfl) ?_
          refine c_partOf (by omega) hmk (by omega) ?_
          show am_G _ M_X10_soon _ 109 [some (.ref 0), some (.int (nI j)), some (.int (nI mk)), some (.int (nI wh)), some (.int (nI (2 ^ pcn mk 21))), some (.int (nI 0)), some (.int (nI k)), some (.int (nI i)), v8, v9] [.int (nI (pt mk i)), .int (nI (f k)), .int (nI j), .ref 0] σ'
          refine am_invv (y := 229) (b := 0) (as := [.int (nI j), .int (nI (f k)), .int (nI (pt mk i))]) (rest := []) rfl rfl rfl rfl rfl rfl rfl (Nat.le_of_ble_eq_true rfl) ?_
          refine c_settles1 (by omega) (hK.MI hM) f4 (hVA k hkc).2 (pt_lt mk i) hz (fun σ2 hS i38 i39 i40 i41 i42 i43 i44 i29 => ?_)
          have hK2 := hK.ks hS
          have hT2 := hT.ks hS
          have g2 := (hT2.2.2 k hkc).2.1
          show am_G _ M_X10_soon _ 112 [some (.ref 0), some (.int (nI j)), some (.int (nI mk)), some (.int (nI wh)), some (.int (nI (2 ^ pcn mk 21))), some (.int (nI 0)), some (.int (nI k)), some (.int (nI i)), v8, v9] [.int (nI 1)] σ2
          refine am_run 4 (pc' := 118) (ls' := [some (.ref 0), some (.int (nI j)), some (.int (nI mk)), some (.int (nI wh)), some (.int (nI (2 ^ pcn mk 21))), some (.int (nI 0)), some (.int (nI k)), some (.int (nI i)), some (.int (nI 1)), v9]) (st' := [.int (nI 1), .int (nI wh), .ref 0]) (σ' := σ2) rfl ?_
          refine am_invv (y := 247) (b := 0) (as := [.int (nI wh), .int (nI 1)]) (rest := []) rfl rfl rfl rfl rfl rfl rfl (Nat.le_of_ble_eq_true rfl) ?_
          refine c_sought1 (A := A) (c1 := c1) (rd := rd) (w := 0) (by omega) hwh b1 b5_ i42 i44 (fun z => absurd (hsh.symm.trans z) (by decide)) (fun _ => ?_)
          show am_G _ M_X10_soon _ 121 [some (.ref 0), some (.int (nI j)), some (.int (nI mk)), some (.int (nI wh)), some (.int (nI (2 ^ pcn mk 21))), some (.int (nI 0)), some (.int (nI k)), some (.int (nI i)), some (.int (nI 1)), v9] [.int (nI 0)] σ2
          refine am_if (ty := 134) (tn := 124) rfl (by decide) rfl rfl (fun (h_2 : nI 0 = 0) => ?_) (fun (h_2 : ¬ (nI 0 = 0)) => ?_)
          rotate_left
          · exact absurd (by decide) h_2
          refine am_run 1 (pc' := 136) (ls' := [some (.ref 0), some (.int (nI j)), some (.int (nI mk)), some (.int (nI wh)), some (.int (nI (2 ^ pcn mk 21))), some (.int (nI 0)), some (.int (nI k)), some (.int (nI i)), some (.int (nI 1)), v9]) (st' := [.int (nI 1)]) (σ' := σ2) rfl ?_
          refine am_if (ty := 159) (tn := 139) rfl (by decide) rfl rfl (fun (h_3 : nI 1 = 0) => ?_) (fun (h_3 : ¬ (nI 1 = 0)) => ?_)
          · exact absurd h_3 (by decide)
          refine am_run 3 (pc' := 144) (ls' := [some (.ref 0), some (.int (nI j)), some (.int (nI mk)), some (.int (nI wh)), some (.int (nI (2 ^ pcn mk 21))), some (.int (nI 0)), some (.int (nI k)), some (.int (nI i)), some (.int (nI 1)), v9]) (st' := [.int (σ2.1 0 44), .ref 0]) (σ' := σ2) rfl ?_
          refine am_top (v' := nI nx) i44 ?_
          refine am_run 3 (pc' := 150) (ls' := [some (.ref 0), some (.int (nI j)), some (.int (nI mk)), some (.int (nI wh)), some (.int (nI (2 ^ pcn mk 21))), some (.int (nI 0)), some (.int (nI k)), some (.int (nI i)), some (.int (nI 1)), v9]) (st' := [.int (nI k), .ref 33, .int (nI nx), .ref 0]) (σ' := σ2) rfl ?_
          refine am_ialdN (n := 101) (v := nI (h k)) rfl rfl rfl (by omega) g2 (by decide) ?_
          refine am_run 2 (pc' := 153) (ls' := [some (.ref 0), some (.int (nI j)), some (.int (nI mk)), some (.int (nI wh)), some (.int (nI (2 ^ pcn mk 21))), some (.int (nI 0)), some (.int (nI k)), some (.int (nI i)), some (.int (nI 1)), v9]) (st' := [.int (nI (h k) + nI 1), .int (nI nx), .ref 0]) (σ' := σ2) rfl ?_
          refine am_top (v' := nI (h k + 1)) (nI_add _ _) ?_
          refine am_invv (y := 242) (b := 0) (as := [.int (nI nx), .int (nI (h k + 1))]) (rest := []) rfl rfl rfl rfl rfl rfl rfl (Nat.le_of_ble_eq_true rfl) ?_
          refine c_numberOf (by omega) hT2 (by omega) (fun _ => ?_) (fun z => absurd hfn (by omega))
          show am_G _ M_X10_soon _ 156 [some (.ref 0), some (.int (nI j)), some (.int (nI mk)), some (.int (nI wh)), some (.int (nI (2 ^ pcn mk 21))), some (.int (nI 0)), some (.int (nI k)), some (.int (nI i)), some (.int (nI 1)), v9] [.int (nI (fnd f z0 nx 0 c))] σ2
          refine am_run 4 (pc' := 166) (ls' := [some (.ref 0), some (.int (nI j)), some (.int (nI mk)), some (.int (nI wh)), some (.int (nI (2 ^ pcn mk 21))), some (.int (nI 0)), some (.int (nI k)), some (.int (nI i)), some (.int (nI 1)), some (.int (nI (fnd f z0 nx 0 c)))]) (st' := [.int (nI 100), .int (nI (fnd f z0 nx 0 c))]) (σ' := σ2) rfl ?_
          refine am_ic (ty := 169) (tn := 172) rfl (by decide) rfl rfl (fun (h_4 : nI (fnd f z0 nx 0 c) = nI 100) => ?_) (fun (h_4 : ¬ (nI (fnd f z0 nx 0 c) = nI 100)) => ?_)
          · have h_4 : fnd f z0 nx 0 c = 100 := (nI_eq (by omega) (by omega)).mp h_4
            omega
          have h_4 : ¬ (fnd f z0 nx 0 c = 100) := fun z => h_4 ((nI_eq (by omega) (by omega)).mpr z)
          refine am_run 1 (pc' := 175) (ls' := [some (.ref 0), some (.int (nI j)), some (.int (nI mk)), some (.int (nI wh)), some (.int (nI (2 ^ pcn mk 21))), some (.int (nI 0)), some (.int (nI k)), some (.int (nI i + nI 1)), some (.int (nI 1)), some (.int (nI (fnd f z0 nx 0 c)))]) (st' := []) (σ' := σ2) rfl ?_
          refine am_ls (ls' := [some (.ref 0), some (.int (nI j)), some (.int (nI mk)), some (.int (nI wh)), some (.int (nI (2 ^ pcn mk 21))), some (.int (nI 0)), some (.int (nI k)), some (.int (nI (i + 1))), some (.int (nI 1)), some (.int (nI (fnd f z0 nx 0 c)))]) (by rw [nI_add]) ?_
          refine am_run 1 (pc' := 87) (ls' := [some (.ref 0), some (.int (nI j)), some (.int (nI mk)), some (.int (nI wh)), some (.int (nI (2 ^ pcn mk 21))), some (.int (nI 0)), some (.int (nI k)), some (.int (nI (i + 1))), some (.int (nI 1)), some (.int (nI (fnd f z0 nx 0 c)))]) (st' := []) (σ' := σ2) rfl ?_
          have e : (so_in p (r + 1) mk wh (m + 1) i k c f h) = (so_in p (r + 1) mk wh m (i + 1) k c f h) := by show (if shw wh (oc p (r + 1) (f k) (pt mk i)) = true then _ else _) = _; rw [hz]; rw [if_neg (nfl hsh), if_pos rfl, if_pos hfn]
          rw [e] at hA hN
          exact c_msoon_in hd hM hmk hmv hwh m (i + 1) _ c f h _ _ (by omega) hK2 hT2 hkc hVA hA hN
        · by_cases hc100 : c = 100
          · skip
            refine am_run 2 (pc' := 91) (ls' := [some (.ref 0), some (.int (nI j)), some (.int (nI mk)), some (.int (nI wh)), some (.int (nI (2 ^ pcn mk 21))), some (.int (nI 0)), some (.int (nI k)), some (.int (nI i)), v8, v9]) (st' := [.int (nI (2 ^ pcn mk 21)), .int (nI i)]) (σ' := σ') rfl ?_
            refine am_ic (ty := 94) (tn := 178) rfl (by decide) rfl rfl (fun (h_1 : nI i < nI (2 ^ pcn mk 21)) => ?_) (fun (h_1 : ¬ (nI i < nI (2 ^ pcn mk 21))) => ?_)
            rotate_left
            · have h_1 : ¬ (i < 2 ^ pcn mk 21) := fun z => h_1 ((nI_ltI (by omega) (by omega)).mpr z)
              omega
            have h_1 : i < 2 ^ pcn mk 21 := (nI_ltI (by omega) (by omega)).mp h_1
            refine am_run 5 (pc' := 102) (ls' := [some (.ref 0), some (.int (nI j)), some (.int (nI mk)), some (.int (nI wh)), some (.int (nI (2 ^ pcn mk 21))), some (.int (nI 0)), some (.int (nI k)), some (.int (nI i)), v8, v9]) (st' := [.int (nI k), .ref 32, .int (nI j), .ref 0]) (σ' := σ') rfl ?_
            refine am_ialdN (n := 101) (v := nI (f k)) rfl rfl rfl (by omega) f1 (by decide) ?_
            refine am_run 2 (pc' := 106) (ls' := [some (.ref 0), some (.int (nI j)), some (.int (nI mk)), some (.int (nI wh)), some (.int (nI (2 ^ pcn mk 21))), some (.int (nI 0)), some (.int (nI k)), some (.int (nI i)), v8, v9]) (st' := [.int (nI i), .int (nI mk), .int (nI (f k)), .int (nI j), .ref 0]) (σ' := σ') rfl ?_
            refine am_invs (y := 241) (as := [.int (nI mk), .int (nI i)]) (rest := [.int (nI (f k)), .int (nI j), .ref 0]) rfl rfl rfl rfl rfl rfl (Nat.le_of_ble_eq_true rfl) ?_
            refine c_partOf (by omega) hmk (by omega) ?_
            show am_G _ M_X10_soon _ 109 [some (.ref 0), some (.int (nI j)), some (.int (nI mk)), some (.int (nI wh)), some (.int (nI (2 ^ pcn mk 21))), some (.int (nI 0)), some (.int (nI k)), some (.int (nI i)), v8, v9] [.int (nI (pt mk i)), .int (nI (f k)), .int (nI j), .ref 0] σ'
            refine am_invv (y := 229) (b := 0) (as := [.int (nI j), .int (nI (f k)), .int (nI (pt mk i))]) (rest := []) rfl rfl rfl rfl rfl rfl rfl (Nat.le_of_ble_eq_true rfl) ?_
            refine c_settles1 (by omega) (hK.MI hM) f4 (hVA k hkc).2 (pt_lt mk i) hz (fun σ2 hS i38 i39 i40 i41 i42 i43 i44 i29 => ?_)
            have hK2 := hK.ks hS
            have hT2 := hT.ks hS
            have g2 := (hT2.2.2 k hkc).2.1
            show am_G _ M_X10_soon _ 112 [some (.ref 0), some (.int (nI j)), some (.int (nI mk)), some (.int (nI wh)), some (.int (nI (2 ^ pcn mk 21))), some (.int (nI 0)), some (.int (nI k)), some (.int (nI i)), v8, v9] [.int (nI 1)] σ2
            refine am_run 4 (pc' := 118) (ls' := [some (.ref 0), some (.int (nI j)), some (.int (nI mk)), some (.int (nI wh)), some (.int (nI (2 ^ pcn mk 21))), some (.int (nI 0)), some (.int (nI k)), some (.int (nI i)), some (.int (nI 1)), v9]) (st' := [.int (nI 1), .int (nI wh), .ref 0]) (σ' := σ2) rfl ?_
            refine am_invv (y := 247) (b := 0) (as := [.int (nI wh), .int (nI 1)]) (rest := []) rfl rfl rfl rfl rfl rfl rfl (Nat.le_of_ble_eq_true rfl) ?_
            refine c_sought1 (A := A) (c1 := c1) (rd := rd) (w := 0) (by omega) hwh b1 b5_ i42 i44 (fun z => absurd (hsh.symm.trans z) (by decide)) (fun _ => ?_)
            show am_G _ M_X10_soon _ 121 [some (.ref 0), some (.int (nI j)), some (.int (nI mk)), some (.int (nI wh)), some (.int (nI (2 ^ pcn mk 21))), some (.int (nI 0)), some (.int (nI k)), some (.int (nI i)), some (.int (nI 1)), v9] [.int (nI 0)] σ2
            refine am_if (ty := 134) (tn := 124) rfl (by decide) rfl rfl (fun (h_2 : nI 0 = 0) => ?_) (fun (h_2 : ¬ (nI 0 = 0)) => ?_)
            rotate_left
            · exact absurd (by decide) h_2
            refine am_run 1 (pc' := 136) (ls' := [some (.ref 0), some (.int (nI j)), some (.int (nI mk)), some (.int (nI wh)), some (.int (nI (2 ^ pcn mk 21))), some (.int (nI 0)), some (.int (nI k)), some (.int (nI i)), some (.int (nI 1)), v9]) (st' := [.int (nI 1)]) (σ' := σ2) rfl ?_
            refine am_if (ty := 159) (tn := 139) rfl (by decide) rfl rfl (fun (h_3 : nI 1 = 0) => ?_) (fun (h_3 : ¬ (nI 1 = 0)) => ?_)
            · exact absurd h_3 (by decide)
            refine am_run 3 (pc' := 144) (ls' := [some (.ref 0), some (.int (nI j)), some (.int (nI mk)), some (.int (nI wh)), some (.int (nI (2 ^ pcn mk 21))), some (.int (nI 0)), some (.int (nI k)), some (.int (nI i)), some (.int (nI 1)), v9]) (st' := [.int (σ2.1 0 44), .ref 0]) (σ' := σ2) rfl ?_
            refine am_top (v' := nI nx) i44 ?_
            refine am_run 3 (pc' := 150) (ls' := [some (.ref 0), some (.int (nI j)), some (.int (nI mk)), some (.int (nI wh)), some (.int (nI (2 ^ pcn mk 21))), some (.int (nI 0)), some (.int (nI k)), some (.int (nI i)), some (.int (nI 1)), v9]) (st' := [.int (nI k), .ref 33, .int (nI nx), .ref 0]) (σ' := σ2) rfl ?_
            refine am_ialdN (n := 101) (v := nI (h k)) rfl rfl rfl (by omega) g2 (by decide) ?_
            refine am_run 2 (pc' := 153) (ls' := [some (.ref 0), some (.int (nI j)), some (.int (nI mk)), some (.int (nI wh)), some (.int (nI (2 ^ pcn mk 21))), some (.int (nI 0)), some (.int (nI k)), some (.int (nI i)), some (.int (nI 1)), v9]) (st' := [.int (nI (h k) + nI 1), .int (nI nx), .ref 0]) (σ' := σ2) rfl ?_
            refine am_top (v' := nI (h k + 1)) (nI_add _ _) ?_
            refine am_invv (y := 242) (b := 0) (as := [.int (nI nx), .int (nI (h k + 1))]) (rest := []) rfl rfl rfl rfl rfl rfl rfl (Nat.le_of_ble_eq_true rfl) ?_
            refine c_numberOf (by omega) hT2 (by omega) (fun z => absurd z hfn) (fun _ => ?_)
            show am_G _ M_X10_soon _ 156 [some (.ref 0), some (.int (nI j)), some (.int (nI mk)), some (.int (nI wh)), some (.int (nI (2 ^ pcn mk 21))), some (.int (nI 0)), some (.int (nI k)), some (.int (nI i)), some (.int (nI 1)), v9] [.int (nI c)] (am_wr (am_wr (am_wr σ2 32 c (nI nx)) 33 c (nI (h k + 1))) 0 49 (nI (c + 1)))
            refine am_run 4 (pc' := 166) (ls' := [some (.ref 0), some (.int (nI j)), some (.int (nI mk)), some (.int (nI wh)), some (.int (nI (2 ^ pcn mk 21))), some (.int (nI 0)), some (.int (nI k)), some (.int (nI i)), some (.int (nI 1)), some (.int (nI c))]) (st' := [.int (nI 100), .int (nI c)]) (σ' := (am_wr (am_wr (am_wr σ2 32 c (nI nx)) 33 c (nI (h k + 1))) 0 49 (nI (c + 1)))) rfl ?_
            refine am_ic (ty := 169) (tn := 172) rfl (by decide) rfl rfl (fun (h_4 : nI c = nI 100) => ?_) (fun (h_4 : ¬ (nI c = nI 100)) => ?_)
            rotate_left
            · have h_4 : ¬ (c = 100) := fun z => h_4 ((nI_eq (by omega) (by omega)).mpr z)
              omega
            have h_4 : c = 100 := (nI_eq (by omega) (by omega)).mp h_4
            refine am_run 1 (pc' := 171) (ls' := [some (.ref 0), some (.int (nI j)), some (.int (nI mk)), some (.int (nI wh)), some (.int (nI (2 ^ pcn mk 21))), some (.int (nI 0)), some (.int (nI k)), some (.int (nI i)), some (.int (nI 1)), some (.int (nI c))]) (st' := [.int (-1000004)]) (σ' := (am_wr (am_wr (am_wr σ2 32 c (nI nx)) 33 c (nI (h k + 1))) 0 49 (nI (c + 1)))) rfl ?_
            refine am_reti rfl rfl ?_
            have e : (so_in p (r + 1) mk wh (m + 1) i k c f h) = (some (-1000004), c, f, h) := by show (if shw wh (oc p (r + 1) (f k) (pt mk i)) = true then _ else _) = _; rw [hz]; rw [if_neg (nfl hsh), if_pos rfl, if_neg hfn, if_pos hc100]
            rw [e] at hA
            exact hA _ (((hK2.wr (by decide) _ _).wr (by decide) _ _).w0 (by decide) _) (fun z => by cases z)
          · skip
            refine am_run 2 (pc' := 91) (ls' := [some (.ref 0), some (.int (nI j)), some (.int (nI mk)), some (.int (nI wh)), some (.int (nI (2 ^ pcn mk 21))), some (.int (nI 0)), some (.int (nI k)), some (.int (nI i)), v8, v9]) (st' := [.int (nI (2 ^ pcn mk 21)), .int (nI i)]) (σ' := σ') rfl ?_
            refine am_ic (ty := 94) (tn := 178) rfl (by decide) rfl rfl (fun (h_1 : nI i < nI (2 ^ pcn mk 21)) => ?_) (fun (h_1 : ¬ (nI i < nI (2 ^ pcn mk 21))) => ?_)
            rotate_left
            · have h_1 : ¬ (i < 2 ^ pcn mk 21) := fun z => h_1 ((nI_ltI (by omega) (by omega)).mpr z)
              omega
            have h_1 : i < 2 ^ pcn mk 21 := (nI_ltI (by omega) (by omega)).mp h_1
            refine am_run 5 (pc' := 102) (ls' := [some (.ref 0), some (.int (nI j)), some (.int (nI mk)), some (.int (nI wh)), some (.int (nI (2 ^ pcn mk 21))), some (.int (nI 0)), some (.int (nI k)), some (.int (nI i)), v8, v9]) (st' := [.int (nI k), .ref 32, .int (nI j), .ref 0]) (σ' := σ') rfl ?_
            refine am_ialdN (n := 101) (v := nI (f k)) rfl rfl rfl (by omega) f1 (by decide) ?_
            refine am_run 2 (pc' := 106) (ls' := [some (.ref 0), some (.int (nI j)), some (.int (nI mk)), some (.int (nI wh)), some (.int (nI (2 ^ pcn mk 21))), some (.int (nI 0)), some (.int (nI k)), some (.int (nI i)), v8, v9]) (st' := [.int (nI i), .int (nI mk), .int (nI (f k)), .int (nI j), .ref 0]) (σ' := σ') rfl ?_
            refine am_invs (y := 241) (as := [.int (nI mk), .int (nI i)]) (rest := [.int (nI (f k)), .int (nI j), .ref 0]) rfl rfl rfl rfl rfl rfl (Nat.le_of_ble_eq_true rfl) ?_
            refine c_partOf (by omega) hmk (by omega) ?_
            show am_G _ M_X10_soon _ 109 [some (.ref 0), some (.int (nI j)), some (.int (nI mk)), some (.int (nI wh)), some (.int (nI (2 ^ pcn mk 21))), some (.int (nI 0)), some (.int (nI k)), some (.int (nI i)), v8, v9] [.int (nI (pt mk i)), .int (nI (f k)), .int (nI j), .ref 0] σ'
            refine am_invv (y := 229) (b := 0) (as := [.int (nI j), .int (nI (f k)), .int (nI (pt mk i))]) (rest := []) rfl rfl rfl rfl rfl rfl rfl (Nat.le_of_ble_eq_true rfl) ?_
            refine c_settles1 (by omega) (hK.MI hM) f4 (hVA k hkc).2 (pt_lt mk i) hz (fun σ2 hS i38 i39 i40 i41 i42 i43 i44 i29 => ?_)
            have hK2 := hK.ks hS
            have hT2 := hT.ks hS
            have g2 := (hT2.2.2 k hkc).2.1
            show am_G _ M_X10_soon _ 112 [some (.ref 0), some (.int (nI j)), some (.int (nI mk)), some (.int (nI wh)), some (.int (nI (2 ^ pcn mk 21))), some (.int (nI 0)), some (.int (nI k)), some (.int (nI i)), v8, v9] [.int (nI 1)] σ2
            refine am_run 4 (pc' := 118) (ls' := [some (.ref 0), some (.int (nI j)), some (.int (nI mk)), some (.int (nI wh)), some (.int (nI (2 ^ pcn mk 21))), some (.int (nI 0)), some (.int (nI k)), some (.int (nI i)), some (.int (nI 1)), v9]) (st' := [.int (nI 1), .int (nI wh), .ref 0]) (σ' := σ2) rfl ?_
            refine am_invv (y := 247) (b := 0) (as := [.int (nI wh), .int (nI 1)]) (rest := []) rfl rfl rfl rfl rfl rfl rfl (Nat.le_of_ble_eq_true rfl) ?_
            refine c_sought1 (A := A) (c1 := c1) (rd := rd) (w := 0) (by omega) hwh b1 b5_ i42 i44 (fun z => absurd (hsh.symm.trans z) (by decide)) (fun _ => ?_)
            show am_G _ M_X10_soon _ 121 [some (.ref 0), some (.int (nI j)), some (.int (nI mk)), some (.int (nI wh)), some (.int (nI (2 ^ pcn mk 21))), some (.int (nI 0)), some (.int (nI k)), some (.int (nI i)), some (.int (nI 1)), v9] [.int (nI 0)] σ2
            refine am_if (ty := 134) (tn := 124) rfl (by decide) rfl rfl (fun (h_2 : nI 0 = 0) => ?_) (fun (h_2 : ¬ (nI 0 = 0)) => ?_)
            rotate_left
            · exact absurd (by decide) h_2
            refine am_run 1 (pc' := 136) (ls' := [some (.ref 0), some (.int (nI j)), some (.int (nI mk)), some (.int (nI wh)), some (.int (nI (2 ^ pcn mk 21))), some (.int (nI 0)), some (.int (nI k)), some (.int (nI i)), some (.int (nI 1)), v9]) (st' := [.int (nI 1)]) (σ' := σ2) rfl ?_
            refine am_if (ty := 159) (tn := 139) rfl (by decide) rfl rfl (fun (h_3 : nI 1 = 0) => ?_) (fun (h_3 : ¬ (nI 1 = 0)) => ?_)
            · exact absurd h_3 (by decide)
            refine am_run 3 (pc' := 144) (ls' := [some (.ref 0), some (.int (nI j)), some (.int (nI mk)), some (.int (nI wh)), some (.int (nI (2 ^ pcn mk 21))), some (.int (nI 0)), some (.int (nI k)), some (.int (nI i)), some (.int (nI 1)), v9]) (st' := [.int (σ2.1 0 44), .ref 0]) (σ' := σ2) rfl ?_
            refine am_top (v' := nI nx) i44 ?_
            refine am_run 3 (pc' := 150) (ls' := [some (.ref 0), some (.int (nI j)), some (.int (nI mk)), some (.int (nI wh)), some (.int (nI (2 ^ pcn mk 21))), some (.int (nI 0)), some (.int (nI k)), some (.int (nI i)), some (.int (nI 1)), v9]) (st' := [.int (nI k), .ref 33, .int (nI nx), .ref 0]) (σ' := σ2) rfl ?_
            refine am_ialdN (n := 101) (v := nI (h k)) rfl rfl rfl (by omega) g2 (by decide) ?_
            refine am_run 2 (pc' := 153) (ls' := [some (.ref 0), some (.int (nI j)), some (.int (nI mk)), some (.int (nI wh)), some (.int (nI (2 ^ pcn mk 21))), some (.int (nI 0)), some (.int (nI k)), some (.int (nI i)), some (.int (nI 1)), v9]) (st' := [.int (nI (h k) + nI 1), .int (nI nx), .ref 0]) (σ' := σ2) rfl ?_
            refine am_top (v' := nI (h k + 1)) (nI_add _ _) ?_
            refine am_invv (y := 242) (b := 0) (as := [.int (nI nx), .int (nI (h k + 1))]) (rest := []) rfl rfl rfl rfl rfl rfl rfl (Nat.le_of_ble_eq_true rfl) ?_
            refine c_numberOf (by omega) hT2 (by omega) (fun z => absurd z hfn) (fun _ => ?_)
            show am_G _ M_X10_soon _ 156 [some (.ref 0), some (.int (nI j)), some (.int (nI mk)), some (.int (nI wh)), some (.int (nI (2 ^ pcn mk 21))), some (.int (nI 0)), some (.int (nI k)), some (.int (nI i)), some (.int (nI 1)), v9] [.int (nI c)] (am_wr (am_wr (am_wr σ2 32 c (nI nx)) 33 c (nI (h k + 1))) 0 49 (nI (c + 1)))
            refine am_run 4 (pc' := 166) (ls' := [some (.ref 0), some (.int (nI j)), some (.int (nI mk)), some (.int (nI wh)), some (.int (nI (2 ^ pcn mk 21))), some (.int (nI 0)), some (.int (nI k)), some (.int (nI i)), some (.int (nI 1)), some (.int (nI c))]) (st' := [.int (nI 100), .int (nI c)]) (σ' := (am_wr (am_wr (am_wr σ2 32 c (nI nx)) 33 c (nI (h k + 1))) 0 49 (nI (c + 1)))) rfl ?_
            refine am_ic (ty := 169) (tn := 172) rfl (by decide) rfl rfl (fun (h_4 : nI c = nI 100) => ?_) (fun (h_4 : ¬ (nI c = nI 100)) => ?_)
            · have h_4 : c = 100 := (nI_eq (by omega) (by omega)).mp h_4
              omega
            have h_4 : ¬ (c = 100) := fun z => h_4 ((nI_eq (by omega) (by omega)).mpr z)
            refine am_run 1 (pc' := 175) (ls' := [some (.ref 0), some (.int (nI j)), some (.int (nI mk)), some (.int (nI wh)), some (.int (nI (2 ^ pcn mk 21))), some (.int (nI 0)), some (.int (nI k)), some (.int (nI i + nI 1)), some (.int (nI 1)), some (.int (nI c))]) (st' := []) (σ' := (am_wr (am_wr (am_wr σ2 32 c (nI nx)) 33 c (nI (h k + 1))) 0 49 (nI (c + 1)))) rfl ?_
            refine am_ls (ls' := [some (.ref 0), some (.int (nI j)), some (.int (nI mk)), some (.int (nI wh)), some (.int (nI (2 ^ pcn mk 21))), some (.int (nI 0)), some (.int (nI k)), some (.int (nI (i + 1))), some (.int (nI 1)), some (.int (nI c))]) (by rw [nI_add]) ?_
            refine am_run 1 (pc' := 87) (ls' := [some (.ref 0), some (.int (nI j)), some (.int (nI mk)), some (.int (nI wh)), some (.int (nI (2 ^ pcn mk 21))), some (.int (nI 0)), some (.int (nI k)), some (.int (nI (i + 1))), some (.int (nI 1)), some (.int (nI c))]) (st' := []) (σ' := (am_wr (am_wr (am_wr σ2 32 c (nI nx)) 33 c (nI (h k + 1))) 0 49 (nI (c + 1)))) rfl ?_
            have e : (so_in p (r + 1) mk wh (m + 1) i k c f h) = (so_in p (r + 1) mk wh m (i + 1) k (c + 1) (up1 f c nx) (up1 h c (h k + 1))) := by show (if shw wh (oc p (r + 1) (f k) (pt mk i)) = true then _ else _) = _; rw [hz]; rw [if_neg (nfl hsh), if_pos rfl, if_neg hfn, if_neg hc100]
            rw [e] at hA hN
            have hkne : k ≠ c := by omega
            refine c_msoon_in hd hM hmk hmv hwh m (i + 1) _ (c + 1) (up1 f c nx) (up1 h c (h k + 1)) _ _ (by omega) (((hK2.wr (by decide) _ _).wr (by decide) _ _).w0 (by decide) _) (hT2.add (by omega) (by omega) (by omega)) (by omega) (hVA.add hnv) hA hN
      · skip
        refine am_run 2 (pc' := 91) (ls' := [some (.ref 0), some (.int (nI j)), some (.int (nI mk)), some (.int (nI wh)), some (.int (nI (2 ^ pcn mk 21))), some (.int (nI 0)), some (.int (nI k)), some (.int (nI i)), v8, v9]) (st' := [.int (nI (2 ^ pcn mk 21)), .int (nI i)]) (σ' := σ') rfl ?_
        refine am_ic (ty := 94) (tn := 178) rfl (by decide) rfl rfl (fun (h_1 : nI i < nI (2 ^ pcn mk 21)) => ?_) (fun (h_1 : ¬ (nI i < nI (2 ^ pcn mk 21))) => ?_)
        rotate_left
        · have h_1 : ¬ (i < 2 ^ pcn mk 21) := fun z => h_1 ((nI_ltI (by omega) (by omega)).mpr z)
          omega
        have h_1 : i < 2 ^ pcn mk 21 := (nI_ltI (by omega) (by omega)).mp h_1
        refine am_run 5 (pc' := 102) (ls' := [some (.ref 0), some (.int (nI j)), some (.int (nI mk)), some (.int (nI wh)), some (.int (nI (2 ^ pcn mk 21))), some (.int (nI 0)), some (.int (nI k)), some (.int (nI i)), v8, v9]) (st' := [.int (nI k), .ref 32, .int (nI j), .ref 0]) (σ' := σ') rfl ?_
        refine am_ialdN (n := 101) (v := nI (f k)) rfl rfl rfl (by omega) f1 (by decide) ?_
        refine am_run 2 (pc' := 106) (ls' := [some (.ref 0), some (.int (nI j)), some (.int (nI mk)), some (.int (nI wh)), some (.int (nI (2 ^ pcn mk 21))), some (.int (nI 0)), some (.int (nI k)), some (.int (nI i)), v8, v9]) (st' := [.int (nI i), .int (nI mk), .int (nI (f k)), .int (nI j), .ref 0]) (σ' := σ') rfl ?_
        refine am_invs (y := 241) (as := [.int (nI mk), .int (nI i)]) (rest := [.int (nI (f k)), .int (nI j), .ref 0]) rfl rfl rfl rfl rfl rfl (Nat.le_of_ble_eq_true rfl) ?_
        refine c_partOf (by omega) hmk (by omega) ?_
        show am_G _ M_X10_soon _ 109 [some (.ref 0), some (.int (nI j)), some (.int (nI mk)), some (.int (nI wh)), some (.int (nI (2 ^ pcn mk 21))), some (.int (nI 0)), some (.int (nI k)), some (.int (nI i)), v8, v9] [.int (nI (pt mk i)), .int (nI (f k)), .int (nI j), .ref 0] σ'
        refine am_invv (y := 229) (b := 0) (as := [.int (nI j), .int (nI (f k)), .int (nI (pt mk i))]) (rest := []) rfl rfl rfl rfl rfl rfl rfl (Nat.le_of_ble_eq_true rfl) ?_
        refine c_settles0 (by omega) (hK.MI hM) f4 (hVA k hkc).2 (pt_lt mk i) hz hw0 (fun σ2 hS i38 i39 i40 i41 i29 => ?_)
        have hK2 := hK.ks hS
        have hT2 := hT.ks hS
        have g2 := (hT2.2.2 k hkc).2.1
        show am_G _ M_X10_soon _ 112 [some (.ref 0), some (.int (nI j)), some (.int (nI mk)), some (.int (nI wh)), some (.int (nI (2 ^ pcn mk 21))), some (.int (nI 0)), some (.int (nI k)), some (.int (nI i)), v8, v9] [.int (nI 0)] σ2
        refine am_run 4 (pc' := 118) (ls' := [some (.ref 0), some (.int (nI j)), some (.int (nI mk)), some (.int (nI wh)), some (.int (nI (2 ^ pcn mk 21))), some (.int (nI 0)), some (.int (nI k)), some (.int (nI i)), some (.int (nI 0)), v9]) (st' := [.int (nI 0), .int (nI wh), .ref 0]) (σ' := σ2) rfl ?_
        refine am_invv (y := 247) (b := 0) (as := [.int (nI wh), .int (nI 0)]) (rest := []) rfl rfl rfl rfl rfl rfl rfl (Nat.le_of_ble_eq_true rfl) ?_
        refine c_sought0 (A := A) (c1 := c1) (rd := rd) (w := w) (by omega) hwh b1 b5_ hw0 (fun z => absurd (hsh.symm.trans z) (by decide)) (fun _ => ?_)
        show am_G _ M_X10_soon _ 121 [some (.ref 0), some (.int (nI j)), some (.int (nI mk)), some (.int (nI wh)), some (.int (nI (2 ^ pcn mk 21))), some (.int (nI 0)), some (.int (nI k)), some (.int (nI i)), some (.int (nI 0)), v9] [.int (nI 0)] σ2
        refine am_if (ty := 134) (tn := 124) rfl (by decide) rfl rfl (fun (h_2 : nI 0 = 0) => ?_) (fun (h_2 : ¬ (nI 0 = 0)) => ?_)
        rotate_left
        · exact absurd (by decide) h_2
        refine am_run 1 (pc' := 136) (ls' := [some (.ref 0), some (.int (nI j)), some (.int (nI mk)), some (.int (nI wh)), some (.int (nI (2 ^ pcn mk 21))), some (.int (nI 0)), some (.int (nI k)), some (.int (nI i)), some (.int (nI 0)), v9]) (st' := [.int (nI 0)]) (σ' := σ2) rfl ?_
        refine am_if (ty := 159) (tn := 139) rfl (by decide) rfl rfl (fun (h_3 : nI 0 = 0) => ?_) (fun (h_3 : ¬ (nI 0 = 0)) => ?_)
        rotate_left
        · exact absurd (by decide) h_3
        refine am_run 4 (pc' := 166) (ls' := [some (.ref 0), some (.int (nI j)), some (.int (nI mk)), some (.int (nI wh)), some (.int (nI (2 ^ pcn mk 21))), some (.int (nI 0)), some (.int (nI k)), some (.int (nI i)), some (.int (nI 0)), some (.int (nI 0))]) (st' := [.int (nI 100), .int (nI 0)]) (σ' := σ2) rfl ?_
        refine am_ic (ty := 169) (tn := 172) rfl (by decide) rfl rfl (fun (h_4 : nI 0 = nI 100) => ?_) (fun (h_4 : ¬ (nI 0 = nI 100)) => ?_)
        · exact absurd h_4 (by decide)
        refine am_run 1 (pc' := 175) (ls' := [some (.ref 0), some (.int (nI j)), some (.int (nI mk)), some (.int (nI wh)), some (.int (nI (2 ^ pcn mk 21))), some (.int (nI 0)), some (.int (nI k)), some (.int (nI i + nI 1)), some (.int (nI 0)), some (.int (nI 0))]) (st' := []) (σ' := σ2) rfl ?_
        refine am_ls (ls' := [some (.ref 0), some (.int (nI j)), some (.int (nI mk)), some (.int (nI wh)), some (.int (nI (2 ^ pcn mk 21))), some (.int (nI 0)), some (.int (nI k)), some (.int (nI (i + 1))), some (.int (nI 0)), some (.int (nI 0))]) (by rw [nI_add]) ?_
        refine am_run 1 (pc' := 87) (ls' := [some (.ref 0), some (.int (nI j)), some (.int (nI mk)), some (.int (nI wh)), some (.int (nI (2 ^ pcn mk 21))), some (.int (nI 0)), some (.int (nI k)), some (.int (nI (i + 1))), some (.int (nI 0)), some (.int (nI 0))]) (st' := []) (σ' := σ2) rfl ?_
        have e : (so_in p (r + 1) mk wh (m + 1) i k c f h) = (so_in p (r + 1) mk wh m (i + 1) k c f h) := by show (if shw wh (oc p (r + 1) (f k) (pt mk i)) = true then _ else _) = _; rw [hz]; rw [if_neg (nfl hsh), if_neg (show ¬ (P, A, w, c1, nx, rd).2.2.1 = 0 from hw0)]
        rw [e] at hA hN
        exact c_msoon_in hd hM hmk hmv hwh m (i + 1) _ c f h _ _ (by omega) hK2 hT2 hkc hVA hA hN
set_option maxRecDepth 10000 in
set_option maxHeartbeats 2000000 in
theorem c_msoon_out {d : Nat} (hd : 20 ≤ d) {σ0 : am_M} {j n r mk wh : Nat} {p : Pg} {rk od dp : Nat → Nat} {ow : Nat → Nat → Nat} (hM : MI σ0 j p n r rk od dp ow) (hmk : mk < 256) (hmv : mkv mk) (hwh : wh ≤ 9) {Q : am_Q} : ∀ (M k : Nat) (σ' : am_M) (c : Nat) (f h : Nat → Nat) (v7 v8 v9 : Option Value), k + M = 100 → KY σ0 σ' → TM σ' c f h → VA p r c f → (∀ σ'', KY σ0 σ'' → Q (some (.int (so_out p (r + 1) mk wh M k c f h))) σ'') → am_G d M_X10_soon Q 75 [some (.ref 0), some (.int (nI j)), some (.int (nI mk)), some (.int (nI wh)), some (.int (nI (2 ^ pcn mk 21))), some (.int (nI 0)), some (.int (nI k)), v7, v8, v9] [] σ'
  | 0, k, σ', c, f, h, v7, v8, v9, hm, hK, hT, hVA, hq => by
    have hcl := hT.1
    refine am_run 3 (pc' := 81) (ls' := [some (.ref 0), some (.int (nI j)), some (.int (nI mk)), some (.int (nI wh)), some (.int (nI (2 ^ pcn mk 21))), some (.int (nI 0)), some (.int (nI k)), v7, v8, v9]) (st' := [.int (σ'.1 0 49), .int (nI k)]) (σ' := σ') rfl ?_
    refine am_top (v' := nI c) hT.2.1 ?_
    refine am_ic (ty := 84) (tn := 184) rfl (by decide) rfl rfl (fun (h_1 : nI k < nI c) => ?_) (fun (h_1 : ¬ (nI k < nI c)) => ?_)
    · have h_1 : k < c := (nI_ltI (by omega) (by omega)).mp h_1
      omega
    have h_1 : ¬ (k < c) := fun z => h_1 ((nI_ltI (by omega) (by omega)).mpr z)
    refine am_run 1 (pc' := 185) (ls' := [some (.ref 0), some (.int (nI j)), some (.int (nI mk)), some (.int (nI wh)), some (.int (nI (2 ^ pcn mk 21))), some (.int (nI 0)), some (.int (nI k)), v7, v8, v9]) (st' := [.int (-1)]) (σ' := σ') rfl ?_
    refine am_reti rfl rfl ?_
    exact hq σ' hK
  | M + 1, k, σ', c, f, h, v7, v8, v9, hm, hK, hT, hVA, hq => by
    have hcl := hT.1
    by_cases hkc : k < c
    · skip
      refine am_run 3 (pc' := 81) (ls' := [some (.ref 0), some (.int (nI j)), some (.int (nI mk)), some (.int (nI wh)), some (.int (nI (2 ^ pcn mk 21))), some (.int (nI 0)), some (.int (nI k)), v7, v8, v9]) (st' := [.int (σ'.1 0 49), .int (nI k)]) (σ' := σ') rfl ?_
      refine am_top (v' := nI c) hT.2.1 ?_
      refine am_ic (ty := 84) (tn := 184) rfl (by decide) rfl rfl (fun (h_1 : nI k < nI c) => ?_) (fun (h_1 : ¬ (nI k < nI c)) => ?_)
      rotate_left
      · have h_1 : ¬ (k < c) := fun z => h_1 ((nI_ltI (by omega) (by omega)).mpr z)
        omega
      have h_1 : k < c := (nI_ltI (by omega) (by omega)).mp h_1
      refine am_run 2 (pc' := 87) (ls' := [some (.ref 0), some (.int (nI j)), some (.int (nI mk)), some (.int (nI wh)), some (.int (nI (2 ^ pcn mk 21))), some (.int (nI 0)), some (.int (nI k)), some (.int (nI 0)), v8, v9]) (st' := []) (σ' := σ') rfl ?_
      refine c_msoon_in hd hM hmk hmv hwh (2 ^ pcn mk 21) 0 σ' c f h _ _ (by omega) hK hT hkc hVA (fun σ2 hK2 he => ?_) (fun σ2 v7' v8' v9' hK2 he hT2 hVA2 => ?_)
      · have hq2 := hq σ2 hK2
        rw [show (so_out p (r + 1) mk wh (M + 1) k c f h) = (so_in p (r + 1) mk wh (2 ^ pcn mk 21) 0 k c f h).1.getD 0 by show (if k < c then _ else _) = _; rw [if_pos hkc, if_neg he]] at hq2
        exact hq2
      · rw [show (so_out p (r + 1) mk wh (M + 1) k c f h) = so_out p (r + 1) mk wh M (k + 1) (so_in p (r + 1) mk wh (2 ^ pcn mk 21) 0 k c f h).2.1 (so_in p (r + 1) mk wh (2 ^ pcn mk 21) 0 k c f h).2.2.1 (so_in p (r + 1) mk wh (2 ^ pcn mk 21) 0 k c f h).2.2.2 by show (if k < c then _ else _) = _; rw [if_pos hkc, if_pos he]] at hq
        refine am_run 1 (pc' := 181) (ls' := [some (.ref 0), some (.int (nI j)), some (.int (nI mk)), some (.int (nI wh)), some (.int (nI (2 ^ pcn mk 21))), some (.int (nI 0)), some (.int (nI k + nI 1)), v7', v8', v9']) (st' := []) (σ' := σ2) rfl ?_
        refine am_ls (ls' := [some (.ref 0), some (.int (nI j)), some (.int (nI mk)), some (.int (nI wh)), some (.int (nI (2 ^ pcn mk 21))), some (.int (nI 0)), some (.int (nI (k + 1))), v7', v8', v9']) (by rw [nI_add]) ?_
        refine am_run 1 (pc' := 75) (ls' := [some (.ref 0), some (.int (nI j)), some (.int (nI mk)), some (.int (nI wh)), some (.int (nI (2 ^ pcn mk 21))), some (.int (nI 0)), some (.int (nI (k + 1))), v7', v8', v9']) (st' := []) (σ' := σ2) rfl ?_
        exact c_msoon_out hd hM hmk hmv hwh M (k + 1) σ2 _ _ _ _ _ _ (by omega) hK2 hT2 hVA2 hq
    · rw [show (so_out p (r + 1) mk wh (M + 1) k c f h) = -1 by show (if k < c then _ else _) = _; rw [if_neg hkc]] at hq
      refine am_run 3 (pc' := 81) (ls' := [some (.ref 0), some (.int (nI j)), some (.int (nI mk)), some (.int (nI wh)), some (.int (nI (2 ^ pcn mk 21))), some (.int (nI 0)), some (.int (nI k)), v7, v8, v9]) (st' := [.int (σ'.1 0 49), .int (nI k)]) (σ' := σ') rfl ?_
      refine am_top (v' := nI c) hT.2.1 ?_
      refine am_ic (ty := 84) (tn := 184) rfl (by decide) rfl rfl (fun (h_1 : nI k < nI c) => ?_) (fun (h_1 : ¬ (nI k < nI c)) => ?_)
      · have h_1 : k < c := (nI_ltI (by omega) (by omega)).mp h_1
        omega
      have h_1 : ¬ (k < c) := fun z => h_1 ((nI_ltI (by omega) (by omega)).mpr z)
      refine am_run 1 (pc' := 185) (ls' := [some (.ref 0), some (.int (nI j)), some (.int (nI mk)), some (.int (nI wh)), some (.int (nI (2 ^ pcn mk 21))), some (.int (nI 0)), some (.int (nI k)), v7, v8, v9]) (st' := [.int (-1)]) (σ' := σ') rfl ?_
      refine am_reti rfl rfl ?_
      exact hq σ' hK
set_option maxRecDepth 10000 in
set_option maxHeartbeats 2000000 in
theorem pr_soon {d : Nat} (hd : 600 ≤ d) {σ : am_M} (hI : Inv σ) (x y z : Int32) : PR d 135 248 [.int x, .int y, .int z] σ := by
  rcases pl_cases hI x with hN | ⟨rfl, hF⟩ | ⟨rfl, hF⟩
  · refine ⟨-1000001, ?_⟩
    refine am_enter' (M := M_X9_soon) rfl rfl rfl (by omega) (ls := [some (.ref 41), some (.int x), some (.int y), some (.int z), none, none, none]) rfl (fun d' hd' => ?_)
    refine am_run 2 (pc' := 2) (ls' := [some (.ref 41), some (.int x), some (.int y), some (.int z), none, none, none]) (st' := [.int x, .ref 41]) (σ' := σ) rfl ?_
    refine am_invv (y := 140) (b := 41) (as := [.int x]) (rest := []) rfl rfl rfl rfl rfl rfl rfl (Nat.le_of_ble_eq_true rfl) ?_
    refine c_nf (by omega) hN ?_
    show am_G _ M_X9_soon _ 5 [some (.ref 41), some (.int x), some (.int y), some (.int z), none, none, none] [.null] σ
    refine am_run 4 (pc' := 14) (ls' := [some (.ref 41), some (.int x), some (.int y), some (.int z), some (.null), none, none]) (st' := [.int (-1000001)]) (σ' := σ) rfl ?_
    refine am_reti rfl rfl ?_
    refine ⟨rfl, ?_⟩
    refine am_enter' (M := M_X10_soon) rfl rfl rfl (by omega) (ls := [some (.ref 0), some (.int x), some (.int y), some (.int z), none, none, none, none, none, none]) rfl (fun d2 hd2 => ?_)
    refine am_run 2 (pc' := 2) (ls' := [some (.ref 0), some (.int x), some (.int y), some (.int z), none, none, none, none, none, none]) (st' := [.int x, .ref 0]) (σ' := σ) rfl ?_
    refine am_invv (y := 151) (b := 0) (as := [.int x]) (rest := []) rfl rfl rfl rfl rfl rfl rfl (Nat.le_of_ble_eq_true rfl) ?_
    refine c_np (by omega) hN ?_
    show am_G _ M_X10_soon _ 5 [some (.ref 0), some (.int x), some (.int y), some (.int z), none, none, none, none, none, none] [.int (nI 0)] σ
    refine am_if (ty := 8) (tn := 11) rfl (by decide) rfl rfl (fun (h_101 : nI 0 = 0) => ?_) (fun (h_101 : ¬ (nI 0 = 0)) => ?_)
    rotate_left
    · exact absurd (by decide) h_101
    refine am_run 1 (pc' := 10) (ls' := [some (.ref 0), some (.int x), some (.int y), some (.int z), none, none, none, none, none, none]) (st' := [.int (-1000001)]) (σ' := σ) rfl ?_
    refine am_reti rfl rfl ?_
    exact ⟨rfl, hI⟩
  · obtain ⟨hf, p, n, r, kk, rk, od, dp, ow, s, m, hP, hH⟩ := hF
    obtain ⟨hn1, hR, hro, hM, hk1, hk2, hkk, hND⟩ := id hP
    obtain ⟨a3, b3, hv, a4, b4, hm, hh⟩ := id hH
    have hW := hM.1.2.1
    have hn60 := hW.1
    have hs := hv.1
    have hrn : r < n := hM.2.1.2.1
    have hn2 := hM.1.2.2.2.1
    rcases mk_cases y with ⟨mk, hmk, rfl, hmv⟩ | hNM
    · have h8 := ((mk_f mk hmk).2 hmv.2).1
      have hpl := hmv.2
      rcases i32_in z (k := 9) (by decide) with ⟨wh, hwh, rfl⟩ | hz
      · by_cases h8w : wh < 8
        · rcases bt (mk.testBit wh) with hb | hb
          · have hbv : mk / 2 ^ wh % 2 = 1 := by rw [bit_v, hb]; rfl
            refine ⟨-1000002, ?_⟩
            refine am_enter' (M := M_X9_soon) rfl rfl rfl (by omega) (ls := [some (.ref 41), some (.int (nI 0)), some (.int (nI mk)), some (.int (nI wh)), none, none, none]) rfl (fun d' hd' => ?_)
            refine am_run 2 (pc' := 2) (ls' := [some (.ref 41), some (.int (nI 0)), some (.int (nI mk)), some (.int (nI wh)), none, none, none]) (st' := [.int (nI 0), .ref 41]) (σ' := σ) rfl ?_
            refine am_invv (y := 140) (b := 41) (as := [.int (nI 0)]) (rest := []) rfl rfl rfl rfl rfl rfl rfl (Nat.le_of_ble_eq_true rfl) ?_
            refine c_filled0_1 (by omega) hf ?_
            show am_G _ M_X9_soon _ 5 [some (.ref 41), some (.int (nI 0)), some (.int (nI mk)), some (.int (nI wh)), none, none, none] [.ref 73] σ
            refine am_run 4 (pc' := 16) (ls' := [some (.ref 41), some (.int (nI 0)), some (.int (nI mk)), some (.int (nI wh)), some (.ref 73), none, none]) (st' := [.int (nI mk)]) (σ' := σ) rfl ?_
            refine am_invs (y := 142) (as := [.int (nI mk)]) (rest := []) rfl rfl rfl rfl rfl rfl (Nat.le_of_ble_eq_true rfl) ?_
            refine c_mask1_class (by omega) hmk hmv ?_
            show am_G _ M_X9_soon _ 19 [some (.ref 41), some (.int (nI 0)), some (.int (nI mk)), some (.int (nI wh)), some (.ref 73), none, none] [.int (nI 1)] σ
            refine am_if (ty := 46) (tn := 22) rfl (by decide) rfl rfl (fun (h_1 : nI 1 = 0) => ?_) (fun (h_1 : ¬ (nI 1 = 0)) => ?_)
            · exact absurd h_1 (by decide)
            refine am_run 1 (pc' := 23) (ls' := [some (.ref 41), some (.int (nI 0)), some (.int (nI mk)), some (.int (nI wh)), some (.ref 73), none, none]) (st' := [.int (nI wh)]) (σ' := σ) rfl ?_
            refine am_if (ty := 46) (tn := 26) rfl (by decide) rfl rfl (fun (h_2 : nI wh < 0) => ?_) (fun (h_2 : ¬ (nI wh < 0)) => ?_)
            · have h_2 : wh < 0 := (am_nlt0 (by omega)).mp h_2
              exact absurd h_2 (Nat.not_lt_zero _)
            have h_2 : ¬ (wh < 0) := fun z => h_2 ((am_nlt0 (by omega)).mpr z)
            refine am_run 2 (pc' := 29) (ls' := [some (.ref 41), some (.int (nI 0)), some (.int (nI mk)), some (.int (nI wh)), some (.ref 73), none, none]) (st' := [.int (nI 9), .int (nI wh)]) (σ' := σ) rfl ?_
            refine am_ic (ty := 46) (tn := 32) rfl (by decide) rfl rfl (fun (h_3 : nI 9 < nI wh) => ?_) (fun (h_3 : ¬ (nI 9 < nI wh)) => ?_)
            · have h_3 : 9 < wh := (nI_ltI (by omega) (by omega)).mp h_3
              omega
            have h_3 : ¬ (9 < wh) := fun z => h_3 ((nI_ltI (by omega) (by omega)).mpr z)
            refine am_run 2 (pc' := 35) (ls' := [some (.ref 41), some (.int (nI 0)), some (.int (nI mk)), some (.int (nI wh)), some (.ref 73), none, none]) (st' := [.int (nI 8), .int (nI wh)]) (σ' := σ) rfl ?_
            refine am_ic (ty := 38) (tn := 49) rfl (by decide) rfl rfl (fun (h_4 : nI wh < nI 8) => ?_) (fun (h_4 : ¬ (nI wh < nI 8)) => ?_)
            rotate_left
            · have h_4 : ¬ (wh < 8) := fun z => h_4 ((nI_ltI (by omega) (by omega)).mpr z)
              omega
            have h_4 : wh < 8 := (nI_ltI (by omega) (by omega)).mp h_4
            refine am_run 5 (pc' := 43) (ls' := [some (.ref 41), some (.int (nI 0)), some (.int (nI mk)), some (.int (nI wh)), some (.ref 73), none, none]) (st' := [.int (((nI mk) >>> ((nI wh) &&& 31)) &&& nI 1)]) (σ' := σ) rfl ?_
            refine am_top (v' := nI (mk / 2 ^ wh % 2)) (by rw [nx_shr (by omega) (by omega), show nI 1 = nI (2 - 1) from rfl, nx_mask (k := 1) _ rfl]) ?_
            refine am_if (ty := 49) (tn := 46) rfl (by decide) rfl rfl (fun (h_5 : nI (mk / 2 ^ wh % 2) = 0) => ?_) (fun (h_5 : ¬ (nI (mk / 2 ^ wh % 2) = 0)) => ?_)
            · have h_5 : mk / 2 ^ wh % 2 = 0 := (am_n0 (by omega)).mp h_5
              omega
            have h_5 : ¬ (mk / 2 ^ wh % 2 = 0) := fun z => h_5 ((am_n0 (by omega)).mpr z)
            refine am_run 1 (pc' := 48) (ls' := [some (.ref 41), some (.int (nI 0)), some (.int (nI mk)), some (.int (nI wh)), some (.ref 73), none, none]) (st' := [.int (-1000002)]) (σ' := σ) rfl ?_
            refine am_reti rfl rfl ?_
            refine ⟨rfl, ?_⟩
            refine am_enter' (M := M_X10_soon) rfl rfl rfl (by omega) (ls := [some (.ref 0), some (.int (nI 0)), some (.int (nI mk)), some (.int (nI wh)), none, none, none, none, none, none]) rfl (fun d2 hd2 => ?_)
            refine am_run 2 (pc' := 2) (ls' := [some (.ref 0), some (.int (nI 0)), some (.int (nI mk)), some (.int (nI wh)), none, none, none, none, none, none]) (st' := [.int (nI 0), .ref 0]) (σ' := σ) rfl ?_
            refine am_invv (y := 151) (b := 0) (as := [.int (nI 0)]) (rest := []) rfl rfl rfl rfl rfl rfl rfl (Nat.le_of_ble_eq_true rfl) ?_
            refine c_prog0_1 (by omega) (n := n) (by exact hn2) hn1 hn60 ?_
            show am_G _ M_X10_soon _ 5 [some (.ref 0), some (.int (nI 0)), some (.int (nI mk)), some (.int (nI wh)), none, none, none, none, none, none] [.int (nI 1)] σ
            refine am_if (ty := 8) (tn := 11) rfl (by decide) rfl rfl (fun (h_101 : nI 1 = 0) => ?_) (fun (h_101 : ¬ (nI 1 = 0)) => ?_)
            · exact absurd h_101 (by decide)
            refine am_run 1 (pc' := 12) (ls' := [some (.ref 0), some (.int (nI 0)), some (.int (nI mk)), some (.int (nI wh)), none, none, none, none, none, none]) (st' := [.int (nI mk)]) (σ' := σ) rfl ?_
            refine am_invs (y := 240) (as := [.int (nI mk)]) (rest := []) rfl rfl rfl rfl rfl rfl (Nat.le_of_ble_eq_true rfl) ?_
            refine c_mask1_model (by omega) hmk hmv ?_
            show am_G _ M_X10_soon _ 15 [some (.ref 0), some (.int (nI 0)), some (.int (nI mk)), some (.int (nI wh)), none, none, none, none, none, none] [.int (nI 1)] σ
            refine am_if (ty := 42) (tn := 18) rfl (by decide) rfl rfl (fun (h_102 : nI 1 = 0) => ?_) (fun (h_102 : ¬ (nI 1 = 0)) => ?_)
            · exact absurd h_102 (by decide)
            refine am_run 3 (pc' := 22) (ls' := [some (.ref 0), some (.int (nI 0)), some (.int (nI mk)), some (.int (nI wh)), none, none, none, none, none, none]) (st' := [.int (nI 9), .int (nI 0), .int (nI wh)]) (σ' := σ) rfl ?_
            refine am_invs (y := 148) (as := [.int (nI wh), .int (nI 0), .int (nI 9)]) (rest := []) rfl rfl rfl rfl rfl rfl (Nat.le_of_ble_eq_true rfl) ?_
            refine c_in1 (by omega) (by omega) (by omega) (by omega) ?_
            show am_G _ M_X10_soon _ 25 [some (.ref 0), some (.int (nI 0)), some (.int (nI mk)), some (.int (nI wh)), none, none, none, none, none, none] [.int (nI 1)] σ
            refine am_if (ty := 42) (tn := 28) rfl (by decide) rfl rfl (fun (h_103 : nI 1 = 0) => ?_) (fun (h_103 : ¬ (nI 1 = 0)) => ?_)
            · exact absurd h_103 (by decide)
            refine am_run 2 (pc' := 31) (ls' := [some (.ref 0), some (.int (nI 0)), some (.int (nI mk)), some (.int (nI wh)), none, none, none, none, none, none]) (st' := [.int (nI 8), .int (nI wh)]) (σ' := σ) rfl ?_
            refine am_ic (ty := 34) (tn := 45) rfl (by decide) rfl rfl (fun (h_104 : nI wh < nI 8) => ?_) (fun (h_104 : ¬ (nI wh < nI 8)) => ?_)
            rotate_left
            · have h_104 : ¬ (wh < 8) := fun z => h_104 ((nI_ltI (by omega) (by omega)).mpr z)
              omega
            have h_104 : wh < 8 := (nI_ltI (by omega) (by omega)).mp h_104
            refine am_run 2 (pc' := 36) (ls' := [some (.ref 0), some (.int (nI 0)), some (.int (nI mk)), some (.int (nI wh)), none, none, none, none, none, none]) (st' := [.int (nI wh), .int (nI mk)]) (σ' := σ) rfl ?_
            refine am_invs (y := 149) (as := [.int (nI mk), .int (nI wh)]) (rest := []) rfl rfl rfl rfl rfl rfl (Nat.le_of_ble_eq_true rfl) ?_
            refine c_m_has (by omega) (a := mk) (s := wh) (by omega) (by omega) (fun _ => ?_) (fun z => absurd (hb.symm.trans z) (by decide))
            show am_G _ M_X10_soon _ 39 [some (.ref 0), some (.int (nI 0)), some (.int (nI mk)), some (.int (nI wh)), none, none, none, none, none, none] [.int (nI 1)] σ
            refine am_if (ty := 45) (tn := 42) rfl (by decide) rfl rfl (fun (h_105 : nI 1 = 0) => ?_) (fun (h_105 : ¬ (nI 1 = 0)) => ?_)
            · exact absurd h_105 (by decide)
            refine am_run 1 (pc' := 44) (ls' := [some (.ref 0), some (.int (nI 0)), some (.int (nI mk)), some (.int (nI wh)), none, none, none, none, none, none]) (st' := [.int (-1000002)]) (σ' := σ) rfl ?_
            refine am_reti rfl rfl ?_
            exact ⟨rfl, hI⟩
          · have hbv : mk / 2 ^ wh % 2 = 0 := by rw [bit_v, hb]; rfl
            refine ⟨so_out p (r + 1) mk wh 100 0 1 (up1 z0 0 s) z0, ?_⟩
            refine am_enter' (M := M_X9_soon) rfl rfl rfl (by omega) (ls := [some (.ref 41), some (.int (nI 0)), some (.int (nI mk)), some (.int (nI wh)), none, none, none]) rfl (fun d' hd' => ?_)
            refine am_run 2 (pc' := 2) (ls' := [some (.ref 41), some (.int (nI 0)), some (.int (nI mk)), some (.int (nI wh)), none, none, none]) (st' := [.int (nI 0), .ref 41]) (σ' := σ) rfl ?_
            refine am_invv (y := 140) (b := 41) (as := [.int (nI 0)]) (rest := []) rfl rfl rfl rfl rfl rfl rfl (Nat.le_of_ble_eq_true rfl) ?_
            refine c_filled0_1 (by omega) hf ?_
            show am_G _ M_X9_soon _ 5 [some (.ref 41), some (.int (nI 0)), some (.int (nI mk)), some (.int (nI wh)), none, none, none] [.ref 73] σ
            refine am_run 4 (pc' := 16) (ls' := [some (.ref 41), some (.int (nI 0)), some (.int (nI mk)), some (.int (nI wh)), some (.ref 73), none, none]) (st' := [.int (nI mk)]) (σ' := σ) rfl ?_
            refine am_invs (y := 142) (as := [.int (nI mk)]) (rest := []) rfl rfl rfl rfl rfl rfl (Nat.le_of_ble_eq_true rfl) ?_
            refine c_mask1_class (by omega) hmk hmv ?_
            show am_G _ M_X9_soon _ 19 [some (.ref 41), some (.int (nI 0)), some (.int (nI mk)), some (.int (nI wh)), some (.ref 73), none, none] [.int (nI 1)] σ
            refine am_if (ty := 46) (tn := 22) rfl (by decide) rfl rfl (fun (h_1 : nI 1 = 0) => ?_) (fun (h_1 : ¬ (nI 1 = 0)) => ?_)
            · exact absurd h_1 (by decide)
            refine am_run 1 (pc' := 23) (ls' := [some (.ref 41), some (.int (nI 0)), some (.int (nI mk)), some (.int (nI wh)), some (.ref 73), none, none]) (st' := [.int (nI wh)]) (σ' := σ) rfl ?_
            refine am_if (ty := 46) (tn := 26) rfl (by decide) rfl rfl (fun (h_2 : nI wh < 0) => ?_) (fun (h_2 : ¬ (nI wh < 0)) => ?_)
            · have h_2 : wh < 0 := (am_nlt0 (by omega)).mp h_2
              exact absurd h_2 (Nat.not_lt_zero _)
            have h_2 : ¬ (wh < 0) := fun z => h_2 ((am_nlt0 (by omega)).mpr z)
            refine am_run 2 (pc' := 29) (ls' := [some (.ref 41), some (.int (nI 0)), some (.int (nI mk)), some (.int (nI wh)), some (.ref 73), none, none]) (st' := [.int (nI 9), .int (nI wh)]) (σ' := σ) rfl ?_
            refine am_ic (ty := 46) (tn := 32) rfl (by decide) rfl rfl (fun (h_3 : nI 9 < nI wh) => ?_) (fun (h_3 : ¬ (nI 9 < nI wh)) => ?_)
            · have h_3 : 9 < wh := (nI_ltI (by omega) (by omega)).mp h_3
              omega
            have h_3 : ¬ (9 < wh) := fun z => h_3 ((nI_ltI (by omega) (by omega)).mpr z)
            refine am_run 2 (pc' := 35) (ls' := [some (.ref 41), some (.int (nI 0)), some (.int (nI mk)), some (.int (nI wh)), some (.ref 73), none, none]) (st' := [.int (nI 8), .int (nI wh)]) (σ' := σ) rfl ?_
            refine am_ic (ty := 38) (tn := 49) rfl (by decide) rfl rfl (fun (h_4 : nI wh < nI 8) => ?_) (fun (h_4 : ¬ (nI wh < nI 8)) => ?_)
            rotate_left
            · have h_4 : ¬ (wh < 8) := fun z => h_4 ((nI_ltI (by omega) (by omega)).mpr z)
              omega
            have h_4 : wh < 8 := (nI_ltI (by omega) (by omega)).mp h_4
            refine am_run 5 (pc' := 43) (ls' := [some (.ref 41), some (.int (nI 0)), some (.int (nI mk)), some (.int (nI wh)), some (.ref 73), none, none]) (st' := [.int (((nI mk) >>> ((nI wh) &&& 31)) &&& nI 1)]) (σ' := σ) rfl ?_
            refine am_top (v' := nI (mk / 2 ^ wh % 2)) (by rw [nx_shr (by omega) (by omega), show nI 1 = nI (2 - 1) from rfl, nx_mask (k := 1) _ rfl]) ?_
            refine am_if (ty := 49) (tn := 46) rfl (by decide) rfl rfl (fun (h_5 : nI (mk / 2 ^ wh % 2) = 0) => ?_) (fun (h_5 : ¬ (nI (mk / 2 ^ wh % 2) = 0)) => ?_)
            rotate_left
            · have h_5 : ¬ (mk / 2 ^ wh % 2 = 0) := fun z => h_5 ((am_n0 (by omega)).mpr z)
              omega
            have h_5 : mk / 2 ^ wh % 2 = 0 := (am_n0 (by omega)).mp h_5
            refine am_run 4 (pc' := 57) (ls' := [some (.ref 41), some (.int (nI 0)), some (.int (nI mk)), some (.int (nI wh)), some (.ref 73), none, none]) (st' := [.ref 73, .int (nI 100), .ref 79]) (σ' := σ) rfl ?_
            refine am_invv (y := 67) (b := 73) (as := []) (rest := [.int (nI 100), .ref 79]) rfl rfl rfl rfl rfl rfl rfl (Nat.le_of_ble_eq_true rfl) ?_
            refine am_enter' rfl rfl rfl (by omega) (ls := [some (.ref 73)]) rfl (fun d_6 hd_6 => ?_)
            refine am_run 2 (pc' := 4) (ls' := [some (.ref 73)]) (st' := [.int (σ.1 73 3)]) (σ' := σ) rfl ?_
            refine am_top (v' := nI s) a3 ?_
            refine am_reti rfl rfl ?_
            show am_G _ M_X9_soon _ 60 [some (.ref 41), some (.int (nI 0)), some (.int (nI mk)), some (.int (nI wh)), some (.ref 73), none, none] [.int (nI s), .int (nI 100), .ref 79] σ
            refine am_run 1 (pc' := 61) (ls' := [some (.ref 41), some (.int (nI 0)), some (.int (nI mk)), some (.int (nI wh)), some (.ref 73), none, none]) (st' := [.int (nI 0), .int (nI s), .int (nI 100), .ref 79]) (σ' := σ) rfl ?_
            refine am_invv (y := 73) (b := 79) (as := [.int (nI 100), .int (nI s), .int (nI 0)]) (rest := []) rfl rfl rfl rfl rfl rfl rfl (Nat.le_of_ble_eq_true rfl) ?_
            refine c_rbegin (by omega) (lim := 100) (by decide) hs (b := 0) (by decide) (fun σ1 g1 g2 hT1 => ?_)
            rw [up1_z] at hT1
            show am_G _ M_X9_soon _ 64 [some (.ref 41), some (.int (nI 0)), some (.int (nI mk)), some (.int (nI wh)), some (.ref 73), none, none] [] σ1
            refine am_run 2 (pc' := 67) (ls' := [some (.ref 41), some (.int (nI 0)), some (.int (nI mk)), some (.int (nI wh)), some (.ref 73), some (.int (nI 0)), none]) (st' := []) (σ' := σ1) rfl ?_
            have hVA1 : VA p r 1 (up1 z0 0 s) := fun k hk => by rw [show k = 0 by omega, up1_s]; exact hv
            have hVo := fun s u (hu : u < 256) => oc_vs hM s hu
            refine c_soon_out0 (by omega) hW hR hrn hro hmk hmv hwh hVo 100 0 _ 1 _ _ _ rfl ((KX.rf σ).by g1 g2) hT1 hVA1 (fun σ5 hK5 => ⟨rfl, ?_⟩)
            have hM5 := hM.keep2 (σ' := σ5) (fun c a => hK5.1 c (by omega))
            have hn25 := hM5.1.2.2.2.1
            have b35 : σ5.1 17 0 = nI s := by rw [hK5.1 17 (by decide)]; exact b3
            refine am_enter' (M := M_X10_soon) rfl rfl rfl (by omega) (ls := [some (.ref 0), some (.int (nI 0)), some (.int (nI mk)), some (.int (nI wh)), none, none, none, none, none, none]) rfl (fun d2 hd2 => ?_)
            refine am_run 2 (pc' := 2) (ls' := [some (.ref 0), some (.int (nI 0)), some (.int (nI mk)), some (.int (nI wh)), none, none, none, none, none, none]) (st' := [.int (nI 0), .ref 0]) (σ' := σ5) rfl ?_
            refine am_invv (y := 151) (b := 0) (as := [.int (nI 0)]) (rest := []) rfl rfl rfl rfl rfl rfl rfl (Nat.le_of_ble_eq_true rfl) ?_
            refine c_prog0_1 (by omega) (n := n) (by exact hn25) hn1 hn60 ?_
            show am_G _ M_X10_soon _ 5 [some (.ref 0), some (.int (nI 0)), some (.int (nI mk)), some (.int (nI wh)), none, none, none, none, none, none] [.int (nI 1)] σ5
            refine am_if (ty := 8) (tn := 11) rfl (by decide) rfl rfl (fun (h_101 : nI 1 = 0) => ?_) (fun (h_101 : ¬ (nI 1 = 0)) => ?_)
            · exact absurd h_101 (by decide)
            refine am_run 1 (pc' := 12) (ls' := [some (.ref 0), some (.int (nI 0)), some (.int (nI mk)), some (.int (nI wh)), none, none, none, none, none, none]) (st' := [.int (nI mk)]) (σ' := σ5) rfl ?_
            refine am_invs (y := 240) (as := [.int (nI mk)]) (rest := []) rfl rfl rfl rfl rfl rfl (Nat.le_of_ble_eq_true rfl) ?_
            refine c_mask1_model (by omega) hmk hmv ?_
            show am_G _ M_X10_soon _ 15 [some (.ref 0), some (.int (nI 0)), some (.int (nI mk)), some (.int (nI wh)), none, none, none, none, none, none] [.int (nI 1)] σ5
            refine am_if (ty := 42) (tn := 18) rfl (by decide) rfl rfl (fun (h_102 : nI 1 = 0) => ?_) (fun (h_102 : ¬ (nI 1 = 0)) => ?_)
            · exact absurd h_102 (by decide)
            refine am_run 3 (pc' := 22) (ls' := [some (.ref 0), some (.int (nI 0)), some (.int (nI mk)), some (.int (nI wh)), none, none, none, none, none, none]) (st' := [.int (nI 9), .int (nI 0), .int (nI wh)]) (σ' := σ5) rfl ?_
            refine am_invs (y := 148) (as := [.int (nI wh), .int (nI 0), .int (nI 9)]) (rest := []) rfl rfl rfl rfl rfl rfl (Nat.le_of_ble_eq_true rfl) ?_
            refine c_in1 (by omega) (by omega) (by omega) (by omega) ?_
            show am_G _ M_X10_soon _ 25 [some (.ref 0), some (.int (nI 0)), some (.int (nI mk)), some (.int (nI wh)), none, none, none, none, none, none] [.int (nI 1)] σ5
            refine am_if (ty := 42) (tn := 28) rfl (by decide) rfl rfl (fun (h_103 : nI 1 = 0) => ?_) (fun (h_103 : ¬ (nI 1 = 0)) => ?_)
            · exact absurd h_103 (by decide)
            refine am_run 2 (pc' := 31) (ls' := [some (.ref 0), some (.int (nI 0)), some (.int (nI mk)), some (.int (nI wh)), none, none, none, none, none, none]) (st' := [.int (nI 8), .int (nI wh)]) (σ' := σ5) rfl ?_
            refine am_ic (ty := 34) (tn := 45) rfl (by decide) rfl rfl (fun (h_104 : nI wh < nI 8) => ?_) (fun (h_104 : ¬ (nI wh < nI 8)) => ?_)
            rotate_left
            · have h_104 : ¬ (wh < 8) := fun z => h_104 ((nI_ltI (by omega) (by omega)).mpr z)
              omega
            have h_104 : wh < 8 := (nI_ltI (by omega) (by omega)).mp h_104
            refine am_run 2 (pc' := 36) (ls' := [some (.ref 0), some (.int (nI 0)), some (.int (nI mk)), some (.int (nI wh)), none, none, none, none, none, none]) (st' := [.int (nI wh), .int (nI mk)]) (σ' := σ5) rfl ?_
            refine am_invs (y := 149) (as := [.int (nI mk), .int (nI wh)]) (rest := []) rfl rfl rfl rfl rfl rfl (Nat.le_of_ble_eq_true rfl) ?_
            refine c_m_has (by omega) (a := mk) (s := wh) (by omega) (by omega) (fun z => absurd (hb.symm.trans z) (by decide)) (fun _ => ?_)
            show am_G _ M_X10_soon _ 39 [some (.ref 0), some (.int (nI 0)), some (.int (nI mk)), some (.int (nI wh)), none, none, none, none, none, none] [.int (nI 0)] σ5
            refine am_if (ty := 45) (tn := 42) rfl (by decide) rfl rfl (fun (h_105 : nI 0 = 0) => ?_) (fun (h_105 : ¬ (nI 0 = 0)) => ?_)
            rotate_left
            · exact absurd (by decide) h_105
            refine am_run 2 (pc' := 47) (ls' := [some (.ref 0), some (.int (nI 0)), some (.int (nI mk)), some (.int (nI wh)), none, none, none, none, none, none]) (st' := [.int (nI mk), .int (nI 1)]) (σ' := σ5) rfl ?_
            refine am_invs (y := 150) (as := [.int (nI mk)]) (rest := [.int (nI 1)]) rfl rfl rfl rfl rfl rfl (Nat.le_of_ble_eq_true rfl) ?_
            refine c_ones (by omega) (by omega) ?_
            show am_G _ M_X10_soon _ 50 [some (.ref 0), some (.int (nI 0)), some (.int (nI mk)), some (.int (nI wh)), none, none, none, none, none, none] [.int (nI (pcn mk 21)), .int (nI 1)] σ5
            refine am_run 1 (pc' := 51) (ls' := [some (.ref 0), some (.int (nI 0)), some (.int (nI mk)), some (.int (nI wh)), none, none, none, none, none, none]) (st' := [.int ((nI 1) <<< ((nI (pcn mk 21)) &&& 31))]) (σ' := σ5) rfl ?_
            refine am_top (v' := nI (2 ^ pcn mk 21)) (by rw [nx_shl _ (by omega), Nat.one_mul]) ?_
            refine am_run 8 (pc' := 64) (ls' := [some (.ref 0), some (.int (nI 0)), some (.int (nI mk)), some (.int (nI wh)), some (.int (nI (2 ^ pcn mk 21))), none, none, none, none, none]) (st' := [.int (nI 0), .ref 17, .ref 0]) (σ' := (am_wr σ5 0 49 (nI 0))) rfl ?_
            refine am_ialdN (n := 2) (v := nI s) rfl rfl rfl (by omega) b35 (by decide) ?_
            refine am_run 1 (pc' := 66) (ls' := [some (.ref 0), some (.int (nI 0)), some (.int (nI mk)), some (.int (nI wh)), some (.int (nI (2 ^ pcn mk 21))), none, none, none, none, none]) (st' := [.int (nI 0), .int (nI s), .ref 0]) (σ' := (am_wr σ5 0 49 (nI 0))) rfl ?_
            refine am_invv (y := 242) (b := 0) (as := [.int (nI s), .int (nI 0)]) (rest := []) rfl rfl rfl rfl rfl rfl rfl (Nat.le_of_ble_eq_true rfl) ?_
            have hT6 : TM (am_wr σ5 0 49 (nI 0)) 0 z0 z0 := ⟨by decide, rfl, fun k z => absurd z (Nat.not_lt_zero _)⟩
            refine c_numberOf (by omega) hT6 hs (fun z => absurd z (Nat.not_lt_zero _)) (fun _ => ?_)
            have hT7 := hT6.add (by decide) hs (Nat.le_refl 0)
            rw [up1_z] at hT7
            show am_G _ M_X10_soon _ 69 [some (.ref 0), some (.int (nI 0)), some (.int (nI mk)), some (.int (nI wh)), some (.int (nI (2 ^ pcn mk 21))), none, none, none, none, none] [.int (nI 0)] (am_wr (am_wr (am_wr (am_wr σ5 0 49 (nI 0)) 32 0 (nI s)) 33 0 (nI 0)) 0 49 (nI (0 + 1)))
            refine am_run 3 (pc' := 75) (ls' := [some (.ref 0), some (.int (nI 0)), some (.int (nI mk)), some (.int (nI wh)), some (.int (nI (2 ^ pcn mk 21))), some (.int (nI 0)), some (.int (nI 0)), none, none, none]) (st' := []) (σ' := (am_wr (am_wr (am_wr (am_wr σ5 0 49 (nI 0)) 32 0 (nI s)) 33 0 (nI 0)) 0 49 (nI (0 + 1)))) rfl ?_
            exact c_msoon_out (by omega) hM5 hmk hmv hwh 100 0 _ 1 (up1 z0 0 s) z0 _ _ _ rfl (((((KY.rf σ5).w0 (by decide) _).wr (by decide) _ _).wr (by decide) _ _).w0 (by decide) _) hT7 hVA1 (fun σ7 hK7 => ⟨rfl, (hK5.KI.tr hK7.KI).inv hI⟩)
        · skip
          refine ⟨so_out p (r + 1) mk wh 100 0 1 (up1 z0 0 s) z0, ?_⟩
          refine am_enter' (M := M_X9_soon) rfl rfl rfl (by omega) (ls := [some (.ref 41), some (.int (nI 0)), some (.int (nI mk)), some (.int (nI wh)), none, none, none]) rfl (fun d' hd' => ?_)
          refine am_run 2 (pc' := 2) (ls' := [some (.ref 41), some (.int (nI 0)), some (.int (nI mk)), some (.int (nI wh)), none, none, none]) (st' := [.int (nI 0), .ref 41]) (σ' := σ) rfl ?_
          refine am_invv (y := 140) (b := 41) (as := [.int (nI 0)]) (rest := []) rfl rfl rfl rfl rfl rfl rfl (Nat.le_of_ble_eq_true rfl) ?_
          refine c_filled0_1 (by omega) hf ?_
          show am_G _ M_X9_soon _ 5 [some (.ref 41), some (.int (nI 0)), some (.int (nI mk)), some (.int (nI wh)), none, none, none] [.ref 73] σ
          refine am_run 4 (pc' := 16) (ls' := [some (.ref 41), some (.int (nI 0)), some (.int (nI mk)), some (.int (nI wh)), some (.ref 73), none, none]) (st' := [.int (nI mk)]) (σ' := σ) rfl ?_
          refine am_invs (y := 142) (as := [.int (nI mk)]) (rest := []) rfl rfl rfl rfl rfl rfl (Nat.le_of_ble_eq_true rfl) ?_
          refine c_mask1_class (by omega) hmk hmv ?_
          show am_G _ M_X9_soon _ 19 [some (.ref 41), some (.int (nI 0)), some (.int (nI mk)), some (.int (nI wh)), some (.ref 73), none, none] [.int (nI 1)] σ
          refine am_if (ty := 46) (tn := 22) rfl (by decide) rfl rfl (fun (h_1 : nI 1 = 0) => ?_) (fun (h_1 : ¬ (nI 1 = 0)) => ?_)
          · exact absurd h_1 (by decide)
          refine am_run 1 (pc' := 23) (ls' := [some (.ref 41), some (.int (nI 0)), some (.int (nI mk)), some (.int (nI wh)), some (.ref 73), none, none]) (st' := [.int (nI wh)]) (σ' := σ) rfl ?_
          refine am_if (ty := 46) (tn := 26) rfl (by decide) rfl rfl (fun (h_2 : nI wh < 0) => ?_) (fun (h_2 : ¬ (nI wh < 0)) => ?_)
          · have h_2 : wh < 0 := (am_nlt0 (by omega)).mp h_2
            exact absurd h_2 (Nat.not_lt_zero _)
          have h_2 : ¬ (wh < 0) := fun z => h_2 ((am_nlt0 (by omega)).mpr z)
          refine am_run 2 (pc' := 29) (ls' := [some (.ref 41), some (.int (nI 0)), some (.int (nI mk)), some (.int (nI wh)), some (.ref 73), none, none]) (st' := [.int (nI 9), .int (nI wh)]) (σ' := σ) rfl ?_
          refine am_ic (ty := 46) (tn := 32) rfl (by decide) rfl rfl (fun (h_3 : nI 9 < nI wh) => ?_) (fun (h_3 : ¬ (nI 9 < nI wh)) => ?_)
          · have h_3 : 9 < wh := (nI_ltI (by omega) (by omega)).mp h_3
            omega
          have h_3 : ¬ (9 < wh) := fun z => h_3 ((nI_ltI (by omega) (by omega)).mpr z)
          refine am_run 2 (pc' := 35) (ls' := [some (.ref 41), some (.int (nI 0)), some (.int (nI mk)), some (.int (nI wh)), some (.ref 73), none, none]) (st' := [.int (nI 8), .int (nI wh)]) (σ' := σ) rfl ?_
          refine am_ic (ty := 38) (tn := 49) rfl (by decide) rfl rfl (fun (h_4 : nI wh < nI 8) => ?_) (fun (h_4 : ¬ (nI wh < nI 8)) => ?_)
          · have h_4 : wh < 8 := (nI_ltI (by omega) (by omega)).mp h_4
            omega
          have h_4 : ¬ (wh < 8) := fun z => h_4 ((nI_ltI (by omega) (by omega)).mpr z)
          refine am_run 4 (pc' := 57) (ls' := [some (.ref 41), some (.int (nI 0)), some (.int (nI mk)), some (.int (nI wh)), some (.ref 73), none, none]) (st' := [.ref 73, .int (nI 100), .ref 79]) (σ' := σ) rfl ?_
          refine am_invv (y := 67) (b := 73) (as := []) (rest := [.int (nI 100), .ref 79]) rfl rfl rfl rfl rfl rfl rfl (Nat.le_of_ble_eq_true rfl) ?_
          refine am_enter' rfl rfl rfl (by omega) (ls := [some (.ref 73)]) rfl (fun d_5 hd_5 => ?_)
          refine am_run 2 (pc' := 4) (ls' := [some (.ref 73)]) (st' := [.int (σ.1 73 3)]) (σ' := σ) rfl ?_
          refine am_top (v' := nI s) a3 ?_
          refine am_reti rfl rfl ?_
          show am_G _ M_X9_soon _ 60 [some (.ref 41), some (.int (nI 0)), some (.int (nI mk)), some (.int (nI wh)), some (.ref 73), none, none] [.int (nI s), .int (nI 100), .ref 79] σ
          refine am_run 1 (pc' := 61) (ls' := [some (.ref 41), some (.int (nI 0)), some (.int (nI mk)), some (.int (nI wh)), some (.ref 73), none, none]) (st' := [.int (nI 0), .int (nI s), .int (nI 100), .ref 79]) (σ' := σ) rfl ?_
          refine am_invv (y := 73) (b := 79) (as := [.int (nI 100), .int (nI s), .int (nI 0)]) (rest := []) rfl rfl rfl rfl rfl rfl rfl (Nat.le_of_ble_eq_true rfl) ?_
          refine c_rbegin (by omega) (lim := 100) (by decide) hs (b := 0) (by decide) (fun σ1 g1 g2 hT1 => ?_)
          rw [up1_z] at hT1
          show am_G _ M_X9_soon _ 64 [some (.ref 41), some (.int (nI 0)), some (.int (nI mk)), some (.int (nI wh)), some (.ref 73), none, none] [] σ1
          refine am_run 2 (pc' := 67) (ls' := [some (.ref 41), some (.int (nI 0)), some (.int (nI mk)), some (.int (nI wh)), some (.ref 73), some (.int (nI 0)), none]) (st' := []) (σ' := σ1) rfl ?_
          have hVA1 : VA p r 1 (up1 z0 0 s) := fun k hk => by rw [show k = 0 by omega, up1_s]; exact hv
          have hVo := fun s u (hu : u < 256) => oc_vs hM s hu
          refine c_soon_out0 (by omega) hW hR hrn hro hmk hmv hwh hVo 100 0 _ 1 _ _ _ rfl ((KX.rf σ).by g1 g2) hT1 hVA1 (fun σ5 hK5 => ⟨rfl, ?_⟩)
          have hM5 := hM.keep2 (σ' := σ5) (fun c a => hK5.1 c (by omega))
          have hn25 := hM5.1.2.2.2.1
          have b35 : σ5.1 17 0 = nI s := by rw [hK5.1 17 (by decide)]; exact b3
          refine am_enter' (M := M_X10_soon) rfl rfl rfl (by omega) (ls := [some (.ref 0), some (.int (nI 0)), some (.int (nI mk)), some (.int (nI wh)), none, none, none, none, none, none]) rfl (fun d2 hd2 => ?_)
          refine am_run 2 (pc' := 2) (ls' := [some (.ref 0), some (.int (nI 0)), some (.int (nI mk)), some (.int (nI wh)), none, none, none, none, none, none]) (st' := [.int (nI 0), .ref 0]) (σ' := σ5) rfl ?_
          refine am_invv (y := 151) (b := 0) (as := [.int (nI 0)]) (rest := []) rfl rfl rfl rfl rfl rfl rfl (Nat.le_of_ble_eq_true rfl) ?_
          refine c_prog0_1 (by omega) (n := n) (by exact hn25) hn1 hn60 ?_
          show am_G _ M_X10_soon _ 5 [some (.ref 0), some (.int (nI 0)), some (.int (nI mk)), some (.int (nI wh)), none, none, none, none, none, none] [.int (nI 1)] σ5
          refine am_if (ty := 8) (tn := 11) rfl (by decide) rfl rfl (fun (h_101 : nI 1 = 0) => ?_) (fun (h_101 : ¬ (nI 1 = 0)) => ?_)
          · exact absurd h_101 (by decide)
          refine am_run 1 (pc' := 12) (ls' := [some (.ref 0), some (.int (nI 0)), some (.int (nI mk)), some (.int (nI wh)), none, none, none, none, none, none]) (st' := [.int (nI mk)]) (σ' := σ5) rfl ?_
          refine am_invs (y := 240) (as := [.int (nI mk)]) (rest := []) rfl rfl rfl rfl rfl rfl (Nat.le_of_ble_eq_true rfl) ?_
          refine c_mask1_model (by omega) hmk hmv ?_
          show am_G _ M_X10_soon _ 15 [some (.ref 0), some (.int (nI 0)), some (.int (nI mk)), some (.int (nI wh)), none, none, none, none, none, none] [.int (nI 1)] σ5
          refine am_if (ty := 42) (tn := 18) rfl (by decide) rfl rfl (fun (h_102 : nI 1 = 0) => ?_) (fun (h_102 : ¬ (nI 1 = 0)) => ?_)
          · exact absurd h_102 (by decide)
          refine am_run 3 (pc' := 22) (ls' := [some (.ref 0), some (.int (nI 0)), some (.int (nI mk)), some (.int (nI wh)), none, none, none, none, none, none]) (st' := [.int (nI 9), .int (nI 0), .int (nI wh)]) (σ' := σ5) rfl ?_
          refine am_invs (y := 148) (as := [.int (nI wh), .int (nI 0), .int (nI 9)]) (rest := []) rfl rfl rfl rfl rfl rfl (Nat.le_of_ble_eq_true rfl) ?_
          refine c_in1 (by omega) (by omega) (by omega) (by omega) ?_
          show am_G _ M_X10_soon _ 25 [some (.ref 0), some (.int (nI 0)), some (.int (nI mk)), some (.int (nI wh)), none, none, none, none, none, none] [.int (nI 1)] σ5
          refine am_if (ty := 42) (tn := 28) rfl (by decide) rfl rfl (fun (h_103 : nI 1 = 0) => ?_) (fun (h_103 : ¬ (nI 1 = 0)) => ?_)
          · exact absurd h_103 (by decide)
          refine am_run 2 (pc' := 31) (ls' := [some (.ref 0), some (.int (nI 0)), some (.int (nI mk)), some (.int (nI wh)), none, none, none, none, none, none]) (st' := [.int (nI 8), .int (nI wh)]) (σ' := σ5) rfl ?_
          refine am_ic (ty := 34) (tn := 45) rfl (by decide) rfl rfl (fun (h_104 : nI wh < nI 8) => ?_) (fun (h_104 : ¬ (nI wh < nI 8)) => ?_)
          · have h_104 : wh < 8 := (nI_ltI (by omega) (by omega)).mp h_104
            omega
          have h_104 : ¬ (wh < 8) := fun z => h_104 ((nI_ltI (by omega) (by omega)).mpr z)
          refine am_run 2 (pc' := 47) (ls' := [some (.ref 0), some (.int (nI 0)), some (.int (nI mk)), some (.int (nI wh)), none, none, none, none, none, none]) (st' := [.int (nI mk), .int (nI 1)]) (σ' := σ5) rfl ?_
          refine am_invs (y := 150) (as := [.int (nI mk)]) (rest := [.int (nI 1)]) rfl rfl rfl rfl rfl rfl (Nat.le_of_ble_eq_true rfl) ?_
          refine c_ones (by omega) (by omega) ?_
          show am_G _ M_X10_soon _ 50 [some (.ref 0), some (.int (nI 0)), some (.int (nI mk)), some (.int (nI wh)), none, none, none, none, none, none] [.int (nI (pcn mk 21)), .int (nI 1)] σ5
          refine am_run 1 (pc' := 51) (ls' := [some (.ref 0), some (.int (nI 0)), some (.int (nI mk)), some (.int (nI wh)), none, none, none, none, none, none]) (st' := [.int ((nI 1) <<< ((nI (pcn mk 21)) &&& 31))]) (σ' := σ5) rfl ?_
          refine am_top (v' := nI (2 ^ pcn mk 21)) (by rw [nx_shl _ (by omega), Nat.one_mul]) ?_
          refine am_run 8 (pc' := 64) (ls' := [some (.ref 0), some (.int (nI 0)), some (.int (nI mk)), some (.int (nI wh)), some (.int (nI (2 ^ pcn mk 21))), none, none, none, none, none]) (st' := [.int (nI 0), .ref 17, .ref 0]) (σ' := (am_wr σ5 0 49 (nI 0))) rfl ?_
          refine am_ialdN (n := 2) (v := nI s) rfl rfl rfl (by omega) b35 (by decide) ?_
          refine am_run 1 (pc' := 66) (ls' := [some (.ref 0), some (.int (nI 0)), some (.int (nI mk)), some (.int (nI wh)), some (.int (nI (2 ^ pcn mk 21))), none, none, none, none, none]) (st' := [.int (nI 0), .int (nI s), .ref 0]) (σ' := (am_wr σ5 0 49 (nI 0))) rfl ?_
          refine am_invv (y := 242) (b := 0) (as := [.int (nI s), .int (nI 0)]) (rest := []) rfl rfl rfl rfl rfl rfl rfl (Nat.le_of_ble_eq_true rfl) ?_
          have hT6 : TM (am_wr σ5 0 49 (nI 0)) 0 z0 z0 := ⟨by decide, rfl, fun k z => absurd z (Nat.not_lt_zero _)⟩
          refine c_numberOf (by omega) hT6 hs (fun z => absurd z (Nat.not_lt_zero _)) (fun _ => ?_)
          have hT7 := hT6.add (by decide) hs (Nat.le_refl 0)
          rw [up1_z] at hT7
          show am_G _ M_X10_soon _ 69 [some (.ref 0), some (.int (nI 0)), some (.int (nI mk)), some (.int (nI wh)), some (.int (nI (2 ^ pcn mk 21))), none, none, none, none, none] [.int (nI 0)] (am_wr (am_wr (am_wr (am_wr σ5 0 49 (nI 0)) 32 0 (nI s)) 33 0 (nI 0)) 0 49 (nI (0 + 1)))
          refine am_run 3 (pc' := 75) (ls' := [some (.ref 0), some (.int (nI 0)), some (.int (nI mk)), some (.int (nI wh)), some (.int (nI (2 ^ pcn mk 21))), some (.int (nI 0)), some (.int (nI 0)), none, none, none]) (st' := []) (σ' := (am_wr (am_wr (am_wr (am_wr σ5 0 49 (nI 0)) 32 0 (nI s)) 33 0 (nI 0)) 0 49 (nI (0 + 1)))) rfl ?_
          exact c_msoon_out (by omega) hM5 hmk hmv hwh 100 0 _ 1 (up1 z0 0 s) z0 _ _ _ rfl (((((KY.rf σ5).w0 (by decide) _).wr (by decide) _ _).wr (by decide) _ _).w0 (by decide) _) hT7 hVA1 (fun σ7 hK7 => ⟨rfl, (hK5.KI.tr hK7.KI).inv hI⟩)
      · rcases id hz with hzn | ⟨hz0, hzb⟩
        · skip
          refine ⟨-1000002, ?_⟩
          refine am_enter' (M := M_X9_soon) rfl rfl rfl (by omega) (ls := [some (.ref 41), some (.int (nI 0)), some (.int (nI mk)), some (.int z), none, none, none]) rfl (fun d' hd' => ?_)
          refine am_run 2 (pc' := 2) (ls' := [some (.ref 41), some (.int (nI 0)), some (.int (nI mk)), some (.int z), none, none, none]) (st' := [.int (nI 0), .ref 41]) (σ' := σ) rfl ?_
          refine am_invv (y := 140) (b := 41) (as := [.int (nI 0)]) (rest := []) rfl rfl rfl rfl rfl rfl rfl (Nat.le_of_ble_eq_true rfl) ?_
          refine c_filled0_1 (by omega) hf ?_
          show am_G _ M_X9_soon _ 5 [some (.ref 41), some (.int (nI 0)), some (.int (nI mk)), some (.int z), none, none, none] [.ref 73] σ
          refine am_run 4 (pc' := 16) (ls' := [some (.ref 41), some (.int (nI 0)), some (.int (nI mk)), some (.int z), some (.ref 73), none, none]) (st' := [.int (nI mk)]) (σ' := σ) rfl ?_
          refine am_invs (y := 142) (as := [.int (nI mk)]) (rest := []) rfl rfl rfl rfl rfl rfl (Nat.le_of_ble_eq_true rfl) ?_
          refine c_mask1_class (by omega) hmk hmv ?_
          show am_G _ M_X9_soon _ 19 [some (.ref 41), some (.int (nI 0)), some (.int (nI mk)), some (.int z), some (.ref 73), none, none] [.int (nI 1)] σ
          refine am_if (ty := 46) (tn := 22) rfl (by decide) rfl rfl (fun (h_1 : nI 1 = 0) => ?_) (fun (h_1 : ¬ (nI 1 = 0)) => ?_)
          · exact absurd h_1 (by decide)
          refine am_run 1 (pc' := 23) (ls' := [some (.ref 41), some (.int (nI 0)), some (.int (nI mk)), some (.int z), some (.ref 73), none, none]) (st' := [.int z]) (σ' := σ) rfl ?_
          refine am_if (ty := 46) (tn := 26) rfl (by decide) rfl rfl (fun (h_2 : z < 0) => ?_) (fun (h_2 : ¬ (z < 0)) => ?_)
          rotate_left
          · exact absurd hzn h_2
          refine am_run 1 (pc' := 48) (ls' := [some (.ref 41), some (.int (nI 0)), some (.int (nI mk)), some (.int z), some (.ref 73), none, none]) (st' := [.int (-1000002)]) (σ' := σ) rfl ?_
          refine am_reti rfl rfl ?_
          refine ⟨rfl, ?_⟩
          refine am_enter' (M := M_X10_soon) rfl rfl rfl (by omega) (ls := [some (.ref 0), some (.int (nI 0)), some (.int (nI mk)), some (.int z), none, none, none, none, none, none]) rfl (fun d2 hd2 => ?_)
          refine am_run 2 (pc' := 2) (ls' := [some (.ref 0), some (.int (nI 0)), some (.int (nI mk)), some (.int z), none, none, none, none, none, none]) (st' := [.int (nI 0), .ref 0]) (σ' := σ) rfl ?_
          refine am_invv (y := 151) (b := 0) (as := [.int (nI 0)]) (rest := []) rfl rfl rfl rfl rfl rfl rfl (Nat.le_of_ble_eq_true rfl) ?_
          refine c_prog0_1 (by omega) (n := n) (by exact hn2) hn1 hn60 ?_
          show am_G _ M_X10_soon _ 5 [some (.ref 0), some (.int (nI 0)), some (.int (nI mk)), some (.int z), none, none, none, none, none, none] [.int (nI 1)] σ
          refine am_if (ty := 8) (tn := 11) rfl (by decide) rfl rfl (fun (h_101 : nI 1 = 0) => ?_) (fun (h_101 : ¬ (nI 1 = 0)) => ?_)
          · exact absurd h_101 (by decide)
          refine am_run 1 (pc' := 12) (ls' := [some (.ref 0), some (.int (nI 0)), some (.int (nI mk)), some (.int z), none, none, none, none, none, none]) (st' := [.int (nI mk)]) (σ' := σ) rfl ?_
          refine am_invs (y := 240) (as := [.int (nI mk)]) (rest := []) rfl rfl rfl rfl rfl rfl (Nat.le_of_ble_eq_true rfl) ?_
          refine c_mask1_model (by omega) hmk hmv ?_
          show am_G _ M_X10_soon _ 15 [some (.ref 0), some (.int (nI 0)), some (.int (nI mk)), some (.int z), none, none, none, none, none, none] [.int (nI 1)] σ
          refine am_if (ty := 42) (tn := 18) rfl (by decide) rfl rfl (fun (h_102 : nI 1 = 0) => ?_) (fun (h_102 : ¬ (nI 1 = 0)) => ?_)
          · exact absurd h_102 (by decide)
          refine am_run 3 (pc' := 22) (ls' := [some (.ref 0), some (.int (nI 0)), some (.int (nI mk)), some (.int z), none, none, none, none, none, none]) (st' := [.int (nI 9), .int (nI 0), .int z]) (σ' := σ) rfl ?_
          refine am_invs (y := 148) (as := [.int z, .int (nI 0), .int (nI 9)]) (rest := []) rfl rfl rfl rfl rfl rfl (Nat.le_of_ble_eq_true rfl) ?_
          refine c_in0 (by omega) hz ?_
          show am_G _ M_X10_soon _ 25 [some (.ref 0), some (.int (nI 0)), some (.int (nI mk)), some (.int z), none, none, none, none, none, none] [.int (nI 0)] σ
          refine am_if (ty := 42) (tn := 28) rfl (by decide) rfl rfl (fun (h_103 : nI 0 = 0) => ?_) (fun (h_103 : ¬ (nI 0 = 0)) => ?_)
          rotate_left
          · exact absurd (by decide) h_103
          refine am_run 1 (pc' := 44) (ls' := [some (.ref 0), some (.int (nI 0)), some (.int (nI mk)), some (.int z), none, none, none, none, none, none]) (st' := [.int (-1000002)]) (σ' := σ) rfl ?_
          refine am_reti rfl rfl ?_
          exact ⟨rfl, hI⟩
        · skip
          refine ⟨-1000002, ?_⟩
          refine am_enter' (M := M_X9_soon) rfl rfl rfl (by omega) (ls := [some (.ref 41), some (.int (nI 0)), some (.int (nI mk)), some (.int z), none, none, none]) rfl (fun d' hd' => ?_)
          refine am_run 2 (pc' := 2) (ls' := [some (.ref 41), some (.int (nI 0)), some (.int (nI mk)), some (.int z), none, none, none]) (st' := [.int (nI 0), .ref 41]) (σ' := σ) rfl ?_
          refine am_invv (y := 140) (b := 41) (as := [.int (nI 0)]) (rest := []) rfl rfl rfl rfl rfl rfl rfl (Nat.le_of_ble_eq_true rfl) ?_
          refine c_filled0_1 (by omega) hf ?_
          show am_G _ M_X9_soon _ 5 [some (.ref 41), some (.int (nI 0)), some (.int (nI mk)), some (.int z), none, none, none] [.ref 73] σ
          refine am_run 4 (pc' := 16) (ls' := [some (.ref 41), some (.int (nI 0)), some (.int (nI mk)), some (.int z), some (.ref 73), none, none]) (st' := [.int (nI mk)]) (σ' := σ) rfl ?_
          refine am_invs (y := 142) (as := [.int (nI mk)]) (rest := []) rfl rfl rfl rfl rfl rfl (Nat.le_of_ble_eq_true rfl) ?_
          refine c_mask1_class (by omega) hmk hmv ?_
          show am_G _ M_X9_soon _ 19 [some (.ref 41), some (.int (nI 0)), some (.int (nI mk)), some (.int z), some (.ref 73), none, none] [.int (nI 1)] σ
          refine am_if (ty := 46) (tn := 22) rfl (by decide) rfl rfl (fun (h_1 : nI 1 = 0) => ?_) (fun (h_1 : ¬ (nI 1 = 0)) => ?_)
          · exact absurd h_1 (by decide)
          refine am_run 1 (pc' := 23) (ls' := [some (.ref 41), some (.int (nI 0)), some (.int (nI mk)), some (.int z), some (.ref 73), none, none]) (st' := [.int z]) (σ' := σ) rfl ?_
          refine am_if (ty := 46) (tn := 26) rfl (by decide) rfl rfl (fun (h_2 : z < 0) => ?_) (fun (h_2 : ¬ (z < 0)) => ?_)
          · exact absurd h_2 hz0
          refine am_run 2 (pc' := 29) (ls' := [some (.ref 41), some (.int (nI 0)), some (.int (nI mk)), some (.int z), some (.ref 73), none, none]) (st' := [.int (nI 9), .int z]) (σ' := σ) rfl ?_
          refine am_ic (ty := 46) (tn := 32) rfl (by decide) rfl rfl (fun (h_3 : nI 9 < z) => ?_) (fun (h_3 : ¬ (nI 9 < z)) => ?_)
          rotate_left
          · exact absurd hzb h_3
          refine am_run 1 (pc' := 48) (ls' := [some (.ref 41), some (.int (nI 0)), some (.int (nI mk)), some (.int z), some (.ref 73), none, none]) (st' := [.int (-1000002)]) (σ' := σ) rfl ?_
          refine am_reti rfl rfl ?_
          refine ⟨rfl, ?_⟩
          refine am_enter' (M := M_X10_soon) rfl rfl rfl (by omega) (ls := [some (.ref 0), some (.int (nI 0)), some (.int (nI mk)), some (.int z), none, none, none, none, none, none]) rfl (fun d2 hd2 => ?_)
          refine am_run 2 (pc' := 2) (ls' := [some (.ref 0), some (.int (nI 0)), some (.int (nI mk)), some (.int z), none, none, none, none, none, none]) (st' := [.int (nI 0), .ref 0]) (σ' := σ) rfl ?_
          refine am_invv (y := 151) (b := 0) (as := [.int (nI 0)]) (rest := []) rfl rfl rfl rfl rfl rfl rfl (Nat.le_of_ble_eq_true rfl) ?_
          refine c_prog0_1 (by omega) (n := n) (by exact hn2) hn1 hn60 ?_
          show am_G _ M_X10_soon _ 5 [some (.ref 0), some (.int (nI 0)), some (.int (nI mk)), some (.int z), none, none, none, none, none, none] [.int (nI 1)] σ
          refine am_if (ty := 8) (tn := 11) rfl (by decide) rfl rfl (fun (h_101 : nI 1 = 0) => ?_) (fun (h_101 : ¬ (nI 1 = 0)) => ?_)
          · exact absurd h_101 (by decide)
          refine am_run 1 (pc' := 12) (ls' := [some (.ref 0), some (.int (nI 0)), some (.int (nI mk)), some (.int z), none, none, none, none, none, none]) (st' := [.int (nI mk)]) (σ' := σ) rfl ?_
          refine am_invs (y := 240) (as := [.int (nI mk)]) (rest := []) rfl rfl rfl rfl rfl rfl (Nat.le_of_ble_eq_true rfl) ?_
          refine c_mask1_model (by omega) hmk hmv ?_
          show am_G _ M_X10_soon _ 15 [some (.ref 0), some (.int (nI 0)), some (.int (nI mk)), some (.int z), none, none, none, none, none, none] [.int (nI 1)] σ
          refine am_if (ty := 42) (tn := 18) rfl (by decide) rfl rfl (fun (h_102 : nI 1 = 0) => ?_) (fun (h_102 : ¬ (nI 1 = 0)) => ?_)
          · exact absurd h_102 (by decide)
          refine am_run 3 (pc' := 22) (ls' := [some (.ref 0), some (.int (nI 0)), some (.int (nI mk)), some (.int z), none, none, none, none, none, none]) (st' := [.int (nI 9), .int (nI 0), .int z]) (σ' := σ) rfl ?_
          refine am_invs (y := 148) (as := [.int z, .int (nI 0), .int (nI 9)]) (rest := []) rfl rfl rfl rfl rfl rfl (Nat.le_of_ble_eq_true rfl) ?_
          refine c_in0 (by omega) hz ?_
          show am_G _ M_X10_soon _ 25 [some (.ref 0), some (.int (nI 0)), some (.int (nI mk)), some (.int z), none, none, none, none, none, none] [.int (nI 0)] σ
          refine am_if (ty := 42) (tn := 28) rfl (by decide) rfl rfl (fun (h_103 : nI 0 = 0) => ?_) (fun (h_103 : ¬ (nI 0 = 0)) => ?_)
          rotate_left
          · exact absurd (by decide) h_103
          refine am_run 1 (pc' := 44) (ls' := [some (.ref 0), some (.int (nI 0)), some (.int (nI mk)), some (.int z), none, none, none, none, none, none]) (st' := [.int (-1000002)]) (σ' := σ) rfl ?_
          refine am_reti rfl rfl ?_
          exact ⟨rfl, hI⟩
    · skip
      refine ⟨-1000002, ?_⟩
      refine am_enter' (M := M_X9_soon) rfl rfl rfl (by omega) (ls := [some (.ref 41), some (.int (nI 0)), some (.int y), some (.int z), none, none, none]) rfl (fun d' hd' => ?_)
      refine am_run 2 (pc' := 2) (ls' := [some (.ref 41), some (.int (nI 0)), some (.int y), some (.int z), none, none, none]) (st' := [.int (nI 0), .ref 41]) (σ' := σ) rfl ?_
      refine am_invv (y := 140) (b := 41) (as := [.int (nI 0)]) (rest := []) rfl rfl rfl rfl rfl rfl rfl (Nat.le_of_ble_eq_true rfl) ?_
      refine c_filled0_1 (by omega) hf ?_
      show am_G _ M_X9_soon _ 5 [some (.ref 41), some (.int (nI 0)), some (.int y), some (.int z), none, none, none] [.ref 73] σ
      refine am_run 4 (pc' := 16) (ls' := [some (.ref 41), some (.int (nI 0)), some (.int y), some (.int z), some (.ref 73), none, none]) (st' := [.int y]) (σ' := σ) rfl ?_
      refine am_invs (y := 142) (as := [.int y]) (rest := []) rfl rfl rfl rfl rfl rfl (Nat.le_of_ble_eq_true rfl) ?_
      refine c_mask0_class (by omega) hNM ?_
      show am_G _ M_X9_soon _ 19 [some (.ref 41), some (.int (nI 0)), some (.int y), some (.int z), some (.ref 73), none, none] [.int (nI 0)] σ
      refine am_if (ty := 46) (tn := 22) rfl (by decide) rfl rfl (fun (h_1 : nI 0 = 0) => ?_) (fun (h_1 : ¬ (nI 0 = 0)) => ?_)
      rotate_left
      · exact absurd (by decide) h_1
      refine am_run 1 (pc' := 48) (ls' := [some (.ref 41), some (.int (nI 0)), some (.int y), some (.int z), some (.ref 73), none, none]) (st' := [.int (-1000002)]) (σ' := σ) rfl ?_
      refine am_reti rfl rfl ?_
      refine ⟨rfl, ?_⟩
      refine am_enter' (M := M_X10_soon) rfl rfl rfl (by omega) (ls := [some (.ref 0), some (.int (nI 0)), some (.int y), some (.int z), none, none, none, none, none, none]) rfl (fun d2 hd2 => ?_)
      refine am_run 2 (pc' := 2) (ls' := [some (.ref 0), some (.int (nI 0)), some (.int y), some (.int z), none, none, none, none, none, none]) (st' := [.int (nI 0), .ref 0]) (σ' := σ) rfl ?_
      refine am_invv (y := 151) (b := 0) (as := [.int (nI 0)]) (rest := []) rfl rfl rfl rfl rfl rfl rfl (Nat.le_of_ble_eq_true rfl) ?_
      refine c_prog0_1 (by omega) (n := n) (by exact hn2) hn1 hn60 ?_
      show am_G _ M_X10_soon _ 5 [some (.ref 0), some (.int (nI 0)), some (.int y), some (.int z), none, none, none, none, none, none] [.int (nI 1)] σ
      refine am_if (ty := 8) (tn := 11) rfl (by decide) rfl rfl (fun (h_101 : nI 1 = 0) => ?_) (fun (h_101 : ¬ (nI 1 = 0)) => ?_)
      · exact absurd h_101 (by decide)
      refine am_run 1 (pc' := 12) (ls' := [some (.ref 0), some (.int (nI 0)), some (.int y), some (.int z), none, none, none, none, none, none]) (st' := [.int y]) (σ' := σ) rfl ?_
      refine am_invs (y := 240) (as := [.int y]) (rest := []) rfl rfl rfl rfl rfl rfl (Nat.le_of_ble_eq_true rfl) ?_
      refine c_mask0_model (by omega) hNM ?_
      show am_G _ M_X10_soon _ 15 [some (.ref 0), some (.int (nI 0)), some (.int y), some (.int z), none, none, none, none, none, none] [.int (nI 0)] σ
      refine am_if (ty := 42) (tn := 18) rfl (by decide) rfl rfl (fun (h_102 : nI 0 = 0) => ?_) (fun (h_102 : ¬ (nI 0 = 0)) => ?_)
      rotate_left
      · exact absurd (by decide) h_102
      refine am_run 1 (pc' := 44) (ls' := [some (.ref 0), some (.int (nI 0)), some (.int y), some (.int z), none, none, none, none, none, none]) (st' := [.int (-1000002)]) (σ' := σ) rfl ?_
      refine am_reti rfl rfl ?_
      exact ⟨rfl, hI⟩
  · obtain ⟨hf, p, n, r, kk, rk, od, dp, ow, s, m, hP, hH⟩ := hF
    obtain ⟨hn1, hR, hro, hM, hk1, hk2, hkk, hND⟩ := id hP
    obtain ⟨a3, b3, hv, a4, b4, hm, hh⟩ := id hH
    have hW := hM.1.2.1
    have hn60 := hW.1
    have hs := hv.1
    have hrn : r < n := hM.2.1.2.1
    have hn2 := hM.1.2.2.2.1
    rcases mk_cases y with ⟨mk, hmk, rfl, hmv⟩ | hNM
    · have h8 := ((mk_f mk hmk).2 hmv.2).1
      have hpl := hmv.2
      rcases i32_in z (k := 9) (by decide) with ⟨wh, hwh, rfl⟩ | hz
      · by_cases h8w : wh < 8
        · rcases bt (mk.testBit wh) with hb | hb
          · have hbv : mk / 2 ^ wh % 2 = 1 := by rw [bit_v, hb]; rfl
            refine ⟨-1000002, ?_⟩
            refine am_enter' (M := M_X9_soon) rfl rfl rfl (by omega) (ls := [some (.ref 41), some (.int (nI 1)), some (.int (nI mk)), some (.int (nI wh)), none, none, none]) rfl (fun d' hd' => ?_)
            refine am_run 2 (pc' := 2) (ls' := [some (.ref 41), some (.int (nI 1)), some (.int (nI mk)), some (.int (nI wh)), none, none, none]) (st' := [.int (nI 1), .ref 41]) (σ' := σ) rfl ?_
            refine am_invv (y := 140) (b := 41) (as := [.int (nI 1)]) (rest := []) rfl rfl rfl rfl rfl rfl rfl (Nat.le_of_ble_eq_true rfl) ?_
            refine c_filled1_1 (by omega) hf ?_
            show am_G _ M_X9_soon _ 5 [some (.ref 41), some (.int (nI 1)), some (.int (nI mk)), some (.int (nI wh)), none, none, none] [.ref 75] σ
            refine am_run 4 (pc' := 16) (ls' := [some (.ref 41), some (.int (nI 1)), some (.int (nI mk)), some (.int (nI wh)), some (.ref 75), none, none]) (st' := [.int (nI mk)]) (σ' := σ) rfl ?_
            refine am_invs (y := 142) (as := [.int (nI mk)]) (rest := []) rfl rfl rfl rfl rfl rfl (Nat.le_of_ble_eq_true rfl) ?_
            refine c_mask1_class (by omega) hmk hmv ?_
            show am_G _ M_X9_soon _ 19 [some (.ref 41), some (.int (nI 1)), some (.int (nI mk)), some (.int (nI wh)), some (.ref 75), none, none] [.int (nI 1)] σ
            refine am_if (ty := 46) (tn := 22) rfl (by decide) rfl rfl (fun (h_1 : nI 1 = 0) => ?_) (fun (h_1 : ¬ (nI 1 = 0)) => ?_)
            · exact absurd h_1 (by decide)
            refine am_run 1 (pc' := 23) (ls' := [some (.ref 41), some (.int (nI 1)), some (.int (nI mk)), some (.int (nI wh)), some (.ref 75), none, none]) (st' := [.int (nI wh)]) (σ' := σ) rfl ?_
            refine am_if (ty := 46) (tn := 26) rfl (by decide) rfl rfl (fun (h_2 : nI wh < 0) => ?_) (fun (h_2 : ¬ (nI wh < 0)) => ?_)
            · have h_2 : wh < 0 := (am_nlt0 (by omega)).mp h_2
              exact absurd h_2 (Nat.not_lt_zero _)
            have h_2 : ¬ (wh < 0) := fun z => h_2 ((am_nlt0 (by omega)).mpr z)
            refine am_run 2 (pc' := 29) (ls' := [some (.ref 41), some (.int (nI 1)), some (.int (nI mk)), some (.int (nI wh)), some (.ref 75), none, none]) (st' := [.int (nI 9), .int (nI wh)]) (σ' := σ) rfl ?_
            refine am_ic (ty := 46) (tn := 32) rfl (by decide) rfl rfl (fun (h_3 : nI 9 < nI wh) => ?_) (fun (h_3 : ¬ (nI 9 < nI wh)) => ?_)
            · have h_3 : 9 < wh := (nI_ltI (by omega) (by omega)).mp h_3
              omega
            have h_3 : ¬ (9 < wh) := fun z => h_3 ((nI_ltI (by omega) (by omega)).mpr z)
            refine am_run 2 (pc' := 35) (ls' := [some (.ref 41), some (.int (nI 1)), some (.int (nI mk)), some (.int (nI wh)), some (.ref 75), none, none]) (st' := [.int (nI 8), .int (nI wh)]) (σ' := σ) rfl ?_
            refine am_ic (ty := 38) (tn := 49) rfl (by decide) rfl rfl (fun (h_4 : nI wh < nI 8) => ?_) (fun (h_4 : ¬ (nI wh < nI 8)) => ?_)
            rotate_left
            · have h_4 : ¬ (wh < 8) := fun z => h_4 ((nI_ltI (by omega) (by omega)).mpr z)
              omega
            have h_4 : wh < 8 := (nI_ltI (by omega) (by omega)).mp h_4
            refine am_run 5 (pc' := 43) (ls' := [some (.ref 41), some (.int (nI 1)), some (.int (nI mk)), some (.int (nI wh)), some (.ref 75), none, none]) (st' := [.int (((nI mk) >>> ((nI wh) &&& 31)) &&& nI 1)]) (σ' := σ) rfl ?_
            refine am_top (v' := nI (mk / 2 ^ wh % 2)) (by rw [nx_shr (by omega) (by omega), show nI 1 = nI (2 - 1) from rfl, nx_mask (k := 1) _ rfl]) ?_
            refine am_if (ty := 49) (tn := 46) rfl (by decide) rfl rfl (fun (h_5 : nI (mk / 2 ^ wh % 2) = 0) => ?_) (fun (h_5 : ¬ (nI (mk / 2 ^ wh % 2) = 0)) => ?_)
            · have h_5 : mk / 2 ^ wh % 2 = 0 := (am_n0 (by omega)).mp h_5
              omega
            have h_5 : ¬ (mk / 2 ^ wh % 2 = 0) := fun z => h_5 ((am_n0 (by omega)).mpr z)
            refine am_run 1 (pc' := 48) (ls' := [some (.ref 41), some (.int (nI 1)), some (.int (nI mk)), some (.int (nI wh)), some (.ref 75), none, none]) (st' := [.int (-1000002)]) (σ' := σ) rfl ?_
            refine am_reti rfl rfl ?_
            refine ⟨rfl, ?_⟩
            refine am_enter' (M := M_X10_soon) rfl rfl rfl (by omega) (ls := [some (.ref 0), some (.int (nI 1)), some (.int (nI mk)), some (.int (nI wh)), none, none, none, none, none, none]) rfl (fun d2 hd2 => ?_)
            refine am_run 2 (pc' := 2) (ls' := [some (.ref 0), some (.int (nI 1)), some (.int (nI mk)), some (.int (nI wh)), none, none, none, none, none, none]) (st' := [.int (nI 1), .ref 0]) (σ' := σ) rfl ?_
            refine am_invv (y := 151) (b := 0) (as := [.int (nI 1)]) (rest := []) rfl rfl rfl rfl rfl rfl rfl (Nat.le_of_ble_eq_true rfl) ?_
            refine c_prog1_1 (by omega) (n := n) (by exact hn2) hn1 hn60 ?_
            show am_G _ M_X10_soon _ 5 [some (.ref 0), some (.int (nI 1)), some (.int (nI mk)), some (.int (nI wh)), none, none, none, none, none, none] [.int (nI 1)] σ
            refine am_if (ty := 8) (tn := 11) rfl (by decide) rfl rfl (fun (h_101 : nI 1 = 0) => ?_) (fun (h_101 : ¬ (nI 1 = 0)) => ?_)
            · exact absurd h_101 (by decide)
            refine am_run 1 (pc' := 12) (ls' := [some (.ref 0), some (.int (nI 1)), some (.int (nI mk)), some (.int (nI wh)), none, none, none, none, none, none]) (st' := [.int (nI mk)]) (σ' := σ) rfl ?_
            refine am_invs (y := 240) (as := [.int (nI mk)]) (rest := []) rfl rfl rfl rfl rfl rfl (Nat.le_of_ble_eq_true rfl) ?_
            refine c_mask1_model (by omega) hmk hmv ?_
            show am_G _ M_X10_soon _ 15 [some (.ref 0), some (.int (nI 1)), some (.int (nI mk)), some (.int (nI wh)), none, none, none, none, none, none] [.int (nI 1)] σ
            refine am_if (ty := 42) (tn := 18) rfl (by decide) rfl rfl (fun (h_102 : nI 1 = 0) => ?_) (fun (h_102 : ¬ (nI 1 = 0)) => ?_)
            · exact absurd h_102 (by decide)
            refine am_run 3 (pc' := 22) (ls' := [some (.ref 0), some (.int (nI 1)), some (.int (nI mk)), some (.int (nI wh)), none, none, none, none, none, none]) (st' := [.int (nI 9), .int (nI 0), .int (nI wh)]) (σ' := σ) rfl ?_
            refine am_invs (y := 148) (as := [.int (nI wh), .int (nI 0), .int (nI 9)]) (rest := []) rfl rfl rfl rfl rfl rfl (Nat.le_of_ble_eq_true rfl) ?_
            refine c_in1 (by omega) (by omega) (by omega) (by omega) ?_
            show am_G _ M_X10_soon _ 25 [some (.ref 0), some (.int (nI 1)), some (.int (nI mk)), some (.int (nI wh)), none, none, none, none, none, none] [.int (nI 1)] σ
            refine am_if (ty := 42) (tn := 28) rfl (by decide) rfl rfl (fun (h_103 : nI 1 = 0) => ?_) (fun (h_103 : ¬ (nI 1 = 0)) => ?_)
            · exact absurd h_103 (by decide)
            refine am_run 2 (pc' := 31) (ls' := [some (.ref 0), some (.int (nI 1)), some (.int (nI mk)), some (.int (nI wh)), none, none, none, none, none, none]) (st' := [.int (nI 8), .int (nI wh)]) (σ' := σ) rfl ?_
            refine am_ic (ty := 34) (tn := 45) rfl (by decide) rfl rfl (fun (h_104 : nI wh < nI 8) => ?_) (fun (h_104 : ¬ (nI wh < nI 8)) => ?_)
            rotate_left
            · have h_104 : ¬ (wh < 8) := fun z => h_104 ((nI_ltI (by omega) (by omega)).mpr z)
              omega
            have h_104 : wh < 8 := (nI_ltI (by omega) (by omega)).mp h_104
            refine am_run 2 (pc' := 36) (ls' := [some (.ref 0), some (.int (nI 1)), some (.int (nI mk)), some (.int (nI wh)), none, none, none, none, none, none]) (st' := [.int (nI wh), .int (nI mk)]) (σ' := σ) rfl ?_
            refine am_invs (y := 149) (as := [.int (nI mk), .int (nI wh)]) (rest := []) rfl rfl rfl rfl rfl rfl (Nat.le_of_ble_eq_true rfl) ?_
            refine c_m_has (by omega) (a := mk) (s := wh) (by omega) (by omega) (fun _ => ?_) (fun z => absurd (hb.symm.trans z) (by decide))
            show am_G _ M_X10_soon _ 39 [some (.ref 0), some (.int (nI 1)), some (.int (nI mk)), some (.int (nI wh)), none, none, none, none, none, none] [.int (nI 1)] σ
            refine am_if (ty := 45) (tn := 42) rfl (by decide) rfl rfl (fun (h_105 : nI 1 = 0) => ?_) (fun (h_105 : ¬ (nI 1 = 0)) => ?_)
            · exact absurd h_105 (by decide)
            refine am_run 1 (pc' := 44) (ls' := [some (.ref 0), some (.int (nI 1)), some (.int (nI mk)), some (.int (nI wh)), none, none, none, none, none, none]) (st' := [.int (-1000002)]) (σ' := σ) rfl ?_
            refine am_reti rfl rfl ?_
            exact ⟨rfl, hI⟩
          · have hbv : mk / 2 ^ wh % 2 = 0 := by rw [bit_v, hb]; rfl
            refine ⟨so_out p (r + 1) mk wh 100 0 1 (up1 z0 0 s) z0, ?_⟩
            refine am_enter' (M := M_X9_soon) rfl rfl rfl (by omega) (ls := [some (.ref 41), some (.int (nI 1)), some (.int (nI mk)), some (.int (nI wh)), none, none, none]) rfl (fun d' hd' => ?_)
            refine am_run 2 (pc' := 2) (ls' := [some (.ref 41), some (.int (nI 1)), some (.int (nI mk)), some (.int (nI wh)), none, none, none]) (st' := [.int (nI 1), .ref 41]) (σ' := σ) rfl ?_
            refine am_invv (y := 140) (b := 41) (as := [.int (nI 1)]) (rest := []) rfl rfl rfl rfl rfl rfl rfl (Nat.le_of_ble_eq_true rfl) ?_
            refine c_filled1_1 (by omega) hf ?_
            show am_G _ M_X9_soon _ 5 [some (.ref 41), some (.int (nI 1)), some (.int (nI mk)), some (.int (nI wh)), none, none, none] [.ref 75] σ
            refine am_run 4 (pc' := 16) (ls' := [some (.ref 41), some (.int (nI 1)), some (.int (nI mk)), some (.int (nI wh)), some (.ref 75), none, none]) (st' := [.int (nI mk)]) (σ' := σ) rfl ?_
            refine am_invs (y := 142) (as := [.int (nI mk)]) (rest := []) rfl rfl rfl rfl rfl rfl (Nat.le_of_ble_eq_true rfl) ?_
            refine c_mask1_class (by omega) hmk hmv ?_
            show am_G _ M_X9_soon _ 19 [some (.ref 41), some (.int (nI 1)), some (.int (nI mk)), some (.int (nI wh)), some (.ref 75), none, none] [.int (nI 1)] σ
            refine am_if (ty := 46) (tn := 22) rfl (by decide) rfl rfl (fun (h_1 : nI 1 = 0) => ?_) (fun (h_1 : ¬ (nI 1 = 0)) => ?_)
            · exact absurd h_1 (by decide)
            refine am_run 1 (pc' := 23) (ls' := [some (.ref 41), some (.int (nI 1)), some (.int (nI mk)), some (.int (nI wh)), some (.ref 75), none, none]) (st' := [.int (nI wh)]) (σ' := σ) rfl ?_
            refine am_if (ty := 46) (tn := 26) rfl (by decide) rfl rfl (fun (h_2 : nI wh < 0) => ?_) (fun (h_2 : ¬ (nI wh < 0)) => ?_)
            · have h_2 : wh < 0 := (am_nlt0 (by omega)).mp h_2
              exact absurd h_2 (Nat.not_lt_zero _)
            have h_2 : ¬ (wh < 0) := fun z => h_2 ((am_nlt0 (by omega)).mpr z)
            refine am_run 2 (pc' := 29) (ls' := [some (.ref 41), some (.int (nI 1)), some (.int (nI mk)), some (.int (nI wh)), some (.ref 75), none, none]) (st' := [.int (nI 9), .int (nI wh)]) (σ' := σ) rfl ?_
            refine am_ic (ty := 46) (tn := 32) rfl (by decide) rfl rfl (fun (h_3 : nI 9 < nI wh) => ?_) (fun (h_3 : ¬ (nI 9 < nI wh)) => ?_)
            · have h_3 : 9 < wh := (nI_ltI (by omega) (by omega)).mp h_3
              omega
            have h_3 : ¬ (9 < wh) := fun z => h_3 ((nI_ltI (by omega) (by omega)).mpr z)
            refine am_run 2 (pc' := 35) (ls' := [some (.ref 41), some (.int (nI 1)), some (.int (nI mk)), some (.int (nI wh)), some (.ref 75), none, none]) (st' := [.int (nI 8), .int (nI wh)]) (σ' := σ) rfl ?_
            refine am_ic (ty := 38) (tn := 49) rfl (by decide) rfl rfl (fun (h_4 : nI wh < nI 8) => ?_) (fun (h_4 : ¬ (nI wh < nI 8)) => ?_)
            rotate_left
            · have h_4 : ¬ (wh < 8) := fun z => h_4 ((nI_ltI (by omega) (by omega)).mpr z)
              omega
            have h_4 : wh < 8 := (nI_ltI (by omega) (by omega)).mp h_4
            refine am_run 5 (pc' := 43) (ls' := [some (.ref 41), some (.int (nI 1)), some (.int (nI mk)), some (.int (nI wh)), some (.ref 75), none, none]) (st' := [.int (((nI mk) >>> ((nI wh) &&& 31)) &&& nI 1)]) (σ' := σ) rfl ?_
            refine am_top (v' := nI (mk / 2 ^ wh % 2)) (by rw [nx_shr (by omega) (by omega), show nI 1 = nI (2 - 1) from rfl, nx_mask (k := 1) _ rfl]) ?_
            refine am_if (ty := 49) (tn := 46) rfl (by decide) rfl rfl (fun (h_5 : nI (mk / 2 ^ wh % 2) = 0) => ?_) (fun (h_5 : ¬ (nI (mk / 2 ^ wh % 2) = 0)) => ?_)
            rotate_left
            · have h_5 : ¬ (mk / 2 ^ wh % 2 = 0) := fun z => h_5 ((am_n0 (by omega)).mpr z)
              omega
            have h_5 : mk / 2 ^ wh % 2 = 0 := (am_n0 (by omega)).mp h_5
            refine am_run 4 (pc' := 57) (ls' := [some (.ref 41), some (.int (nI 1)), some (.int (nI mk)), some (.int (nI wh)), some (.ref 75), none, none]) (st' := [.ref 75, .int (nI 100), .ref 79]) (σ' := σ) rfl ?_
            refine am_invv (y := 67) (b := 75) (as := []) (rest := [.int (nI 100), .ref 79]) rfl rfl rfl rfl rfl rfl rfl (Nat.le_of_ble_eq_true rfl) ?_
            refine am_enter' rfl rfl rfl (by omega) (ls := [some (.ref 75)]) rfl (fun d_6 hd_6 => ?_)
            refine am_run 2 (pc' := 4) (ls' := [some (.ref 75)]) (st' := [.int (σ.1 75 3)]) (σ' := σ) rfl ?_
            refine am_top (v' := nI s) a3 ?_
            refine am_reti rfl rfl ?_
            show am_G _ M_X9_soon _ 60 [some (.ref 41), some (.int (nI 1)), some (.int (nI mk)), some (.int (nI wh)), some (.ref 75), none, none] [.int (nI s), .int (nI 100), .ref 79] σ
            refine am_run 1 (pc' := 61) (ls' := [some (.ref 41), some (.int (nI 1)), some (.int (nI mk)), some (.int (nI wh)), some (.ref 75), none, none]) (st' := [.int (nI 0), .int (nI s), .int (nI 100), .ref 79]) (σ' := σ) rfl ?_
            refine am_invv (y := 73) (b := 79) (as := [.int (nI 100), .int (nI s), .int (nI 0)]) (rest := []) rfl rfl rfl rfl rfl rfl rfl (Nat.le_of_ble_eq_true rfl) ?_
            refine c_rbegin (by omega) (lim := 100) (by decide) hs (b := 0) (by decide) (fun σ1 g1 g2 hT1 => ?_)
            rw [up1_z] at hT1
            show am_G _ M_X9_soon _ 64 [some (.ref 41), some (.int (nI 1)), some (.int (nI mk)), some (.int (nI wh)), some (.ref 75), none, none] [] σ1
            refine am_run 2 (pc' := 67) (ls' := [some (.ref 41), some (.int (nI 1)), some (.int (nI mk)), some (.int (nI wh)), some (.ref 75), some (.int (nI 0)), none]) (st' := []) (σ' := σ1) rfl ?_
            have hVA1 : VA p r 1 (up1 z0 0 s) := fun k hk => by rw [show k = 0 by omega, up1_s]; exact hv
            have hVo := fun s u (hu : u < 256) => oc_vs hM s hu
            refine c_soon_out1 (by omega) hW hR hrn hro hmk hmv hwh hVo 100 0 _ 1 _ _ _ rfl ((KX.rf σ).by g1 g2) hT1 hVA1 (fun σ5 hK5 => ⟨rfl, ?_⟩)
            have hM5 := hM.keep2 (σ' := σ5) (fun c a => hK5.1 c (by omega))
            have hn25 := hM5.1.2.2.2.1
            have b35 : σ5.1 17 1 = nI s := by rw [hK5.1 17 (by decide)]; exact b3
            refine am_enter' (M := M_X10_soon) rfl rfl rfl (by omega) (ls := [some (.ref 0), some (.int (nI 1)), some (.int (nI mk)), some (.int (nI wh)), none, none, none, none, none, none]) rfl (fun d2 hd2 => ?_)
            refine am_run 2 (pc' := 2) (ls' := [some (.ref 0), some (.int (nI 1)), some (.int (nI mk)), some (.int (nI wh)), none, none, none, none, none, none]) (st' := [.int (nI 1), .ref 0]) (σ' := σ5) rfl ?_
            refine am_invv (y := 151) (b := 0) (as := [.int (nI 1)]) (rest := []) rfl rfl rfl rfl rfl rfl rfl (Nat.le_of_ble_eq_true rfl) ?_
            refine c_prog1_1 (by omega) (n := n) (by exact hn25) hn1 hn60 ?_
            show am_G _ M_X10_soon _ 5 [some (.ref 0), some (.int (nI 1)), some (.int (nI mk)), some (.int (nI wh)), none, none, none, none, none, none] [.int (nI 1)] σ5
            refine am_if (ty := 8) (tn := 11) rfl (by decide) rfl rfl (fun (h_101 : nI 1 = 0) => ?_) (fun (h_101 : ¬ (nI 1 = 0)) => ?_)
            · exact absurd h_101 (by decide)
            refine am_run 1 (pc' := 12) (ls' := [some (.ref 0), some (.int (nI 1)), some (.int (nI mk)), some (.int (nI wh)), none, none, none, none, none, none]) (st' := [.int (nI mk)]) (σ' := σ5) rfl ?_
            refine am_invs (y := 240) (as := [.int (nI mk)]) (rest := []) rfl rfl rfl rfl rfl rfl (Nat.le_of_ble_eq_true rfl) ?_
            refine c_mask1_model (by omega) hmk hmv ?_
            show am_G _ M_X10_soon _ 15 [some (.ref 0), some (.int (nI 1)), some (.int (nI mk)), some (.int (nI wh)), none, none, none, none, none, none] [.int (nI 1)] σ5
            refine am_if (ty := 42) (tn := 18) rfl (by decide) rfl rfl (fun (h_102 : nI 1 = 0) => ?_) (fun (h_102 : ¬ (nI 1 = 0)) => ?_)
            · exact absurd h_102 (by decide)
            refine am_run 3 (pc' := 22) (ls' := [some (.ref 0), some (.int (nI 1)), some (.int (nI mk)), some (.int (nI wh)), none, none, none, none, none, none]) (st' := [.int (nI 9), .int (nI 0), .int (nI wh)]) (σ' := σ5) rfl ?_
            refine am_invs (y := 148) (as := [.int (nI wh), .int (nI 0), .int (nI 9)]) (rest := []) rfl rfl rfl rfl rfl rfl (Nat.le_of_ble_eq_true rfl) ?_
            refine c_in1 (by omega) (by omega) (by omega) (by omega) ?_
            show am_G _ M_X10_soon _ 25 [some (.ref 0), some (.int (nI 1)), some (.int (nI mk)), some (.int (nI wh)), none, none, none, none, none, none] [.int (nI 1)] σ5
            refine am_if (ty := 42) (tn := 28) rfl (by decide) rfl rfl (fun (h_103 : nI 1 = 0) => ?_) (fun (h_103 : ¬ (nI 1 = 0)) => ?_)
            · exact absurd h_103 (by decide)
            refine am_run 2 (pc' := 31) (ls' := [some (.ref 0), some (.int (nI 1)), some (.int (nI mk)), some (.int (nI wh)), none, none, none, none, none, none]) (st' := [.int (nI 8), .int (nI wh)]) (σ' := σ5) rfl ?_
            refine am_ic (ty := 34) (tn := 45) rfl (by decide) rfl rfl (fun (h_104 : nI wh < nI 8) => ?_) (fun (h_104 : ¬ (nI wh < nI 8)) => ?_)
            rotate_left
            · have h_104 : ¬ (wh < 8) := fun z => h_104 ((nI_ltI (by omega) (by omega)).mpr z)
              omega
            have h_104 : wh < 8 := (nI_ltI (by omega) (by omega)).mp h_104
            refine am_run 2 (pc' := 36) (ls' := [some (.ref 0), some (.int (nI 1)), some (.int (nI mk)), some (.int (nI wh)), none, none, none, none, none, none]) (st' := [.int (nI wh), .int (nI mk)]) (σ' := σ5) rfl ?_
            refine am_invs (y := 149) (as := [.int (nI mk), .int (nI wh)]) (rest := []) rfl rfl rfl rfl rfl rfl (Nat.le_of_ble_eq_true rfl) ?_
            refine c_m_has (by omega) (a := mk) (s := wh) (by omega) (by omega) (fun z => absurd (hb.symm.trans z) (by decide)) (fun _ => ?_)
            show am_G _ M_X10_soon _ 39 [some (.ref 0), some (.int (nI 1)), some (.int (nI mk)), some (.int (nI wh)), none, none, none, none, none, none] [.int (nI 0)] σ5
            refine am_if (ty := 45) (tn := 42) rfl (by decide) rfl rfl (fun (h_105 : nI 0 = 0) => ?_) (fun (h_105 : ¬ (nI 0 = 0)) => ?_)
            rotate_left
            · exact absurd (by decide) h_105
            refine am_run 2 (pc' := 47) (ls' := [some (.ref 0), some (.int (nI 1)), some (.int (nI mk)), some (.int (nI wh)), none, none, none, none, none, none]) (st' := [.int (nI mk), .int (nI 1)]) (σ' := σ5) rfl ?_
            refine am_invs (y := 150) (as := [.int (nI mk)]) (rest := [.int (nI 1)]) rfl rfl rfl rfl rfl rfl (Nat.le_of_ble_eq_true rfl) ?_
            refine c_ones (by omega) (by omega) ?_
            show am_G _ M_X10_soon _ 50 [some (.ref 0), some (.int (nI 1)), some (.int (nI mk)), some (.int (nI wh)), none, none, none, none, none, none] [.int (nI (pcn mk 21)), .int (nI 1)] σ5
            refine am_run 1 (pc' := 51) (ls' := [some (.ref 0), some (.int (nI 1)), some (.int (nI mk)), some (.int (nI wh)), none, none, none, none, none, none]) (st' := [.int ((nI 1) <<< ((nI (pcn mk 21)) &&& 31))]) (σ' := σ5) rfl ?_
            refine am_top (v' := nI (2 ^ pcn mk 21)) (by rw [nx_shl _ (by omega), Nat.one_mul]) ?_
            refine am_run 8 (pc' := 64) (ls' := [some (.ref 0), some (.int (nI 1)), some (.int (nI mk)), some (.int (nI wh)), some (.int (nI (2 ^ pcn mk 21))), none, none, none, none, none]) (st' := [.int (nI 1), .ref 17, .ref 0]) (σ' := (am_wr σ5 0 49 (nI 0))) rfl ?_
            refine am_ialdN (n := 2) (v := nI s) rfl rfl rfl (by omega) b35 (by decide) ?_
            refine am_run 1 (pc' := 66) (ls' := [some (.ref 0), some (.int (nI 1)), some (.int (nI mk)), some (.int (nI wh)), some (.int (nI (2 ^ pcn mk 21))), none, none, none, none, none]) (st' := [.int (nI 0), .int (nI s), .ref 0]) (σ' := (am_wr σ5 0 49 (nI 0))) rfl ?_
            refine am_invv (y := 242) (b := 0) (as := [.int (nI s), .int (nI 0)]) (rest := []) rfl rfl rfl rfl rfl rfl rfl (Nat.le_of_ble_eq_true rfl) ?_
            have hT6 : TM (am_wr σ5 0 49 (nI 0)) 0 z0 z0 := ⟨by decide, rfl, fun k z => absurd z (Nat.not_lt_zero _)⟩
            refine c_numberOf (by omega) hT6 hs (fun z => absurd z (Nat.not_lt_zero _)) (fun _ => ?_)
            have hT7 := hT6.add (by decide) hs (Nat.le_refl 0)
            rw [up1_z] at hT7
            show am_G _ M_X10_soon _ 69 [some (.ref 0), some (.int (nI 1)), some (.int (nI mk)), some (.int (nI wh)), some (.int (nI (2 ^ pcn mk 21))), none, none, none, none, none] [.int (nI 0)] (am_wr (am_wr (am_wr (am_wr σ5 0 49 (nI 0)) 32 0 (nI s)) 33 0 (nI 0)) 0 49 (nI (0 + 1)))
            refine am_run 3 (pc' := 75) (ls' := [some (.ref 0), some (.int (nI 1)), some (.int (nI mk)), some (.int (nI wh)), some (.int (nI (2 ^ pcn mk 21))), some (.int (nI 0)), some (.int (nI 0)), none, none, none]) (st' := []) (σ' := (am_wr (am_wr (am_wr (am_wr σ5 0 49 (nI 0)) 32 0 (nI s)) 33 0 (nI 0)) 0 49 (nI (0 + 1)))) rfl ?_
            exact c_msoon_out (by omega) hM5 hmk hmv hwh 100 0 _ 1 (up1 z0 0 s) z0 _ _ _ rfl (((((KY.rf σ5).w0 (by decide) _).wr (by decide) _ _).wr (by decide) _ _).w0 (by decide) _) hT7 hVA1 (fun σ7 hK7 => ⟨rfl, (hK5.KI.tr hK7.KI).inv hI⟩)
        · skip
          refine ⟨so_out p (r + 1) mk wh 100 0 1 (up1 z0 0 s) z0, ?_⟩
          refine am_enter' (M := M_X9_soon) rfl rfl rfl (by omega) (ls := [some (.ref 41), some (.int (nI 1)), some (.int (nI mk)), some (.int (nI wh)), none, none, none]) rfl (fun d' hd' => ?_)
          refine am_run 2 (pc' := 2) (ls' := [some (.ref 41), some (.int (nI 1)), some (.int (nI mk)), some (.int (nI wh)), none, none, none]) (st' := [.int (nI 1), .ref 41]) (σ' := σ) rfl ?_
          refine am_invv (y := 140) (b := 41) (as := [.int (nI 1)]) (rest := []) rfl rfl rfl rfl rfl rfl rfl (Nat.le_of_ble_eq_true rfl) ?_
          refine c_filled1_1 (by omega) hf ?_
          show am_G _ M_X9_soon _ 5 [some (.ref 41), some (.int (nI 1)), some (.int (nI mk)), some (.int (nI wh)), none, none, none] [.ref 75] σ
          refine am_run 4 (pc' := 16) (ls' := [some (.ref 41), some (.int (nI 1)), some (.int (nI mk)), some (.int (nI wh)), some (.ref 75), none, none]) (st' := [.int (nI mk)]) (σ' := σ) rfl ?_
          refine am_invs (y := 142) (as := [.int (nI mk)]) (rest := []) rfl rfl rfl rfl rfl rfl (Nat.le_of_ble_eq_true rfl) ?_
          refine c_mask1_class (by omega) hmk hmv ?_
          show am_G _ M_X9_soon _ 19 [some (.ref 41), some (.int (nI 1)), some (.int (nI mk)), some (.int (nI wh)), some (.ref 75), none, none] [.int (nI 1)] σ
          refine am_if (ty := 46) (tn := 22) rfl (by decide) rfl rfl (fun (h_1 : nI 1 = 0) => ?_) (fun (h_1 : ¬ (nI 1 = 0)) => ?_)
          · exact absurd h_1 (by decide)
          refine am_run 1 (pc' := 23) (ls' := [some (.ref 41), some (.int (nI 1)), some (.int (nI mk)), some (.int (nI wh)), some (.ref 75), none, none]) (st' := [.int (nI wh)]) (σ' := σ) rfl ?_
          refine am_if (ty := 46) (tn := 26) rfl (by decide) rfl rfl (fun (h_2 : nI wh < 0) => ?_) (fun (h_2 : ¬ (nI wh < 0)) => ?_)
          · have h_2 : wh < 0 := (am_nlt0 (by omega)).mp h_2
            exact absurd h_2 (Nat.not_lt_zero _)
          have h_2 : ¬ (wh < 0) := fun z => h_2 ((am_nlt0 (by omega)).mpr z)
          refine am_run 2 (pc' := 29) (ls' := [some (.ref 41), some (.int (nI 1)), some (.int (nI mk)), some (.int (nI wh)), some (.ref 75), none, none]) (st' := [.int (nI 9), .int (nI wh)]) (σ' := σ) rfl ?_
          refine am_ic (ty := 46) (tn := 32) rfl (by decide) rfl rfl (fun (h_3 : nI 9 < nI wh) => ?_) (fun (h_3 : ¬ (nI 9 < nI wh)) => ?_)
          · have h_3 : 9 < wh := (nI_ltI (by omega) (by omega)).mp h_3
            omega
          have h_3 : ¬ (9 < wh) := fun z => h_3 ((nI_ltI (by omega) (by omega)).mpr z)
          refine am_run 2 (pc' := 35) (ls' := [some (.ref 41), some (.int (nI 1)), some (.int (nI mk)), some (.int (nI wh)), some (.ref 75), none, none]) (st' := [.int (nI 8), .int (nI wh)]) (σ' := σ) rfl ?_
          refine am_ic (ty := 38) (tn := 49) rfl (by decide) rfl rfl (fun (h_4 : nI wh < nI 8) => ?_) (fun (h_4 : ¬ (nI wh < nI 8)) => ?_)
          · have h_4 : wh < 8 := (nI_ltI (by omega) (by omega)).mp h_4
            omega
          have h_4 : ¬ (wh < 8) := fun z => h_4 ((nI_ltI (by omega) (by omega)).mpr z)
          refine am_run 4 (pc' := 57) (ls' := [some (.ref 41), some (.int (nI 1)), some (.int (nI mk)), some (.int (nI wh)), some (.ref 75), none, none]) (st' := [.ref 75, .int (nI 100), .ref 79]) (σ' := σ) rfl ?_
          refine am_invv (y := 67) (b := 75) (as := []) (rest := [.int (nI 100), .ref 79]) rfl rfl rfl rfl rfl rfl rfl (Nat.le_of_ble_eq_true rfl) ?_
          refine am_enter' rfl rfl rfl (by omega) (ls := [some (.ref 75)]) rfl (fun d_5 hd_5 => ?_)
          refine am_run 2 (pc' := 4) (ls' := [some (.ref 75)]) (st' := [.int (σ.1 75 3)]) (σ' := σ) rfl ?_
          refine am_top (v' := nI s) a3 ?_
          refine am_reti rfl rfl ?_
          show am_G _ M_X9_soon _ 60 [some (.ref 41), some (.int (nI 1)), some (.int (nI mk)), some (.int (nI wh)), some (.ref 75), none, none] [.int (nI s), .int (nI 100), .ref 79] σ
          refine am_run 1 (pc' := 61) (ls' := [some (.ref 41), some (.int (nI 1)), some (.int (nI mk)), some (.int (nI wh)), some (.ref 75), none, none]) (st' := [.int (nI 0), .int (nI s), .int (nI 100), .ref 79]) (σ' := σ) rfl ?_
          refine am_invv (y := 73) (b := 79) (as := [.int (nI 100), .int (nI s), .int (nI 0)]) (rest := []) rfl rfl rfl rfl rfl rfl rfl (Nat.le_of_ble_eq_true rfl) ?_
          refine c_rbegin (by omega) (lim := 100) (by decide) hs (b := 0) (by decide) (fun σ1 g1 g2 hT1 => ?_)
          rw [up1_z] at hT1
          show am_G _ M_X9_soon _ 64 [some (.ref 41), some (.int (nI 1)), some (.int (nI mk)), some (.int (nI wh)), some (.ref 75), none, none] [] σ1
          refine am_run 2 (pc' := 67) (ls' := [some (.ref 41), some (.int (nI 1)), some (.int (nI mk)), some (.int (nI wh)), some (.ref 75), some (.int (nI 0)), none]) (st' := []) (σ' := σ1) rfl ?_
          have hVA1 : VA p r 1 (up1 z0 0 s) := fun k hk => by rw [show k = 0 by omega, up1_s]; exact hv
          have hVo := fun s u (hu : u < 256) => oc_vs hM s hu
          refine c_soon_out1 (by omega) hW hR hrn hro hmk hmv hwh hVo 100 0 _ 1 _ _ _ rfl ((KX.rf σ).by g1 g2) hT1 hVA1 (fun σ5 hK5 => ⟨rfl, ?_⟩)
          have hM5 := hM.keep2 (σ' := σ5) (fun c a => hK5.1 c (by omega))
          have hn25 := hM5.1.2.2.2.1
          have b35 : σ5.1 17 1 = nI s := by rw [hK5.1 17 (by decide)]; exact b3
          refine am_enter' (M := M_X10_soon) rfl rfl rfl (by omega) (ls := [some (.ref 0), some (.int (nI 1)), some (.int (nI mk)), some (.int (nI wh)), none, none, none, none, none, none]) rfl (fun d2 hd2 => ?_)
          refine am_run 2 (pc' := 2) (ls' := [some (.ref 0), some (.int (nI 1)), some (.int (nI mk)), some (.int (nI wh)), none, none, none, none, none, none]) (st' := [.int (nI 1), .ref 0]) (σ' := σ5) rfl ?_
          refine am_invv (y := 151) (b := 0) (as := [.int (nI 1)]) (rest := []) rfl rfl rfl rfl rfl rfl rfl (Nat.le_of_ble_eq_true rfl) ?_
          refine c_prog1_1 (by omega) (n := n) (by exact hn25) hn1 hn60 ?_
          show am_G _ M_X10_soon _ 5 [some (.ref 0), some (.int (nI 1)), some (.int (nI mk)), some (.int (nI wh)), none, none, none, none, none, none] [.int (nI 1)] σ5
          refine am_if (ty := 8) (tn := 11) rfl (by decide) rfl rfl (fun (h_101 : nI 1 = 0) => ?_) (fun (h_101 : ¬ (nI 1 = 0)) => ?_)
          · exact absurd h_101 (by decide)
          refine am_run 1 (pc' := 12) (ls' := [some (.ref 0), some (.int (nI 1)), some (.int (nI mk)), some (.int (nI wh)), none, none, none, none, none, none]) (st' := [.int (nI mk)]) (σ' := σ5) rfl ?_
          refine am_invs (y := 240) (as := [.int (nI mk)]) (rest := []) rfl rfl rfl rfl rfl rfl (Nat.le_of_ble_eq_true rfl) ?_
          refine c_mask1_model (by omega) hmk hmv ?_
          show am_G _ M_X10_soon _ 15 [some (.ref 0), some (.int (nI 1)), some (.int (nI mk)), some (.int (nI wh)), none, none, none, none, none, none] [.int (nI 1)] σ5
          refine am_if (ty := 42) (tn := 18) rfl (by decide) rfl rfl (fun (h_102 : nI 1 = 0) => ?_) (fun (h_102 : ¬ (nI 1 = 0)) => ?_)
          · exact absurd h_102 (by decide)
          refine am_run 3 (pc' := 22) (ls' := [some (.ref 0), some (.int (nI 1)), some (.int (nI mk)), some (.int (nI wh)), none, none, none, none, none, none]) (st' := [.int (nI 9), .int (nI 0), .int (nI wh)]) (σ' := σ5) rfl ?_
          refine am_invs (y := 148) (as := [.int (nI wh), .int (nI 0), .int (nI 9)]) (rest := []) rfl rfl rfl rfl rfl rfl (Nat.le_of_ble_eq_true rfl) ?_
          refine c_in1 (by omega) (by omega) (by omega) (by omega) ?_
          show am_G _ M_X10_soon _ 25 [some (.ref 0), some (.int (nI 1)), some (.int (nI mk)), some (.int (nI wh)), none, none, none, none, none, none] [.int (nI 1)] σ5
          refine am_if (ty := 42) (tn := 28) rfl (by decide) rfl rfl (fun (h_103 : nI 1 = 0) => ?_) (fun (h_103 : ¬ (nI 1 = 0)) => ?_)
          · exact absurd h_103 (by decide)
          refine am_run 2 (pc' := 31) (ls' := [some (.ref 0), some (.int (nI 1)), some (.int (nI mk)), some (.int (nI wh)), none, none, none, none, none, none]) (st' := [.int (nI 8), .int (nI wh)]) (σ' := σ5) rfl ?_
          refine am_ic (ty := 34) (tn := 45) rfl (by decide) rfl rfl (fun (h_104 : nI wh < nI 8) => ?_) (fun (h_104 : ¬ (nI wh < nI 8)) => ?_)
          · have h_104 : wh < 8 := (nI_ltI (by omega) (by omega)).mp h_104
            omega
          have h_104 : ¬ (wh < 8) := fun z => h_104 ((nI_ltI (by omega) (by omega)).mpr z)
          refine am_run 2 (pc' := 47) (ls' := [some (.ref 0), some (.int (nI 1)), some (.int (nI mk)), some (.int (nI wh)), none, none, none, none, none, none]) (st' := [.int (nI mk), .int (nI 1)]) (σ' := σ5) rfl ?_
          refine am_invs (y := 150) (as := [.int (nI mk)]) (rest := [.int (nI 1)]) rfl rfl rfl rfl rfl rfl (Nat.le_of_ble_eq_true rfl) ?_
          refine c_ones (by omega) (by omega) ?_
          show am_G _ M_X10_soon _ 50 [some (.ref 0), some (.int (nI 1)), some (.int (nI mk)), some (.int (nI wh)), none, none, none, none, none, none] [.int (nI (pcn mk 21)), .int (nI 1)] σ5
          refine am_run 1 (pc' := 51) (ls' := [some (.ref 0), some (.int (nI 1)), some (.int (nI mk)), some (.int (nI wh)), none, none, none, none, none, none]) (st' := [.int ((nI 1) <<< ((nI (pcn mk 21)) &&& 31))]) (σ' := σ5) rfl ?_
          refine am_top (v' := nI (2 ^ pcn mk 21)) (by rw [nx_shl _ (by omega), Nat.one_mul]) ?_
          refine am_run 8 (pc' := 64) (ls' := [some (.ref 0), some (.int (nI 1)), some (.int (nI mk)), some (.int (nI wh)), some (.int (nI (2 ^ pcn mk 21))), none, none, none, none, none]) (st' := [.int (nI 1), .ref 17, .ref 0]) (σ' := (am_wr σ5 0 49 (nI 0))) rfl ?_
          refine am_ialdN (n := 2) (v := nI s) rfl rfl rfl (by omega) b35 (by decide) ?_
          refine am_run 1 (pc' := 66) (ls' := [some (.ref 0), some (.int (nI 1)), some (.int (nI mk)), some (.int (nI wh)), some (.int (nI (2 ^ pcn mk 21))), none, none, none, none, none]) (st' := [.int (nI 0), .int (nI s), .ref 0]) (σ' := (am_wr σ5 0 49 (nI 0))) rfl ?_
          refine am_invv (y := 242) (b := 0) (as := [.int (nI s), .int (nI 0)]) (rest := []) rfl rfl rfl rfl rfl rfl rfl (Nat.le_of_ble_eq_true rfl) ?_
          have hT6 : TM (am_wr σ5 0 49 (nI 0)) 0 z0 z0 := ⟨by decide, rfl, fun k z => absurd z (Nat.not_lt_zero _)⟩
          refine c_numberOf (by omega) hT6 hs (fun z => absurd z (Nat.not_lt_zero _)) (fun _ => ?_)
          have hT7 := hT6.add (by decide) hs (Nat.le_refl 0)
          rw [up1_z] at hT7
          show am_G _ M_X10_soon _ 69 [some (.ref 0), some (.int (nI 1)), some (.int (nI mk)), some (.int (nI wh)), some (.int (nI (2 ^ pcn mk 21))), none, none, none, none, none] [.int (nI 0)] (am_wr (am_wr (am_wr (am_wr σ5 0 49 (nI 0)) 32 0 (nI s)) 33 0 (nI 0)) 0 49 (nI (0 + 1)))
          refine am_run 3 (pc' := 75) (ls' := [some (.ref 0), some (.int (nI 1)), some (.int (nI mk)), some (.int (nI wh)), some (.int (nI (2 ^ pcn mk 21))), some (.int (nI 0)), some (.int (nI 0)), none, none, none]) (st' := []) (σ' := (am_wr (am_wr (am_wr (am_wr σ5 0 49 (nI 0)) 32 0 (nI s)) 33 0 (nI 0)) 0 49 (nI (0 + 1)))) rfl ?_
          exact c_msoon_out (by omega) hM5 hmk hmv hwh 100 0 _ 1 (up1 z0 0 s) z0 _ _ _ rfl (((((KY.rf σ5).w0 (by decide) _).wr (by decide) _ _).wr (by decide) _ _).w0 (by decide) _) hT7 hVA1 (fun σ7 hK7 => ⟨rfl, (hK5.KI.tr hK7.KI).inv hI⟩)
      · rcases id hz with hzn | ⟨hz0, hzb⟩
        · skip
          refine ⟨-1000002, ?_⟩
          refine am_enter' (M := M_X9_soon) rfl rfl rfl (by omega) (ls := [some (.ref 41), some (.int (nI 1)), some (.int (nI mk)), some (.int z), none, none, none]) rfl (fun d' hd' => ?_)
          refine am_run 2 (pc' := 2) (ls' := [some (.ref 41), some (.int (nI 1)), some (.int (nI mk)), some (.int z), none, none, none]) (st' := [.int (nI 1), .ref 41]) (σ' := σ) rfl ?_
          refine am_invv (y := 140) (b := 41) (as := [.int (nI 1)]) (rest := []) rfl rfl rfl rfl rfl rfl rfl (Nat.le_of_ble_eq_true rfl) ?_
          refine c_filled1_1 (by omega) hf ?_
          show am_G _ M_X9_soon _ 5 [some (.ref 41), some (.int (nI 1)), some (.int (nI mk)), some (.int z), none, none, none] [.ref 75] σ
          refine am_run 4 (pc' := 16) (ls' := [some (.ref 41), some (.int (nI 1)), some (.int (nI mk)), some (.int z), some (.ref 75), none, none]) (st' := [.int (nI mk)]) (σ' := σ) rfl ?_
          refine am_invs (y := 142) (as := [.int (nI mk)]) (rest := []) rfl rfl rfl rfl rfl rfl (Nat.le_of_ble_eq_true rfl) ?_
          refine c_mask1_class (by omega) hmk hmv ?_
          show am_G _ M_X9_soon _ 19 [some (.ref 41), some (.int (nI 1)), some (.int (nI mk)), some (.int z), some (.ref 75), none, none] [.int (nI 1)] σ
          refine am_if (ty := 46) (tn := 22) rfl (by decide) rfl rfl (fun (h_1 : nI 1 = 0) => ?_) (fun (h_1 : ¬ (nI 1 = 0)) => ?_)
          · exact absurd h_1 (by decide)
          refine am_run 1 (pc' := 23) (ls' := [some (.ref 41), some (.int (nI 1)), some (.int (nI mk)), some (.int z), some (.ref 75), none, none]) (st' := [.int z]) (σ' := σ) rfl ?_
          refine am_if (ty := 46) (tn := 26) rfl (by decide) rfl rfl (fun (h_2 : z < 0) => ?_) (fun (h_2 : ¬ (z < 0)) => ?_)
          rotate_left
          · exact absurd hzn h_2
          refine am_run 1 (pc' := 48) (ls' := [some (.ref 41), some (.int (nI 1)), some (.int (nI mk)), some (.int z), some (.ref 75), none, none]) (st' := [.int (-1000002)]) (σ' := σ) rfl ?_
          refine am_reti rfl rfl ?_
          refine ⟨rfl, ?_⟩
          refine am_enter' (M := M_X10_soon) rfl rfl rfl (by omega) (ls := [some (.ref 0), some (.int (nI 1)), some (.int (nI mk)), some (.int z), none, none, none, none, none, none]) rfl (fun d2 hd2 => ?_)
          refine am_run 2 (pc' := 2) (ls' := [some (.ref 0), some (.int (nI 1)), some (.int (nI mk)), some (.int z), none, none, none, none, none, none]) (st' := [.int (nI 1), .ref 0]) (σ' := σ) rfl ?_
          refine am_invv (y := 151) (b := 0) (as := [.int (nI 1)]) (rest := []) rfl rfl rfl rfl rfl rfl rfl (Nat.le_of_ble_eq_true rfl) ?_
          refine c_prog1_1 (by omega) (n := n) (by exact hn2) hn1 hn60 ?_
          show am_G _ M_X10_soon _ 5 [some (.ref 0), some (.int (nI 1)), some (.int (nI mk)), some (.int z), none, none, none, none, none, none] [.int (nI 1)] σ
          refine am_if (ty := 8) (tn := 11) rfl (by decide) rfl rfl (fun (h_101 : nI 1 = 0) => ?_) (fun (h_101 : ¬ (nI 1 = 0)) => ?_)
          · exact absurd h_101 (by decide)
          refine am_run 1 (pc' := 12) (ls' := [some (.ref 0), some (.int (nI 1)), some (.int (nI mk)), some (.int z), none, none, none, none, none, none]) (st' := [.int (nI mk)]) (σ' := σ) rfl ?_
          refine am_invs (y := 240) (as := [.int (nI mk)]) (rest := []) rfl rfl rfl rfl rfl rfl (Nat.le_of_ble_eq_true rfl) ?_
          refine c_mask1_model (by omega) hmk hmv ?_
          show am_G _ M_X10_soon _ 15 [some (.ref 0), some (.int (nI 1)), some (.int (nI mk)), some (.int z), none, none, none, none, none, none] [.int (nI 1)] σ
          refine am_if (ty := 42) (tn := 18) rfl (by decide) rfl rfl (fun (h_102 : nI 1 = 0) => ?_) (fun (h_102 : ¬ (nI 1 = 0)) => ?_)
          · exact absurd h_102 (by decide)
          refine am_run 3 (pc' := 22) (ls' := [some (.ref 0), some (.int (nI 1)), some (.int (nI mk)), some (.int z), none, none, none, none, none, none]) (st' := [.int (nI 9), .int (nI 0), .int z]) (σ' := σ) rfl ?_
          refine am_invs (y := 148) (as := [.int z, .int (nI 0), .int (nI 9)]) (rest := []) rfl rfl rfl rfl rfl rfl (Nat.le_of_ble_eq_true rfl) ?_
          refine c_in0 (by omega) hz ?_
          show am_G _ M_X10_soon _ 25 [some (.ref 0), some (.int (nI 1)), some (.int (nI mk)), some (.int z), none, none, none, none, none, none] [.int (nI 0)] σ
          refine am_if (ty := 42) (tn := 28) rfl (by decide) rfl rfl (fun (h_103 : nI 0 = 0) => ?_) (fun (h_103 : ¬ (nI 0 = 0)) => ?_)
          rotate_left
          · exact absurd (by decide) h_103
          refine am_run 1 (pc' := 44) (ls' := [some (.ref 0), some (.int (nI 1)), some (.int (nI mk)), some (.int z), none, none, none, none, none, none]) (st' := [.int (-1000002)]) (σ' := σ) rfl ?_
          refine am_reti rfl rfl ?_
          exact ⟨rfl, hI⟩
        · skip
          refine ⟨-1000002, ?_⟩
          refine am_enter' (M := M_X9_soon) rfl rfl rfl (by omega) (ls := [some (.ref 41), some (.int (nI 1)), some (.int (nI mk)), some (.int z), none, none, none]) rfl (fun d' hd' => ?_)
          refine am_run 2 (pc' := 2) (ls' := [some (.ref 41), some (.int (nI 1)), some (.int (nI mk)), some (.int z), none, none, none]) (st' := [.int (nI 1), .ref 41]) (σ' := σ) rfl ?_
          refine am_invv (y := 140) (b := 41) (as := [.int (nI 1)]) (rest := []) rfl rfl rfl rfl rfl rfl rfl (Nat.le_of_ble_eq_true rfl) ?_
          refine c_filled1_1 (by omega) hf ?_
          show am_G _ M_X9_soon _ 5 [some (.ref 41), some (.int (nI 1)), some (.int (nI mk)), some (.int z), none, none, none] [.ref 75] σ
          refine am_run 4 (pc' := 16) (ls' := [some (.ref 41), some (.int (nI 1)), some (.int (nI mk)), some (.int z), some (.ref 75), none, none]) (st' := [.int (nI mk)]) (σ' := σ) rfl ?_
          refine am_invs (y := 142) (as := [.int (nI mk)]) (rest := []) rfl rfl rfl rfl rfl rfl (Nat.le_of_ble_eq_true rfl) ?_
          refine c_mask1_class (by omega) hmk hmv ?_
          show am_G _ M_X9_soon _ 19 [some (.ref 41), some (.int (nI 1)), some (.int (nI mk)), some (.int z), some (.ref 75), none, none] [.int (nI 1)] σ
          refine am_if (ty := 46) (tn := 22) rfl (by decide) rfl rfl (fun (h_1 : nI 1 = 0) => ?_) (fun (h_1 : ¬ (nI 1 = 0)) => ?_)
          · exact absurd h_1 (by decide)
          refine am_run 1 (pc' := 23) (ls' := [some (.ref 41), some (.int (nI 1)), some (.int (nI mk)), some (.int z), some (.ref 75), none, none]) (st' := [.int z]) (σ' := σ) rfl ?_
          refine am_if (ty := 46) (tn := 26) rfl (by decide) rfl rfl (fun (h_2 : z < 0) => ?_) (fun (h_2 : ¬ (z < 0)) => ?_)
          · exact absurd h_2 hz0
          refine am_run 2 (pc' := 29) (ls' := [some (.ref 41), some (.int (nI 1)), some (.int (nI mk)), some (.int z), some (.ref 75), none, none]) (st' := [.int (nI 9), .int z]) (σ' := σ) rfl ?_
          refine am_ic (ty := 46) (tn := 32) rfl (by decide) rfl rfl (fun (h_3 : nI 9 < z) => ?_) (fun (h_3 : ¬ (nI 9 < z)) => ?_)
          rotate_left
          · exact absurd hzb h_3
          refine am_run 1 (pc' := 48) (ls' := [some (.ref 41), some (.int (nI 1)), some (.int (nI mk)), some (.int z), some (.ref 75), none, none]) (st' := [.int (-1000002)]) (σ' := σ) rfl ?_
          refine am_reti rfl rfl ?_
          refine ⟨rfl, ?_⟩
          refine am_enter' (M := M_X10_soon) rfl rfl rfl (by omega) (ls := [some (.ref 0), some (.int (nI 1)), some (.int (nI mk)), some (.int z), none, none, none, none, none, none]) rfl (fun d2 hd2 => ?_)
          refine am_run 2 (pc' := 2) (ls' := [some (.ref 0), some (.int (nI 1)), some (.int (nI mk)), some (.int z), none, none, none, none, none, none]) (st' := [.int (nI 1), .ref 0]) (σ' := σ) rfl ?_
          refine am_invv (y := 151) (b := 0) (as := [.int (nI 1)]) (rest := []) rfl rfl rfl rfl rfl rfl rfl (Nat.le_of_ble_eq_true rfl) ?_
          refine c_prog1_1 (by omega) (n := n) (by exact hn2) hn1 hn60 ?_
          show am_G _ M_X10_soon _ 5 [some (.ref 0), some (.int (nI 1)), some (.int (nI mk)), some (.int z), none, none, none, none, none, none] [.int (nI 1)] σ
          refine am_if (ty := 8) (tn := 11) rfl (by decide) rfl rfl (fun (h_101 : nI 1 = 0) => ?_) (fun (h_101 : ¬ (nI 1 = 0)) => ?_)
          · exact absurd h_101 (by decide)
          refine am_run 1 (pc' := 12) (ls' := [some (.ref 0), some (.int (nI 1)), some (.int (nI mk)), some (.int z), none, none, none, none, none, none]) (st' := [.int (nI mk)]) (σ' := σ) rfl ?_
          refine am_invs (y := 240) (as := [.int (nI mk)]) (rest := []) rfl rfl rfl rfl rfl rfl (Nat.le_of_ble_eq_true rfl) ?_
          refine c_mask1_model (by omega) hmk hmv ?_
          show am_G _ M_X10_soon _ 15 [some (.ref 0), some (.int (nI 1)), some (.int (nI mk)), some (.int z), none, none, none, none, none, none] [.int (nI 1)] σ
          refine am_if (ty := 42) (tn := 18) rfl (by decide) rfl rfl (fun (h_102 : nI 1 = 0) => ?_) (fun (h_102 : ¬ (nI 1 = 0)) => ?_)
          · exact absurd h_102 (by decide)
          refine am_run 3 (pc' := 22) (ls' := [some (.ref 0), some (.int (nI 1)), some (.int (nI mk)), some (.int z), none, none, none, none, none, none]) (st' := [.int (nI 9), .int (nI 0), .int z]) (σ' := σ) rfl ?_
          refine am_invs (y := 148) (as := [.int z, .int (nI 0), .int (nI 9)]) (rest := []) rfl rfl rfl rfl rfl rfl (Nat.le_of_ble_eq_true rfl) ?_
          refine c_in0 (by omega) hz ?_
          show am_G _ M_X10_soon _ 25 [some (.ref 0), some (.int (nI 1)), some (.int (nI mk)), some (.int z), none, none, none, none, none, none] [.int (nI 0)] σ
          refine am_if (ty := 42) (tn := 28) rfl (by decide) rfl rfl (fun (h_103 : nI 0 = 0) => ?_) (fun (h_103 : ¬ (nI 0 = 0)) => ?_)
          rotate_left
          · exact absurd (by decide) h_103
          refine am_run 1 (pc' := 44) (ls' := [some (.ref 0), some (.int (nI 1)), some (.int (nI mk)), some (.int z), none, none, none, none, none, none]) (st' := [.int (-1000002)]) (σ' := σ) rfl ?_
          refine am_reti rfl rfl ?_
          exact ⟨rfl, hI⟩
    · skip
      refine ⟨-1000002, ?_⟩
      refine am_enter' (M := M_X9_soon) rfl rfl rfl (by omega) (ls := [some (.ref 41), some (.int (nI 1)), some (.int y), some (.int z), none, none, none]) rfl (fun d' hd' => ?_)
      refine am_run 2 (pc' := 2) (ls' := [some (.ref 41), some (.int (nI 1)), some (.int y), some (.int z), none, none, none]) (st' := [.int (nI 1), .ref 41]) (σ' := σ) rfl ?_
      refine am_invv (y := 140) (b := 41) (as := [.int (nI 1)]) (rest := []) rfl rfl rfl rfl rfl rfl rfl (Nat.le_of_ble_eq_true rfl) ?_
      refine c_filled1_1 (by omega) hf ?_
      show am_G _ M_X9_soon _ 5 [some (.ref 41), some (.int (nI 1)), some (.int y), some (.int z), none, none, none] [.ref 75] σ
      refine am_run 4 (pc' := 16) (ls' := [some (.ref 41), some (.int (nI 1)), some (.int y), some (.int z), some (.ref 75), none, none]) (st' := [.int y]) (σ' := σ) rfl ?_
      refine am_invs (y := 142) (as := [.int y]) (rest := []) rfl rfl rfl rfl rfl rfl (Nat.le_of_ble_eq_true rfl) ?_
      refine c_mask0_class (by omega) hNM ?_
      show am_G _ M_X9_soon _ 19 [some (.ref 41), some (.int (nI 1)), some (.int y), some (.int z), some (.ref 75), none, none] [.int (nI 0)] σ
      refine am_if (ty := 46) (tn := 22) rfl (by decide) rfl rfl (fun (h_1 : nI 0 = 0) => ?_) (fun (h_1 : ¬ (nI 0 = 0)) => ?_)
      rotate_left
      · exact absurd (by decide) h_1
      refine am_run 1 (pc' := 48) (ls' := [some (.ref 41), some (.int (nI 1)), some (.int y), some (.int z), some (.ref 75), none, none]) (st' := [.int (-1000002)]) (σ' := σ) rfl ?_
      refine am_reti rfl rfl ?_
      refine ⟨rfl, ?_⟩
      refine am_enter' (M := M_X10_soon) rfl rfl rfl (by omega) (ls := [some (.ref 0), some (.int (nI 1)), some (.int y), some (.int z), none, none, none, none, none, none]) rfl (fun d2 hd2 => ?_)
      refine am_run 2 (pc' := 2) (ls' := [some (.ref 0), some (.int (nI 1)), some (.int y), some (.int z), none, none, none, none, none, none]) (st' := [.int (nI 1), .ref 0]) (σ' := σ) rfl ?_
      refine am_invv (y := 151) (b := 0) (as := [.int (nI 1)]) (rest := []) rfl rfl rfl rfl rfl rfl rfl (Nat.le_of_ble_eq_true rfl) ?_
      refine c_prog1_1 (by omega) (n := n) (by exact hn2) hn1 hn60 ?_
      show am_G _ M_X10_soon _ 5 [some (.ref 0), some (.int (nI 1)), some (.int y), some (.int z), none, none, none, none, none, none] [.int (nI 1)] σ
      refine am_if (ty := 8) (tn := 11) rfl (by decide) rfl rfl (fun (h_101 : nI 1 = 0) => ?_) (fun (h_101 : ¬ (nI 1 = 0)) => ?_)
      · exact absurd h_101 (by decide)
      refine am_run 1 (pc' := 12) (ls' := [some (.ref 0), some (.int (nI 1)), some (.int y), some (.int z), none, none, none, none, none, none]) (st' := [.int y]) (σ' := σ) rfl ?_
      refine am_invs (y := 240) (as := [.int y]) (rest := []) rfl rfl rfl rfl rfl rfl (Nat.le_of_ble_eq_true rfl) ?_
      refine c_mask0_model (by omega) hNM ?_
      show am_G _ M_X10_soon _ 15 [some (.ref 0), some (.int (nI 1)), some (.int y), some (.int z), none, none, none, none, none, none] [.int (nI 0)] σ
      refine am_if (ty := 42) (tn := 18) rfl (by decide) rfl rfl (fun (h_102 : nI 0 = 0) => ?_) (fun (h_102 : ¬ (nI 0 = 0)) => ?_)
      rotate_left
      · exact absurd (by decide) h_102
      refine am_run 1 (pc' := 44) (ls' := [some (.ref 0), some (.int (nI 1)), some (.int y), some (.int z), none, none, none, none, none, none]) (st' := [.int (-1000002)]) (σ' := σ) rfl ?_
      refine am_reti rfl rfl ?_
      exact ⟨rfl, hI⟩

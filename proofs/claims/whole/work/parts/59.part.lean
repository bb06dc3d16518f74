set_option maxRecDepth 10000 in
set_option maxHeartbeats 2000000 in
theorem c_mpart_in {d : Nat} (hd : 20 ≤ d) {σ0 : am_M} {n r n' r' mk k : Nat} {p p' : Pg} {rk od dp rk' od' dp' : Nat → Nat} {ow ow' : Nat → Nat → Nat} (hM : MI σ0 0 p n r rk od dp ow) (hM' : MI σ0 1 p' n' r' rk' od' dp' ow') (hmk : mk < 256) (hmv : mkv mk) {Q : am_Q} : ∀ (m i : Nat) (σ' : am_M) (c : Nat) (f g h : Nat → Nat) (v5 v6 v7 v8 : Option Value), i + m = 2 ^ pcn mk 21 → KY σ0 σ' → TP σ' c f g h → k < c → VA p r c f → VA p' r' c g → (∀ σ'', KY σ0 σ'' → (pa_in p (r + 1) p' (r' + 1) mk m i k c f g h).1 ≠ none → Q (some (.int ((pa_in p (r + 1) p' (r' + 1) mk m i k c f g h).1.getD 0))) σ'') → (∀ σ'' v4 v5 v6 v7 v8, KY σ0 σ'' → (pa_in p (r + 1) p' (r' + 1) mk m i k c f g h).1 = none → TP σ'' (pa_in p (r + 1) p' (r' + 1) mk m i k c f g h).2.1 (pa_in p (r + 1) p' (r' + 1) mk m i k c f g h).2.2.1 (pa_in p (r + 1) p' (r' + 1) mk m i k c f g h).2.2.2.1 (pa_in p (r + 1) p' (r' + 1) mk m i k c f g h).2.2.2.2 → VA p r (pa_in p (r + 1) p' (r' + 1) mk m i k c f g h).2.1 (pa_in p (r + 1) p' (r' + 1) mk m i k c f g h).2.2.1 → VA p' r' (pa_in p (r + 1) p' (r' + 1) mk m i k c f g h).2.1 (pa_in p (r + 1) p' (r' + 1) mk m i k c f g h).2.2.2.1 → am_G d M_X10_part Q 191 [some (.ref 0), some (.int (nI mk)), some (.int (nI (2 ^ pcn mk 21))), some (.int (nI k)), v4, v5, v6, v7, v8] [] σ'') → am_G d M_X10_part Q 63 [some (.ref 0), some (.int (nI mk)), some (.int (nI (2 ^ pcn mk 21))), some (.int (nI k)), some (.int (nI i)), v5, v6, v7, v8] [] σ'
  | 0, i, σ', c, f, g, h, v5, v6, v7, v8, hm, hK, hT, hkc, hVA, hVB, hA, hN => by
    have h8 := ((mk_f mk hmk).2 hmv.2).1
    have e : i = 2 ^ pcn mk 21 := by omega
    refine am_run 2 (pc' := 66) (ls' := [some (.ref 0), some (.int (nI mk)), some (.int (nI (2 ^ pcn mk 21))), some (.int (nI k)), some (.int (nI i)), v5, v6, v7, v8]) (st' := [.int (nI (2 ^ pcn mk 21)), .int (nI i)]) (σ' := σ') rfl ?_
    refine am_ic (ty := 69) (tn := 191) rfl (by decide) rfl rfl (fun (h_1 : nI i < nI (2 ^ pcn mk 21)) => ?_) (fun (h_1 : ¬ (nI i < nI (2 ^ pcn mk 21))) => ?_)
    · have h_1 : i < 2 ^ pcn mk 21 := (nI_ltI (by omega) (by omega)).mp h_1
      omega
    have h_1 : ¬ (i < 2 ^ pcn mk 21) := fun z => h_1 ((nI_ltI (by omega) (by omega)).mpr z)
    exact hN σ' _ _ _ _ _ hK rfl hT hVA hVB
  | m + 1, i, σ', c, f, g, h, v5, v6, v7, v8, hm, hK, hT, hkc, hVA, hVB, hA, hN => by
    have h8 := ((mk_f mk hmk).2 hmv.2).1
    have hW := hM.1.2.1
    have hrn : r < n := hM.2.1.2.1
    have hV := fun s u (hu : u < 256) => oc_vs hM s hu
    have hW' := hM'.1.2.1
    have hrn' : r' < n' := hM'.2.1.2.1
    have hV' := fun s u (hu : u < 256) => oc_vs hM' s hu
    obtain ⟨t1, t3, t5⟩ := id hT
    obtain ⟨f1, f2, f3, f4, f5, f6⟩ := t5 k hkc
    obtain ⟨b1, b2, b3_, b4_, b5_, b6_⟩ := oc_b (s := f k) hW (show r + 1 ≤ n by omega) (pt_lt mk i)
    have hnv := hV (f k) (pt mk i) (pt_lt mk i)
    generalize hz : oc p (r + 1) (f k) (pt mk i) = z0_ at b1 b2 b3_ b4_ b5_ b6_ hnv 
    obtain ⟨P, A, w, c1, nx, rd⟩ := z0_
    have b1 : P < 256 := b1
    have b2 : A < 256 := b2
    have b3_ : w ≤ 256 := b3_
    have b4_ : c1 ≤ 6 := b4_
    have b5_ : nx < 1048576 := b5_
    have b6_ : rd ≤ 9 := b6_
    have hnv : VS p r nx := hnv
    obtain ⟨b1', b2', b3', b4', b5', b6'⟩ := oc_b (s := g k) hW' (show r' + 1 ≤ n' by omega) (pt_lt mk i)
    have hnv' := hV' (g k) (pt mk i) (pt_lt mk i)
    generalize hz' : oc p' (r' + 1) (g k) (pt mk i) = z0' at b1' b2' b3' b4' b5' b6' hnv'
    obtain ⟨P', A', w', c1', nx', rd'⟩ := z0'
    have b1' : P' < 256 := b1'
    have b2' : A' < 256 := b2'
    have b3' : w' ≤ 256 := b3'
    have b5' : nx' < 1048576 := b5'
    have hnv' : VS p' r' nx' := hnv'
    by_cases hw0 : w = 0
    · subst hw0
      by_cases hw0' : w' = 0
      · subst hw0'
        by_cases hPP : P = P'
        · have hsh : dif 0 P 0 P' = false := by unfold dif; simp [*]
          have hfl := fnd_le f g nx nx' c
          by_cases hfn : fnd f g nx nx' c < c
          · skip
            refine am_run 2 (pc' := 66) (ls' := [some (.ref 0), some (.int (nI mk)), some (.int (nI (2 ^ pcn mk 21))), some (.int (nI k)), some (.int (nI i)), v5, v6, v7, v8]) (st' := [.int (nI (2 ^ pcn mk 21)), .int (nI i)]) (σ' := σ') rfl ?_
            refine am_ic (ty := 69) (tn := 191) rfl (by decide) rfl rfl (fun (h_1 : nI i < nI (2 ^ pcn mk 21)) => ?_) (fun (h_1 : ¬ (nI i < nI (2 ^ pcn mk 21))) => ?_)
            rotate_left
            · have h_1 : ¬ (i < 2 ^ pcn mk 21) := fun z => h_1 ((nI_ltI (by omega) (by omega)).mpr z)
              omega
            have h_1 : i < 2 ^ pcn mk 21 := (nI_ltI (by omega) (by omega)).mp h_1
            refine am_run 5 (pc' := 76) (ls' := [some (.ref 0), some (.int (nI mk)), some (.int (nI (2 ^ pcn mk 21))), some (.int (nI k)), some (.int (nI i)), v5, v6, v7, v8]) (st' := [.int (nI k), .ref 38, .int (nI 0), .ref 0]) (σ' := σ') rfl ?_
            refine am_ialdN (n := 201) (v := nI (f k)) rfl rfl rfl (by omega) f1 (by decide) ?_
            refine am_run 2 (pc' := 80) (ls' := [some (.ref 0), some (.int (nI mk)), some (.int (nI (2 ^ pcn mk 21))), some (.int (nI k)), some (.int (nI i)), v5, v6, v7, v8]) (st' := [.int (nI i), .int (nI mk), .int (nI (f k)), .int (nI 0), .ref 0]) (σ' := σ') rfl ?_
            refine am_invs (y := 241) (as := [.int (nI mk), .int (nI i)]) (rest := [.int (nI (f k)), .int (nI 0), .ref 0]) rfl rfl rfl rfl rfl rfl (Nat.le_of_ble_eq_true rfl) ?_
            refine c_partOf (by omega) hmk (by omega) ?_
            show am_G _ M_X10_part _ 83 [some (.ref 0), some (.int (nI mk)), some (.int (nI (2 ^ pcn mk 21))), some (.int (nI k)), some (.int (nI i)), v5, v6, v7, v8] [.int (nI (pt mk i)), .int (nI (f k)), .int (nI 0), .ref 0] σ'
            refine am_invv (y := 229) (b := 0) (as := [.int (nI 0), .int (nI (f k)), .int (nI (pt mk i))]) (rest := []) rfl rfl rfl rfl rfl rfl rfl (Nat.le_of_ble_eq_true rfl) ?_
            refine c_settles1 (by omega) (hK.MI hM) f4 (hVA k hkc).2 (pt_lt mk i) hz (fun σ2 hS2 i38 i39 i40 i41 i42 i43 i44 i29 => ?_)
            have hK2 := hK.ks hS2
            have hT2 := hT.ks hS2
            have g2 := (hT2.2.2 k hkc).2.1
            show am_G _ M_X10_part _ 86 [some (.ref 0), some (.int (nI mk)), some (.int (nI (2 ^ pcn mk 21))), some (.int (nI k)), some (.int (nI i)), v5, v6, v7, v8] [.int (nI 1)] σ2
            refine am_run 3 (pc' := 92) (ls' := [some (.ref 0), some (.int (nI mk)), some (.int (nI (2 ^ pcn mk 21))), some (.int (nI k)), some (.int (nI i)), some (.int (nI 1)), v6, v7, v8]) (st' := [.int (σ2.1 0 42)]) (σ' := σ2) rfl ?_
            refine am_top (v' := nI P) i42 ?_
            refine am_run 3 (pc' := 98) (ls' := [some (.ref 0), some (.int (nI mk)), some (.int (nI (2 ^ pcn mk 21))), some (.int (nI k)), some (.int (nI i)), some (.int (nI 1)), some (.int (nI P)), v7, v8]) (st' := [.int (σ2.1 0 44)]) (σ' := σ2) rfl ?_
            refine am_top (v' := nI nx) i44 ?_
            refine am_run 6 (pc' := 107) (ls' := [some (.ref 0), some (.int (nI mk)), some (.int (nI (2 ^ pcn mk 21))), some (.int (nI k)), some (.int (nI i)), some (.int (nI 1)), some (.int (nI P)), some (.int (nI nx)), v8]) (st' := [.int (nI k), .ref 39, .int (nI 1), .ref 0]) (σ' := σ2) rfl ?_
            refine am_ialdN (n := 201) (v := nI (g k)) rfl rfl rfl (by omega) g2 (by decide) ?_
            refine am_run 2 (pc' := 111) (ls' := [some (.ref 0), some (.int (nI mk)), some (.int (nI (2 ^ pcn mk 21))), some (.int (nI k)), some (.int (nI i)), some (.int (nI 1)), some (.int (nI P)), some (.int (nI nx)), v8]) (st' := [.int (nI i), .int (nI mk), .int (nI (g k)), .int (nI 1), .ref 0]) (σ' := σ2) rfl ?_
            refine am_invs (y := 241) (as := [.int (nI mk), .int (nI i)]) (rest := [.int (nI (g k)), .int (nI 1), .ref 0]) rfl rfl rfl rfl rfl rfl (Nat.le_of_ble_eq_true rfl) ?_
            refine c_partOf (by omega) hmk (by omega) ?_
            show am_G _ M_X10_part _ 114 [some (.ref 0), some (.int (nI mk)), some (.int (nI (2 ^ pcn mk 21))), some (.int (nI k)), some (.int (nI i)), some (.int (nI 1)), some (.int (nI P)), some (.int (nI nx)), v8] [.int (nI (pt mk i)), .int (nI (g k)), .int (nI 1), .ref 0] σ2
            refine am_invv (y := 229) (b := 0) (as := [.int (nI 1), .int (nI (g k)), .int (nI (pt mk i))]) (rest := []) rfl rfl rfl rfl rfl rfl rfl (Nat.le_of_ble_eq_true rfl) ?_
            refine c_settles1 (by omega) (hK2.MI hM') f5 (hVB k hkc).2 (pt_lt mk i) hz' (fun σ3 hS3 j38 j39 j40 j41 j42 j43 j44 j29 => ?_)
            have hK3 := hK2.ks hS3
            have hT3_ := hT2.ks hS3
            have g3 := (hT3_.2.2 k hkc).2.2.1
            have g58 := hT3_.2.1
            show am_G _ M_X10_part _ 117 [some (.ref 0), some (.int (nI mk)), some (.int (nI (2 ^ pcn mk 21))), some (.int (nI k)), some (.int (nI i)), some (.int (nI 1)), some (.int (nI P)), some (.int (nI nx)), v8] [.int (nI 1)] σ3
            refine am_run 3 (pc' := 123) (ls' := [some (.ref 0), some (.int (nI mk)), some (.int (nI (2 ^ pcn mk 21))), some (.int (nI k)), some (.int (nI i)), some (.int (nI 1)), some (.int (nI P)), some (.int (nI nx)), some (.int (nI 1))]) (st' := [.int (nI 1), .int (nI 1)]) (σ' := σ3) rfl ?_
            refine am_ic (ty := 126) (tn := 140) rfl (by decide) rfl rfl (fun (h_2 : nI 1 = nI 1) => ?_) (fun (h_2 : ¬ (nI 1 = nI 1)) => ?_)
            rotate_left
            · exact absurd (by decide) h_2
            refine am_run 1 (pc' := 128) (ls' := [some (.ref 0), some (.int (nI mk)), some (.int (nI (2 ^ pcn mk 21))), some (.int (nI k)), some (.int (nI i)), some (.int (nI 1)), some (.int (nI P)), some (.int (nI nx)), some (.int (nI 1))]) (st' := [.int (nI 1)]) (σ' := σ3) rfl ?_
            refine am_if (ty := 149) (tn := 131) rfl (by decide) rfl rfl (fun (h_3 : nI 1 = 0) => ?_) (fun (h_3 : ¬ (nI 1 = 0)) => ?_)
            · exact absurd h_3 (by decide)
            refine am_run 3 (pc' := 137) (ls' := [some (.ref 0), some (.int (nI mk)), some (.int (nI (2 ^ pcn mk 21))), some (.int (nI k)), some (.int (nI i)), some (.int (nI 1)), some (.int (nI P)), some (.int (nI nx)), some (.int (nI 1))]) (st' := [.int (σ3.1 0 42), .int (nI P)]) (σ' := σ3) rfl ?_
            refine am_top (v' := nI P') j42 ?_
            refine am_ic (ty := 149) (tn := 140) rfl (by decide) rfl rfl (fun (h_4 : nI P = nI P') => ?_) (fun (h_4 : ¬ (nI P = nI P')) => ?_)
            rotate_left
            · have h_4 : ¬ (P = P') := fun z => h_4 ((nI_eq (by omega) (by omega)).mpr z)
              omega
            have h_4 : P = P' := (nI_eq (by omega) (by omega)).mp h_4
            refine am_run 1 (pc' := 151) (ls' := [some (.ref 0), some (.int (nI mk)), some (.int (nI (2 ^ pcn mk 21))), some (.int (nI k)), some (.int (nI i)), some (.int (nI 1)), some (.int (nI P)), some (.int (nI nx)), some (.int (nI 1))]) (st' := [.int (nI 1)]) (σ' := σ3) rfl ?_
            refine am_if (ty := 172) (tn := 154) rfl (by decide) rfl rfl (fun (h_5 : nI 1 = 0) => ?_) (fun (h_5 : ¬ (nI 1 = 0)) => ?_)
            · exact absurd h_5 (by decide)
            refine am_run 4 (pc' := 161) (ls' := [some (.ref 0), some (.int (nI mk)), some (.int (nI (2 ^ pcn mk 21))), some (.int (nI k)), some (.int (nI i)), some (.int (nI 1)), some (.int (nI P)), some (.int (nI nx)), some (.int (nI 1))]) (st' := [.int (σ3.1 0 44), .int (nI nx), .ref 0]) (σ' := σ3) rfl ?_
            refine am_top (v' := nI nx') j44 ?_
            refine am_run 3 (pc' := 166) (ls' := [some (.ref 0), some (.int (nI mk)), some (.int (nI (2 ^ pcn mk 21))), some (.int (nI k)), some (.int (nI i)), some (.int (nI 1)), some (.int (nI P)), some (.int (nI nx)), some (.int (nI 1))]) (st' := [.int (nI k), .ref 40, .int (nI nx'), .int (nI nx), .ref 0]) (σ' := σ3) rfl ?_
            refine am_ialdN (n := 201) (v := nI (h k)) rfl rfl rfl (by omega) g3 (by decide) ?_
            refine am_run 2 (pc' := 169) (ls' := [some (.ref 0), some (.int (nI mk)), some (.int (nI (2 ^ pcn mk 21))), some (.int (nI k)), some (.int (nI i)), some (.int (nI 1)), some (.int (nI P)), some (.int (nI nx)), some (.int (nI 1))]) (st' := [.int (nI (h k) + nI 1), .int (nI nx'), .int (nI nx), .ref 0]) (σ' := σ3) rfl ?_
            refine am_top (v' := nI (h k + 1)) (nI_add _ _) ?_
            refine am_invv (y := 249) (b := 0) (as := [.int (nI nx), .int (nI nx'), .int (nI (h k + 1))]) (rest := []) rfl rfl rfl rfl rfl rfl rfl (Nat.le_of_ble_eq_true rfl) ?_
            refine c_comesPair (by omega) hT3_ (by omega) (by omega) (fun _ => ?_) (fun z => absurd hfn (by omega))
            show am_G _ M_X10_part _ 172 [some (.ref 0), some (.int (nI mk)), some (.int (nI (2 ^ pcn mk 21))), some (.int (nI k)), some (.int (nI i)), some (.int (nI 1)), some (.int (nI P)), some (.int (nI nx)), some (.int (nI 1))] [] σ3
            refine am_run 2 (pc' := 176) (ls' := [some (.ref 0), some (.int (nI mk)), some (.int (nI (2 ^ pcn mk 21))), some (.int (nI k)), some (.int (nI i)), some (.int (nI 1)), some (.int (nI P)), some (.int (nI nx)), some (.int (nI 1))]) (st' := [.int (σ3.1 0 58)]) (σ' := σ3) rfl ?_
            refine am_top (v' := nI c) g58 ?_
            refine am_run 1 (pc' := 179) (ls' := [some (.ref 0), some (.int (nI mk)), some (.int (nI (2 ^ pcn mk 21))), some (.int (nI k)), some (.int (nI i)), some (.int (nI 1)), some (.int (nI P)), some (.int (nI nx)), some (.int (nI 1))]) (st' := [.int (nI 200), .int (nI c)]) (σ' := σ3) rfl ?_
            refine am_ic (ty := 182) (tn := 185) rfl (by decide) rfl rfl (fun (h_6 : nI 200 < nI c) => ?_) (fun (h_6 : ¬ (nI 200 < nI c)) => ?_)
            · have h_6 : 200 < c := (nI_ltI (by omega) (by omega)).mp h_6
              omega
            have h_6 : ¬ (200 < c) := fun z => h_6 ((nI_ltI (by omega) (by omega)).mpr z)
            refine am_run 1 (pc' := 188) (ls' := [some (.ref 0), some (.int (nI mk)), some (.int (nI (2 ^ pcn mk 21))), some (.int (nI k)), some (.int (nI i + nI 1)), some (.int (nI 1)), some (.int (nI P)), some (.int (nI nx)), some (.int (nI 1))]) (st' := []) (σ' := σ3) rfl ?_
            refine am_ls (ls' := [some (.ref 0), some (.int (nI mk)), some (.int (nI (2 ^ pcn mk 21))), some (.int (nI k)), some (.int (nI (i + 1))), some (.int (nI 1)), some (.int (nI P)), some (.int (nI nx)), some (.int (nI 1))]) (by rw [nI_add]) ?_
            refine am_run 1 (pc' := 63) (ls' := [some (.ref 0), some (.int (nI mk)), some (.int (nI (2 ^ pcn mk 21))), some (.int (nI k)), some (.int (nI (i + 1))), some (.int (nI 1)), some (.int (nI P)), some (.int (nI nx)), some (.int (nI 1))]) (st' := []) (σ' := σ3) rfl ?_
            have e : (pa_in p (r + 1) p' (r' + 1) mk (m + 1) i k c f g h) = (pa_in p (r + 1) p' (r' + 1) mk m (i + 1) k c f g h) := by show (if dif (oc p (r + 1) (f k) (pt mk i)).2.2.1 (oc p (r + 1) (f k) (pt mk i)).1 (oc p' (r' + 1) (g k) (pt mk i)).2.2.1 (oc p' (r' + 1) (g k) (pt mk i)).1 = true then _ else _) = _; rw [hz, hz']; rw [if_neg (show ¬ dif (P, A, 0, c1, nx, rd).2.2.1 (P, A, 0, c1, nx, rd).1 (P', A', 0, c1', nx', rd').2.2.1 (P', A', 0, c1', nx', rd').1 = true from nfl hsh), if_pos rfl, if_pos hfn]
            rw [e] at hA hN
            exact c_mpart_in hd hM hM' hmk hmv m (i + 1) _ c f g h _ _ _ _ (by omega) hK3 hT3_ hkc hVA hVB hA hN
          · by_cases hc100 : c = 200
            · skip
              refine am_run 2 (pc' := 66) (ls' := [some (.ref 0), some (.int (nI mk)), some (.int (nI (2 ^ pcn mk 21))), some (.int (nI k)), some (.int (nI i)), v5, v6, v7, v8]) (st' := [.int (nI (2 ^ pcn mk 21)), .int (nI i)]) (σ' := σ') rfl ?_
              refine am_ic (ty := 69) (tn := 191) rfl (by decide) rfl rfl (fun (h_1 : nI i < nI (2 ^ pcn mk 21)) => ?_) (fun (h_1 : ¬ (nI i < nI (2 ^ pcn mk 21))) => ?_)
              rotate_left
              · have h_1 : ¬ (i < 2 ^ pcn mk 21) := fun z => h_1 ((nI_ltI (by omega) (by omega)).mpr z)
                omega
              have h_1 : i < 2 ^ pcn mk 21 := (nI_ltI (by omega) (by omega)).mp h_1
              refine am_run 5 (pc' := 76) (ls' := [some (.ref 0), some (.int (nI mk)), some (.int (nI (2 ^ pcn mk 21))), some (.int (nI k)), some (.int (nI i)), v5, v6, v7, v8]) (st' := [.int (nI k), .ref 38, .int (nI 0), .ref 0]) (σ' := σ') rfl ?_
              refine am_ialdN (n := 201) (v := nI (f k)) rfl rfl rfl (by omega) f1 (by decide) ?_
              refine am_run 2 (pc' := 80) (ls' := [some (.ref 0), some (.int (nI mk)), some (.int (nI (2 ^ pcn mk 21))), some (.int (nI k)), some (.int (nI i)), v5, v6, v7, v8]) (st' := [.int (nI i), .int (nI mk), .int (nI (f k)), .int (nI 0), .ref 0]) (σ' := σ') rfl ?_
              refine am_invs (y := 241) (as := [.int (nI mk), .int (nI i)]) (rest := [.int (nI (f k)), .int (nI 0), .ref 0]) rfl rfl rfl rfl rfl rfl (Nat.le_of_ble_eq_true rfl) ?_
              refine c_partOf (by omega) hmk (by omega) ?_
              show am_G _ M_X10_part _ 83 [some (.ref 0), some (.int (nI mk)), some (.int (nI (2 ^ pcn mk 21))), some (.int (nI k)), some (.int (nI i)), v5, v6, v7, v8] [.int (nI (pt mk i)), .int (nI (f k)), .int (nI 0), .ref 0] σ'
              refine am_invv (y := 229) (b := 0) (as := [.int (nI 0), .int (nI (f k)), .int (nI (pt mk i))]) (rest := []) rfl rfl rfl rfl rfl rfl rfl (Nat.le_of_ble_eq_true rfl) ?_
              refine c_settles1 (by omega) (hK.MI hM) f4 (hVA k hkc).2 (pt_lt mk i) hz (fun σ2 hS2 i38 i39 i40 i41 i42 i43 i44 i29 => ?_)
              have hK2 := hK.ks hS2
              have hT2 := hT.ks hS2
              have g2 := (hT2.2.2 k hkc).2.1
              show am_G _ M_X10_part _ 86 [some (.ref 0), some (.int (nI mk)), some (.int (nI (2 ^ pcn mk 21))), some (.int (nI k)), some (.int (nI i)), v5, v6, v7, v8] [.int (nI 1)] σ2
              refine am_run 3 (pc' := 92) (ls' := [some (.ref 0), some (.int (nI mk)), some (.int (nI (2 ^ pcn mk 21))), some (.int (nI k)), some (.int (nI i)), some (.int (nI 1)), v6, v7, v8]) (st' := [.int (σ2.1 0 42)]) (σ' := σ2) rfl ?_
              refine am_top (v' := nI P) i42 ?_
              refine am_run 3 (pc' := 98) (ls' := [some (.ref 0), some (.int (nI mk)), some (.int (nI (2 ^ pcn mk 21))), some (.int (nI k)), some (.int (nI i)), some (.int (nI 1)), some (.int (nI P)), v7, v8]) (st' := [.int (σ2.1 0 44)]) (σ' := σ2) rfl ?_
              refine am_top (v' := nI nx) i44 ?_
              refine am_run 6 (pc' := 107) (ls' := [some (.ref 0), some (.int (nI mk)), some (.int (nI (2 ^ pcn mk 21))), some (.int (nI k)), some (.int (nI i)), some (.int (nI 1)), some (.int (nI P)), some (.int (nI nx)), v8]) (st' := [.int (nI k), .ref 39, .int (nI 1), .ref 0]) (σ' := σ2) rfl ?_
              refine am_ialdN (n := 201) (v := nI (g k)) rfl rfl rfl (by omega) g2 (by decide) ?_
              refine am_run 2 (pc' := 111) (ls' := [some (.ref 0), some (.int (nI mk)), some (.int (nI (2 ^ pcn mk 21))), some (.int (nI k)), some (.int (nI i)), some (.int (nI 1)), some (.int (nI P)), some (.int (nI nx)), v8]) (st' := [.int (nI i), .int (nI mk), .int (nI (g k)), .int (nI 1), .ref 0]) (σ' := σ2) rfl ?_
              refine am_invs (y := 241) (as := [.int (nI mk), .int (nI i)]) (rest := [.int (nI (g k)), .int (nI 1), .ref 0]) rfl rfl rfl rfl rfl rfl (Nat.le_of_ble_eq_true rfl) ?_
              refine c_partOf (by omega) hmk (by omega) ?_
              show am_G _ M_X10_part _ 114 [some (.ref 0), some (.int (nI mk)), some (.int (nI (2 ^ pcn mk 21))), some (.int (nI k)), some (.int (nI i)), some (.int (nI 1)), some (.int (nI P)), some (.int (nI nx)), v8] [.int (nI (pt mk i)), .int (nI (g k)), .int (nI 1), .ref 0] σ2
              refine am_invv (y := 229) (b := 0) (as := [.int (nI 1), .int (nI (g k)), .int (nI (pt mk i))]) (rest := []) rfl rfl rfl rfl rfl rfl rfl (Nat.le_of_ble_eq_true rfl) ?_
              refine c_settles1 (by omega) (hK2.MI hM') f5 (hVB k hkc).2 (pt_lt mk i) hz' (fun σ3 hS3 j38 j39 j40 j41 j42 j43 j44 j29 => ?_)
              have hK3 := hK2.ks hS3
              have hT3_ := hT2.ks hS3
              have g3 := (hT3_.2.2 k hkc).2.2.1
              have g58 := hT3_.2.1
              show am_G _ M_X10_part _ 117 [some (.ref 0), some (.int (nI mk)), some (.int (nI (2 ^ pcn mk 21))), some (.int (nI k)), some (.int (nI i)), some (.int (nI 1)), some (.int (nI P)), some (.int (nI nx)), v8] [.int (nI 1)] σ3
              refine am_run 3 (pc' := 123) (ls' := [some (.ref 0), some (.int (nI mk)), some (.int (nI (2 ^ pcn mk 21))), some (.int (nI k)), some (.int (nI i)), some (.int (nI 1)), some (.int (nI P)), some (.int (nI nx)), some (.int (nI 1))]) (st' := [.int (nI 1), .int (nI 1)]) (σ' := σ3) rfl ?_
              refine am_ic (ty := 126) (tn := 140) rfl (by decide) rfl rfl (fun (h_2 : nI 1 = nI 1) => ?_) (fun (h_2 : ¬ (nI 1 = nI 1)) => ?_)
              rotate_left
              · exact absurd (by decide) h_2
              refine am_run 1 (pc' := 128) (ls' := [some (.ref 0), some (.int (nI mk)), some (.int (nI (2 ^ pcn mk 21))), some (.int (nI k)), some (.int (nI i)), some (.int (nI 1)), some (.int (nI P)), some (.int (nI nx)), some (.int (nI 1))]) (st' := [.int (nI 1)]) (σ' := σ3) rfl ?_
              refine am_if (ty := 149) (tn := 131) rfl (by decide) rfl rfl (fun (h_3 : nI 1 = 0) => ?_) (fun (h_3 : ¬ (nI 1 = 0)) => ?_)
              · exact absurd h_3 (by decide)
              refine am_run 3 (pc' := 137) (ls' := [some (.ref 0), some (.int (nI mk)), some (.int (nI (2 ^ pcn mk 21))), some (.int (nI k)), some (.int (nI i)), some (.int (nI 1)), some (.int (nI P)), some (.int (nI nx)), some (.int (nI 1))]) (st' := [.int (σ3.1 0 42), .int (nI P)]) (σ' := σ3) rfl ?_
              refine am_top (v' := nI P') j42 ?_
              refine am_ic (ty := 149) (tn := 140) rfl (by decide) rfl rfl (fun (h_4 : nI P = nI P') => ?_) (fun (h_4 : ¬ (nI P = nI P')) => ?_)
              rotate_left
              · have h_4 : ¬ (P = P') := fun z => h_4 ((nI_eq (by omega) (by omega)).mpr z)
                omega
              have h_4 : P = P' := (nI_eq (by omega) (by omega)).mp h_4
              refine am_run 1 (pc' := 151) (ls' := [some (.ref 0), some (.int (nI mk)), some (.int (nI (2 ^ pcn mk 21))), some (.int (nI k)), some (.int (nI i)), some (.int (nI 1)), some (.int (nI P)), some (.int (nI nx)), some (.int (nI 1))]) (st' := [.int (nI 1)]) (σ' := σ3) rfl ?_
              refine am_if (ty := 172) (tn := 154) rfl (by decide) rfl rfl (fun (h_5 : nI 1 = 0) => ?_) (fun (h_5 : ¬ (nI 1 = 0)) => ?_)
              · exact absurd h_5 (by decide)
              refine am_run 4 (pc' := 161) (ls' := [some (.ref 0), some (.int (nI mk)), some (.int (nI (2 ^ pcn mk 21))), some (.int (nI k)), some (.int (nI i)), some (.int (nI 1)), some (.int (nI P)), some (.int (nI nx)), some (.int (nI 1))]) (st' := [.int (σ3.1 0 44), .int (nI nx), .ref 0]) (σ' := σ3) rfl ?_
              refine am_top (v' := nI nx') j44 ?_
              refine am_run 3 (pc' := 166) (ls' := [some (.ref 0), some (.int (nI mk)), some (.int (nI (2 ^ pcn mk 21))), some (.int (nI k)), some (.int (nI i)), some (.int (nI 1)), some (.int (nI P)), some (.int (nI nx)), some (.int (nI 1))]) (st' := [.int (nI k), .ref 40, .int (nI nx'), .int (nI nx), .ref 0]) (σ' := σ3) rfl ?_
              refine am_ialdN (n := 201) (v := nI (h k)) rfl rfl rfl (by omega) g3 (by decide) ?_
              refine am_run 2 (pc' := 169) (ls' := [some (.ref 0), some (.int (nI mk)), some (.int (nI (2 ^ pcn mk 21))), some (.int (nI k)), some (.int (nI i)), some (.int (nI 1)), some (.int (nI P)), some (.int (nI nx)), some (.int (nI 1))]) (st' := [.int (nI (h k) + nI 1), .int (nI nx'), .int (nI nx), .ref 0]) (σ' := σ3) rfl ?_
              refine am_top (v' := nI (h k + 1)) (nI_add _ _) ?_
              refine am_invv (y := 249) (b := 0) (as := [.int (nI nx), .int (nI nx'), .int (nI (h k + 1))]) (rest := []) rfl rfl rfl rfl rfl rfl rfl (Nat.le_of_ble_eq_true rfl) ?_
              refine c_comesPair (by omega) hT3_ (by omega) (by omega) (fun z => absurd z hfn) (fun _ => ?_)
              show am_G _ M_X10_part _ 172 [some (.ref 0), some (.int (nI mk)), some (.int (nI (2 ^ pcn mk 21))), some (.int (nI k)), some (.int (nI i)), some (.int (nI 1)), some (.int (nI P)), some (.int (nI nx)), some (.int (nI 1))] [] (am_wr (am_wr (am_wr (am_wr σ3 38 c (nI nx)) 39 c (nI nx')) 40 c (nI (h k + 1))) 0 58 (nI (c + 1)))
              refine am_run 3 (pc' := 179) (ls' := [some (.ref 0), some (.int (nI mk)), some (.int (nI (2 ^ pcn mk 21))), some (.int (nI k)), some (.int (nI i)), some (.int (nI 1)), some (.int (nI P)), some (.int (nI nx)), some (.int (nI 1))]) (st' := [.int (nI 200), .int (nI (c + 1))]) (σ' := (am_wr (am_wr (am_wr (am_wr σ3 38 c (nI nx)) 39 c (nI nx')) 40 c (nI (h k + 1))) 0 58 (nI (c + 1)))) rfl ?_
              refine am_ic (ty := 182) (tn := 185) rfl (by decide) rfl rfl (fun (h_6 : nI 200 < nI (c + 1)) => ?_) (fun (h_6 : ¬ (nI 200 < nI (c + 1))) => ?_)
              rotate_left
              · have h_6 : ¬ (200 < c + 1) := fun z => h_6 ((nI_ltI (by omega) (by omega)).mpr z)
                omega
              have h_6 : 200 < c + 1 := (nI_ltI (by omega) (by omega)).mp h_6
              refine am_run 1 (pc' := 184) (ls' := [some (.ref 0), some (.int (nI mk)), some (.int (nI (2 ^ pcn mk 21))), some (.int (nI k)), some (.int (nI i)), some (.int (nI 1)), some (.int (nI P)), some (.int (nI nx)), some (.int (nI 1))]) (st' := [.int (-1000004)]) (σ' := (am_wr (am_wr (am_wr (am_wr σ3 38 c (nI nx)) 39 c (nI nx')) 40 c (nI (h k + 1))) 0 58 (nI (c + 1)))) rfl ?_
              refine am_reti rfl rfl ?_
              have e : (pa_in p (r + 1) p' (r' + 1) mk (m + 1) i k c f g h) = (some (-1000004), c, f, g, h) := by show (if dif (oc p (r + 1) (f k) (pt mk i)).2.2.1 (oc p (r + 1) (f k) (pt mk i)).1 (oc p' (r' + 1) (g k) (pt mk i)).2.2.1 (oc p' (r' + 1) (g k) (pt mk i)).1 = true then _ else _) = _; rw [hz, hz']; rw [if_neg (show ¬ dif (P, A, 0, c1, nx, rd).2.2.1 (P, A, 0, c1, nx, rd).1 (P', A', 0, c1', nx', rd').2.2.1 (P', A', 0, c1', nx', rd').1 = true from nfl hsh), if_pos rfl, if_neg hfn, if_pos hc100]
              rw [e] at hA
              exact hA _ ((((hK3.wr (by decide) _ _).wr (by decide) _ _).wr (by decide) _ _).w0 (by decide) _) (fun z => by cases z)
            · skip
              refine am_run 2 (pc' := 66) (ls' := [some (.ref 0), some (.int (nI mk)), some (.int (nI (2 ^ pcn mk 21))), some (.int (nI k)), some (.int (nI i)), v5, v6, v7, v8]) (st' := [.int (nI (2 ^ pcn mk 21)), .int (nI i)]) (σ' := σ') rfl ?_
              refine am_ic (ty := 69) (tn := 191) rfl (by decide) rfl rfl (fun (h_1 : nI i < nI (2 ^ pcn mk 21)) => ?_) (fun (h_1 : ¬ (nI i < nI (2 ^ pcn mk 21))) => ?_)
              rotate_left
              · have h_1 : ¬ (i < 2 ^ pcn mk 21) := fun z => h_1 ((nI_ltI (by omega) (by omega)).mpr z)
                omega
              have h_1 : i < 2 ^ pcn mk 21 := (nI_ltI (by omega) (by omega)).mp h_1
              refine am_run 5 (pc' := 76) (ls' := [some (.ref 0), some (.int (nI mk)), some (.int (nI (2 ^ pcn mk 21))), some (.int (nI k)), some (.int (nI i)), v5, v6, v7, v8]) (st' := [.int (nI k), .ref 38, .int (nI 0), .ref 0]) (σ' := σ') rfl ?_
              refine am_ialdN (n := 201) (v := nI (f k)) rfl rfl rfl (by omega) f1 (by decide) ?_
              refine am_run 2 (pc' := 80) (ls' := [some (.ref 0), some (.int (nI mk)), some (.int (nI (2 ^ pcn mk 21))), some (.int (nI k)), some (.int (nI i)), v5, v6, v7, v8]) (st' := [.int (nI i), .int (nI mk), .int (nI (f k)), .int (nI 0), .ref 0]) (σ' := σ') rfl ?_
              refine am_invs (y := 241) (as := [.int (nI mk), .int (nI i)]) (rest := [.int (nI (f k)), .int (nI 0), .ref 0]) rfl rfl rfl rfl rfl rfl (Nat.le_of_ble_eq_true rfl) ?_
              refine c_partOf (by omega) hmk (by omega) ?_
              show am_G _ M_X10_part _ 83 [some (.ref 0), some (.int (nI mk)), some (.int (nI (2 ^ pcn mk 21))), some (.int (nI k)), some (.int (nI i)), v5, v6, v7, v8] [.int (nI (pt mk i)), .int (nI (f k)), .int (nI 0), .ref 0] σ'
              refine am_invv (y := 229) (b := 0) (as := [.int (nI 0), .int (nI (f k)), .int (nI (pt mk i))]) (rest := []) rfl rfl rfl rfl rfl rfl rfl (Nat.le_of_ble_eq_true rfl) ?_
              refine c_settles1 (by omega) (hK.MI hM) f4 (hVA k hkc).2 (pt_lt mk i) hz (fun σ2 hS2 i38 i39 i40 i41 i42 i43 i44 i29 => ?_)
              have hK2 := hK.ks hS2
              have hT2 := hT.ks hS2
              have g2 := (hT2.2.2 k hkc).2.1
              show am_G _ M_X10_part _ 86 [some (.ref 0), some (.int (nI mk)), some (.int (nI (2 ^ pcn mk 21))), some (.int (nI k)), some (.int (nI i)), v5, v6, v7, v8] [.int (nI 1)] σ2
              refine am_run 3 (pc' := 92) (ls' := [some (.ref 0), some (.int (nI mk)), some (.int (nI (2 ^ pcn mk 21))), some (.int (nI k)), some (.int (nI i)), some (.int (nI 1)), v6, v7, v8]) (st' := [.int (σ2.1 0 42)]) (σ' := σ2) rfl ?_
              refine am_top (v' := nI P) i42 ?_
              refine am_run 3 (pc' := 98) (ls' := [some (.ref 0), some (.int (nI mk)), some (.int (nI (2 ^ pcn mk 21))), some (.int (nI k)), some (.int (nI i)), some (.int (nI 1)), some (.int (nI P)), v7, v8]) (st' := [.int (σ2.1 0 44)]) (σ' := σ2) rfl ?_
              refine am_top (v' := nI nx) i44 ?_
              refine am_run 6 (pc' := 107) (ls' := [some (.ref 0), some (.int (nI mk)), some (.int (nI (2 ^ pcn mk 21))), some (.int (nI k)), some (.int (nI i)), some (.int (nI 1)), some (.int (nI P)), some (.int (nI nx)), v8]) (st' := [.int (nI k), .ref 39, .int (nI 1), .ref 0]) (σ' := σ2) rfl ?_
              refine am_ialdN (n := 201) (v := nI (g k)) rfl rfl rfl (by omega) g2 (by decide) ?_
              refine am_run 2 (pc' := 111) (ls' := [some (.ref 0), some (.int (nI mk)), some (.int (nI (2 ^ pcn mk 21))), some (.int (nI k)), some (.int (nI i)), some (.int (nI 1)), some (.int (nI P)), some (.int (nI nx)), v8]) (st' := [.int (nI i), .int (nI mk), .int (nI (g k)), .int (nI 1), .ref 0]) (σ' := σ2) rfl ?_
              refine am_invs (y := 241) (as := [.int (nI mk), .int (nI i)]) (rest := [.int (nI (g k)), .int (nI 1), .ref 0]) rfl rfl rfl rfl rfl rfl (Nat.le_of_ble_eq_true rfl) ?_
              refine c_partOf (by omega) hmk (by omega) ?_
              show am_G _ M_X10_part _ 114 [some (.ref 0), some (.int (nI mk)), some (.int (nI (2 ^ pcn mk 21))), some (.int (nI k)), some (.int (nI i)), some (.int (nI 1)), some (.int (nI P)), some (.int (nI nx)), v8] [.int (nI (pt mk i)), .int (nI (g k)), .int (nI 1), .ref 0] σ2
              refine am_invv (y := 229) (b := 0) (as := [.int (nI 1), .int (nI (g k)), .int (nI (pt mk i))]) (rest := []) rfl rfl rfl rfl rfl rfl rfl (Nat.le_of_ble_eq_true rfl) ?_
              refine c_settles1 (by omega) (hK2.MI hM') f5 (hVB k hkc).2 (pt_lt mk i) hz' (fun σ3 hS3 j38 j39 j40 j41 j42 j43 j44 j29 => ?_)
              have hK3 := hK2.ks hS3
              have hT3_ := hT2.ks hS3
              have g3 := (hT3_.2.2 k hkc).2.2.1
              have g58 := hT3_.2.1
              show am_G _ M_X10_part _ 117 [some (.ref 0), some (.int (nI mk)), some (.int (nI (2 ^ pcn mk 21))), some (.int (nI k)), some (.int (nI i)), some (.int (nI 1)), some (.int (nI P)), some (.int (nI nx)), v8] [.int (nI 1)] σ3
              refine am_run 3 (pc' := 123) (ls' := [some (.ref 0), some (.int (nI mk)), some (.int (nI (2 ^ pcn mk 21))), some (.int (nI k)), some (.int (nI i)), some (.int (nI 1)), some (.int (nI P)), some (.int (nI nx)), some (.int (nI 1))]) (st' := [.int (nI 1), .int (nI 1)]) (σ' := σ3) rfl ?_
              refine am_ic (ty := 126) (tn := 140) rfl (by decide) rfl rfl (fun (h_2 : nI 1 = nI 1) => ?_) (fun (h_2 : ¬ (nI 1 = nI 1)) => ?_)
              rotate_left
              · exact absurd (by decide) h_2
              refine am_run 1 (pc' := 128) (ls' := [some (.ref 0), some (.int (nI mk)), some (.int (nI (2 ^ pcn mk 21))), some (.int (nI k)), some (.int (nI i)), some (.int (nI 1)), some (.int (nI P)), some (.int (nI nx)), some (.int (nI 1))]) (st' := [.int (nI 1)]) (σ' := σ3) rfl ?_
              refine am_if (ty := 149) (tn := 131) rfl (by decide) rfl rfl (fun (h_3 : nI 1 = 0) => ?_) (fun (h_3 : ¬ (nI 1 = 0)) => ?_)
              · exact absurd h_3 (by decide)
              refine am_run 3 (pc' := 137) (ls' := [some (.ref 0), some (.int (nI mk)), some (.int (nI (2 ^ pcn mk 21))), some (.int (nI k)), some (.int (nI i)), some (.int (nI 1)), some (.int (nI P)), some (.int (nI nx)), some (.int (nI 1))]) (st' := [.int (σ3.1 0 42), .int (nI P)]) (σ' := σ3) rfl ?_
              refine am_top (v' := nI P') j42 ?_
              refine am_ic (ty := 149) (tn := 140) rfl (by decide) rfl rfl (fun (h_4 : nI P = nI P') => ?_) (fun (h_4 : ¬ (nI P = nI P')) => ?_)
              rotate_left
              · have h_4 : ¬ (P = P') := fun z => h_4 ((nI_eq (by omega) (by omega)).mpr z)
                omega
              have h_4 : P = P' := (nI_eq (by omega) (by omega)).mp h_4
              refine am_run 1 (pc' := 151) (ls' := [some (.ref 0), some (.int (nI mk)), some (.int (nI (2 ^ pcn mk 21))), some (.int (nI k)), some (.int (nI i)), some (.int (nI 1)), some (.int (nI P)), some (.int (nI nx)), some (.int (nI 1))]) (st' := [.int (nI 1)]) (σ' := σ3) rfl ?_
              refine am_if (ty := 172) (tn := 154) rfl (by decide) rfl rfl (fun (h_5 : nI 1 = 0) => ?_) (fun (h_5 : ¬ (nI 1 = 0)) => ?_)
              · exact absurd h_5 (by decide)
              refine am_run 4 (pc' := 161) (ls' := [some (.ref 0), some (.int (nI mk)), some (.int (nI (2 ^ pcn mk 21))), some (.int (nI k)), some (.int (nI i)), some (.int (nI 1)), some (.int (nI P)), some (.int (nI nx)), some (.int (nI 1))]) (st' := [.int (σ3.1 0 44), .int (nI nx), .ref 0]) (σ' := σ3) rfl ?_
              refine am_top (v' := nI nx') j44 ?_
              refine am_run 3 (pc' := 166) (ls' := [some (.ref 0), some (.int (nI mk)), some (.int (nI (2 ^ pcn mk 21))), some (.int (nI k)), some (.int (nI i)), some (.int (nI 1)), some (.int (nI P)), some (.int (nI nx)), some (.int (nI 1))]) (st' := [.int (nI k), .ref 40, .int (nI nx'), .int (nI nx), .ref 0]) (σ' := σ3) rfl ?_
              refine am_ialdN (n := 201) (v := nI (h k)) rfl rfl rfl (by omega) g3 (by decide) ?_
              refine am_run 2 (pc' := 169) (ls' := [some (.ref 0), some (.int (nI mk)), some (.int (nI (2 ^ pcn mk 21))), some (.int (nI k)), some (.int (nI i)), some (.int (nI 1)), some (.int (nI P)), some (.int (nI nx)), some (.int (nI 1))]) (st' := [.int (nI (h k) + nI 1), .int (nI nx'), .int (nI nx), .ref 0]) (σ' := σ3) rfl ?_
              refine am_top (v' := nI (h k + 1)) (nI_add _ _) ?_
              refine am_invv (y := 249) (b := 0) (as := [.int (nI nx), .int (nI nx'), .int (nI (h k + 1))]) (rest := []) rfl rfl rfl rfl rfl rfl rfl (Nat.le_of_ble_eq_true rfl) ?_
              refine c_comesPair (by omega) hT3_ (by omega) (by omega) (fun z => absurd z hfn) (fun _ => ?_)
              show am_G _ M_X10_part _ 172 [some (.ref 0), some (.int (nI mk)), some (.int (nI (2 ^ pcn mk 21))), some (.int (nI k)), some (.int (nI i)), some (.int (nI 1)), some (.int (nI P)), some (.int (nI nx)), some (.int (nI 1))] [] (am_wr (am_wr (am_wr (am_wr σ3 38 c (nI nx)) 39 c (nI nx')) 40 c (nI (h k + 1))) 0 58 (nI (c + 1)))
              refine am_run 3 (pc' := 179) (ls' := [some (.ref 0), some (.int (nI mk)), some (.int (nI (2 ^ pcn mk 21))), some (.int (nI k)), some (.int (nI i)), some (.int (nI 1)), some (.int (nI P)), some (.int (nI nx)), some (.int (nI 1))]) (st' := [.int (nI 200), .int (nI (c + 1))]) (σ' := (am_wr (am_wr (am_wr (am_wr σ3 38 c (nI nx)) 39 c (nI nx')) 40 c (nI (h k + 1))) 0 58 (nI (c + 1)))) rfl ?_
              refine am_ic (ty := 182) (tn := 185) rfl (by decide) rfl rfl (fun (h_6 : nI 200 < nI (c + 1)) => ?_) (fun (h_6 : ¬ (nI 200 < nI (c + 1))) => ?_)
              · have h_6 : 200 < c + 1 := (nI_ltI (by omega) (by omega)).mp h_6
                omega
              have h_6 : ¬ (200 < c + 1) := fun z => h_6 ((nI_ltI (by omega) (by omega)).mpr z)
              refine am_run 1 (pc' := 188) (ls' := [some (.ref 0), some (.int (nI mk)), some (.int (nI (2 ^ pcn mk 21))), some (.int (nI k)), some (.int (nI i + nI 1)), some (.int (nI 1)), some (.int (nI P)), some (.int (nI nx)), some (.int (nI 1))]) (st' := []) (σ' := (am_wr (am_wr (am_wr (am_wr σ3 38 c (nI nx)) 39 c (nI nx')) 40 c (nI (h k + 1))) 0 58 (nI (c + 1)))) rfl ?_
              refine am_ls (ls' := [some (.ref 0), some (.int (nI mk)), some (.int (nI (2 ^ pcn mk 21))), some (.int (nI k)), some (.int (nI (i + 1))), some (.int (nI 1)), some (.int (nI P)), some (.int (nI nx)), some (.int (nI 1))]) (by rw [nI_add]) ?_
              refine am_run 1 (pc' := 63) (ls' := [some (.ref 0), some (.int (nI mk)), some (.int (nI (2 ^ pcn mk 21))), some (.int (nI k)), some (.int (nI (i + 1))), some (.int (nI 1)), some (.int (nI P)), some (.int (nI nx)), some (.int (nI 1))]) (st' := []) (σ' := (am_wr (am_wr (am_wr (am_wr σ3 38 c (nI nx)) 39 c (nI nx')) 40 c (nI (h k + 1))) 0 58 (nI (c + 1)))) rfl ?_
              have e : (pa_in p (r + 1) p' (r' + 1) mk (m + 1) i k c f g h) = (pa_in p (r + 1) p' (r' + 1) mk m (i + 1) k (c + 1) (up1 f c nx) (up1 g c nx') (up1 h c (h k + 1))) := by show (if dif (oc p (r + 1) (f k) (pt mk i)).2.2.1 (oc p (r + 1) (f k) (pt mk i)).1 (oc p' (r' + 1) (g k) (pt mk i)).2.2.1 (oc p' (r' + 1) (g k) (pt mk i)).1 = true then _ else _) = _; rw [hz, hz']; rw [if_neg (show ¬ dif (P, A, 0, c1, nx, rd).2.2.1 (P, A, 0, c1, nx, rd).1 (P', A', 0, c1', nx', rd').2.2.1 (P', A', 0, c1', nx', rd').1 = true from nfl hsh), if_pos rfl, if_neg hfn, if_neg hc100]
              rw [e] at hA hN
              have hkne : k ≠ c := by omega
              exact c_mpart_in hd hM hM' hmk hmv m (i + 1) _ (c + 1) (up1 f c nx) (up1 g c nx') (up1 h c (h k + 1)) _ _ _ _ (by omega) ((((hK3.wr (by decide) _ _).wr (by decide) _ _).wr (by decide) _ _).w0 (by decide) _) (hT3_.add (by omega) (by omega) (by omega) (by omega)) (by omega) (hVA.add hnv) (hVB.add hnv') hA hN
        · have hsh : dif 0 P 0 P' = true := by unfold dif; simp [*]
          refine am_run 2 (pc' := 66) (ls' := [some (.ref 0), some (.int (nI mk)), some (.int (nI (2 ^ pcn mk 21))), some (.int (nI k)), some (.int (nI i)), v5, v6, v7, v8]) (st' := [.int (nI (2 ^ pcn mk 21)), .int (nI i)]) (σ' := σ') rfl ?_
          refine am_ic (ty := 69) (tn := 191) rfl (by decide) rfl rfl (fun (h_1 : nI i < nI (2 ^ pcn mk 21)) => ?_) (fun (h_1 : ¬ (nI i < nI (2 ^ pcn mk 21))) => ?_)
          rotate_left
          · have h_1 : ¬ (i < 2 ^ pcn mk 21) := fun z => h_1 ((nI_ltI (by omega) (by omega)).mpr z)
            omega
          have h_1 : i < 2 ^ pcn mk 21 := (nI_ltI (by omega) (by omega)).mp h_1
          refine am_run 5 (pc' := 76) (ls' := [some (.ref 0), some (.int (nI mk)), some (.int (nI (2 ^ pcn mk 21))), some (.int (nI k)), some (.int (nI i)), v5, v6, v7, v8]) (st' := [.int (nI k), .ref 38, .int (nI 0), .ref 0]) (σ' := σ') rfl ?_
          refine am_ialdN (n := 201) (v := nI (f k)) rfl rfl rfl (by omega) f1 (by decide) ?_
          refine am_run 2 (pc' := 80) (ls' := [some (.ref 0), some (.int (nI mk)), some (.int (nI (2 ^ pcn mk 21))), some (.int (nI k)), some (.int (nI i)), v5, v6, v7, v8]) (st' := [.int (nI i), .int (nI mk), .int (nI (f k)), .int (nI 0), .ref 0]) (σ' := σ') rfl ?_
          refine am_invs (y := 241) (as := [.int (nI mk), .int (nI i)]) (rest := [.int (nI (f k)), .int (nI 0), .ref 0]) rfl rfl rfl rfl rfl rfl (Nat.le_of_ble_eq_true rfl) ?_
          refine c_partOf (by omega) hmk (by omega) ?_
          show am_G _ M_X10_part _ 83 [some (.ref 0), some (.int (nI mk)), some (.int (nI (2 ^ pcn mk 21))), some (.int (nI k)), some (.int (nI i)), v5, v6, v7, v8] [.int (nI (pt mk i)), .int (nI (f k)), .int (nI 0), .ref 0] σ'
          refine am_invv (y := 229) (b := 0) (as := [.int (nI 0), .int (nI (f k)), .int (nI (pt mk i))]) (rest := []) rfl rfl rfl rfl rfl rfl rfl (Nat.le_of_ble_eq_true rfl) ?_
          refine c_settles1 (by omega) (hK.MI hM) f4 (hVA k hkc).2 (pt_lt mk i) hz (fun σ2 hS2 i38 i39 i40 i41 i42 i43 i44 i29 => ?_)
          have hK2 := hK.ks hS2
          have hT2 := hT.ks hS2
          have g2 := (hT2.2.2 k hkc).2.1
          show am_G _ M_X10_part _ 86 [some (.ref 0), some (.int (nI mk)), some (.int (nI (2 ^ pcn mk 21))), some (.int (nI k)), some (.int (nI i)), v5, v6, v7, v8] [.int (nI 1)] σ2
          refine am_run 3 (pc' := 92) (ls' := [some (.ref 0), some (.int (nI mk)), some (.int (nI (2 ^ pcn mk 21))), some (.int (nI k)), some (.int (nI i)), some (.int (nI 1)), v6, v7, v8]) (st' := [.int (σ2.1 0 42)]) (σ' := σ2) rfl ?_
          refine am_top (v' := nI P) i42 ?_
          refine am_run 3 (pc' := 98) (ls' := [some (.ref 0), some (.int (nI mk)), some (.int (nI (2 ^ pcn mk 21))), some (.int (nI k)), some (.int (nI i)), some (.int (nI 1)), some (.int (nI P)), v7, v8]) (st' := [.int (σ2.1 0 44)]) (σ' := σ2) rfl ?_
          refine am_top (v' := nI nx) i44 ?_
          refine am_run 6 (pc' := 107) (ls' := [some (.ref 0), some (.int (nI mk)), some (.int (nI (2 ^ pcn mk 21))), some (.int (nI k)), some (.int (nI i)), some (.int (nI 1)), some (.int (nI P)), some (.int (nI nx)), v8]) (st' := [.int (nI k), .ref 39, .int (nI 1), .ref 0]) (σ' := σ2) rfl ?_
          refine am_ialdN (n := 201) (v := nI (g k)) rfl rfl rfl (by omega) g2 (by decide) ?_
          refine am_run 2 (pc' := 111) (ls' := [some (.ref 0), some (.int (nI mk)), some (.int (nI (2 ^ pcn mk 21))), some (.int (nI k)), some (.int (nI i)), some (.int (nI 1)), some (.int (nI P)), some (.int (nI nx)), v8]) (st' := [.int (nI i), .int (nI mk), .int (nI (g k)), .int (nI 1), .ref 0]) (σ' := σ2) rfl ?_
          refine am_invs (y := 241) (as := [.int (nI mk), .int (nI i)]) (rest := [.int (nI (g k)), .int (nI 1), .ref 0]) rfl rfl rfl rfl rfl rfl (Nat.le_of_ble_eq_true rfl) ?_
          refine c_partOf (by omega) hmk (by omega) ?_
          show am_G _ M_X10_part _ 114 [some (.ref 0), some (.int (nI mk)), some (.int (nI (2 ^ pcn mk 21))), some (.int (nI k)), some (.int (nI i)), some (.int (nI 1)), some (.int (nI P)), some (.int (nI nx)), v8] [.int (nI (pt mk i)), .int (nI (g k)), .int (nI 1), .ref 0] σ2
          refine am_invv (y := 229) (b := 0) (as := [.int (nI 1), .int (nI (g k)), .int (nI (pt mk i))]) (rest := []) rfl rfl rfl rfl rfl rfl rfl (Nat.le_of_ble_eq_true rfl) ?_
          refine c_settles1 (by omega) (hK2.MI hM') f5 (hVB k hkc).2 (pt_lt mk i) hz' (fun σ3 hS3 j38 j39 j40 j41 j42 j43 j44 j29 => ?_)
          have hK3 := hK2.ks hS3
          have hT3_ := hT2.ks hS3
          have g3 := (hT3_.2.2 k hkc).2.2.1
          have g58 := hT3_.2.1
          show am_G _ M_X10_part _ 117 [some (.ref 0), some (.int (nI mk)), some (.int (nI (2 ^ pcn mk 21))), some (.int (nI k)), some (.int (nI i)), some (.int (nI 1)), some (.int (nI P)), some (.int (nI nx)), v8] [.int (nI 1)] σ3
          refine am_run 3 (pc' := 123) (ls' := [some (.ref 0), some (.int (nI mk)), some (.int (nI (2 ^ pcn mk 21))), some (.int (nI k)), some (.int (nI i)), some (.int (nI 1)), some (.int (nI P)), some (.int (nI nx)), some (.int (nI 1))]) (st' := [.int (nI 1), .int (nI 1)]) (σ' := σ3) rfl ?_
          refine am_ic (ty := 126) (tn := 140) rfl (by decide) rfl rfl (fun (h_2 : nI 1 = nI 1) => ?_) (fun (h_2 : ¬ (nI 1 = nI 1)) => ?_)
          rotate_left
          · exact absurd (by decide) h_2
          refine am_run 1 (pc' := 128) (ls' := [some (.ref 0), some (.int (nI mk)), some (.int (nI (2 ^ pcn mk 21))), some (.int (nI k)), some (.int (nI i)), some (.int (nI 1)), some (.int (nI P)), some (.int (nI nx)), some (.int (nI 1))]) (st' := [.int (nI 1)]) (σ' := σ3) rfl ?_
          refine am_if (ty := 149) (tn := 131) rfl (by decide) rfl rfl (fun (h_3 : nI 1 = 0) => ?_) (fun (h_3 : ¬ (nI 1 = 0)) => ?_)
          · exact absurd h_3 (by decide)
          refine am_run 3 (pc' := 137) (ls' := [some (.ref 0), some (.int (nI mk)), some (.int (nI (2 ^ pcn mk 21))), some (.int (nI k)), some (.int (nI i)), some (.int (nI 1)), some (.int (nI P)), some (.int (nI nx)), some (.int (nI 1))]) (st' := [.int (σ3.1 0 42), .int (nI P)]) (σ' := σ3) rfl ?_
          refine am_top (v' := nI P') j42 ?_
          refine am_ic (ty := 149) (tn := 140) rfl (by decide) rfl rfl (fun (h_4 : nI P = nI P') => ?_) (fun (h_4 : ¬ (nI P = nI P')) => ?_)
          · have h_4 : P = P' := (nI_eq (by omega) (by omega)).mp h_4
            omega
          have h_4 : ¬ (P = P') := fun z => h_4 ((nI_eq (by omega) (by omega)).mpr z)
          refine am_run 3 (pc' := 145) (ls' := [some (.ref 0), some (.int (nI mk)), some (.int (nI (2 ^ pcn mk 21))), some (.int (nI k)), some (.int (nI i)), some (.int (nI 1)), some (.int (nI P)), some (.int (nI nx)), some (.int (nI 1))]) (st' := [.int (nI k), .ref 40]) (σ' := σ3) rfl ?_
          refine am_ialdN (n := 201) (v := nI (h k)) rfl rfl rfl (by omega) g3 (by decide) ?_
          refine am_run 2 (pc' := 148) (ls' := [some (.ref 0), some (.int (nI mk)), some (.int (nI (2 ^ pcn mk 21))), some (.int (nI k)), some (.int (nI i)), some (.int (nI 1)), some (.int (nI P)), some (.int (nI nx)), some (.int (nI 1))]) (st' := [.int (nI (h k) + nI 1)]) (σ' := σ3) rfl ?_
          refine am_top (v' := nI (h k + 1)) (nI_add _ _) ?_
          refine am_reti rfl rfl ?_
          have e : (pa_in p (r + 1) p' (r' + 1) mk (m + 1) i k c f g h) = (some (nI (h k + 1)), c, f, g, h) := by show (if dif (oc p (r + 1) (f k) (pt mk i)).2.2.1 (oc p (r + 1) (f k) (pt mk i)).1 (oc p' (r' + 1) (g k) (pt mk i)).2.2.1 (oc p' (r' + 1) (g k) (pt mk i)).1 = true then _ else _) = _; rw [hz, hz']; rw [if_pos (show dif (P, A, 0, c1, nx, rd).2.2.1 (P, A, 0, c1, nx, rd).1 (P', A', 0, c1', nx', rd').2.2.1 (P', A', 0, c1', nx', rd').1 = true from hsh)]
          rw [e] at hA
          exact hA _ hK3 (fun z => by cases z)
      · have hsh : dif 0 P w' P' = true := by unfold dif; simp [*]
        refine am_run 2 (pc' := 66) (ls' := [some (.ref 0), some (.int (nI mk)), some (.int (nI (2 ^ pcn mk 21))), some (.int (nI k)), some (.int (nI i)), v5, v6, v7, v8]) (st' := [.int (nI (2 ^ pcn mk 21)), .int (nI i)]) (σ' := σ') rfl ?_
        refine am_ic (ty := 69) (tn := 191) rfl (by decide) rfl rfl (fun (h_1 : nI i < nI (2 ^ pcn mk 21)) => ?_) (fun (h_1 : ¬ (nI i < nI (2 ^ pcn mk 21))) => ?_)
        rotate_left
        · have h_1 : ¬ (i < 2 ^ pcn mk 21) := fun z => h_1 ((nI_ltI (by omega) (by omega)).mpr z)
          omega
        have h_1 : i < 2 ^ pcn mk 21 := (nI_ltI (by omega) (by omega)).mp h_1
        refine am_run 5 (pc' := 76) (ls' := [some (.ref 0), some (.int (nI mk)), some (.int (nI (2 ^ pcn mk 21))), some (.int (nI k)), some (.int (nI i)), v5, v6, v7, v8]) (st' := [.int (nI k), .ref 38, .int (nI 0), .ref 0]) (σ' := σ') rfl ?_
        refine am_ialdN (n := 201) (v := nI (f k)) rfl rfl rfl (by omega) f1 (by decide) ?_
        refine am_run 2 (pc' := 80) (ls' := [some (.ref 0), some (.int (nI mk)), some (.int (nI (2 ^ pcn mk 21))), some (.int (nI k)), some (.int (nI i)), v5, v6, v7, v8]) (st' := [.int (nI i), .int (nI mk), .int (nI (f k)), .int (nI 0), .ref 0]) (σ' := σ') rfl ?_
        refine am_invs (y := 241) (as := [.int (nI mk), .int (nI i)]) (rest := [.int (nI (f k)), .int (nI 0), .ref 0]) rfl rfl rfl rfl rfl rfl (Nat.le_of_ble_eq_true rfl) ?_
        refine c_partOf (by omega) hmk (by omega) ?_
        show am_G _ M_X10_part _ 83 [some (.ref 0), some (.int (nI mk)), some (.int (nI (2 ^ pcn mk 21))), some (.int (nI k)), some (.int (nI i)), v5, v6, v7, v8] [.int (nI (pt mk i)), .int (nI (f k)), .int (nI 0), .ref 0] σ'
        refine am_invv (y := 229) (b := 0) (as := [.int (nI 0), .int (nI (f k)), .int (nI (pt mk i))]) (rest := []) rfl rfl rfl rfl rfl rfl rfl (Nat.le_of_ble_eq_true rfl) ?_
        refine c_settles1 (by omega) (hK.MI hM) f4 (hVA k hkc).2 (pt_lt mk i) hz (fun σ2 hS2 i38 i39 i40 i41 i42 i43 i44 i29 => ?_)
        have hK2 := hK.ks hS2
        have hT2 := hT.ks hS2
        have g2 := (hT2.2.2 k hkc).2.1
        show am_G _ M_X10_part _ 86 [some (.ref 0), some (.int (nI mk)), some (.int (nI (2 ^ pcn mk 21))), some (.int (nI k)), some (.int (nI i)), v5, v6, v7, v8] [.int (nI 1)] σ2
        refine am_run 3 (pc' := 92) (ls' := [some (.ref 0), some (.int (nI mk)), some (.int (nI (2 ^ pcn mk 21))), some (.int (nI k)), some (.int (nI i)), some (.int (nI 1)), v6, v7, v8]) (st' := [.int (σ2.1 0 42)]) (σ' := σ2) rfl ?_
        refine am_top (v' := nI P) i42 ?_
        refine am_run 3 (pc' := 98) (ls' := [some (.ref 0), some (.int (nI mk)), some (.int (nI (2 ^ pcn mk 21))), some (.int (nI k)), some (.int (nI i)), some (.int (nI 1)), some (.int (nI P)), v7, v8]) (st' := [.int (σ2.1 0 44)]) (σ' := σ2) rfl ?_
        refine am_top (v' := nI nx) i44 ?_
        refine am_run 6 (pc' := 107) (ls' := [some (.ref 0), some (.int (nI mk)), some (.int (nI (2 ^ pcn mk 21))), some (.int (nI k)), some (.int (nI i)), some (.int (nI 1)), some (.int (nI P)), some (.int (nI nx)), v8]) (st' := [.int (nI k), .ref 39, .int (nI 1), .ref 0]) (σ' := σ2) rfl ?_
        refine am_ialdN (n := 201) (v := nI (g k)) rfl rfl rfl (by omega) g2 (by decide) ?_
        refine am_run 2 (pc' := 111) (ls' := [some (.ref 0), some (.int (nI mk)), some (.int (nI (2 ^ pcn mk 21))), some (.int (nI k)), some (.int (nI i)), some (.int (nI 1)), some (.int (nI P)), some (.int (nI nx)), v8]) (st' := [.int (nI i), .int (nI mk), .int (nI (g k)), .int (nI 1), .ref 0]) (σ' := σ2) rfl ?_
        refine am_invs (y := 241) (as := [.int (nI mk), .int (nI i)]) (rest := [.int (nI (g k)), .int (nI 1), .ref 0]) rfl rfl rfl rfl rfl rfl (Nat.le_of_ble_eq_true rfl) ?_
        refine c_partOf (by omega) hmk (by omega) ?_
        show am_G _ M_X10_part _ 114 [some (.ref 0), some (.int (nI mk)), some (.int (nI (2 ^ pcn mk 21))), some (.int (nI k)), some (.int (nI i)), some (.int (nI 1)), some (.int (nI P)), some (.int (nI nx)), v8] [.int (nI (pt mk i)), .int (nI (g k)), .int (nI 1), .ref 0] σ2
        refine am_invv (y := 229) (b := 0) (as := [.int (nI 1), .int (nI (g k)), .int (nI (pt mk i))]) (rest := []) rfl rfl rfl rfl rfl rfl rfl (Nat.le_of_ble_eq_true rfl) ?_
        refine c_settles0 (by omega) (hK2.MI hM') f5 (hVB k hkc).2 (pt_lt mk i) hz' hw0' (fun σ3 hS3 j38 j39 j40 j41 j29 => ?_)
        have hK3 := hK2.ks hS3
        have hT3_ := hT2.ks hS3
        have g3 := (hT3_.2.2 k hkc).2.2.1
        have g58 := hT3_.2.1
        show am_G _ M_X10_part _ 117 [some (.ref 0), some (.int (nI mk)), some (.int (nI (2 ^ pcn mk 21))), some (.int (nI k)), some (.int (nI i)), some (.int (nI 1)), some (.int (nI P)), some (.int (nI nx)), v8] [.int (nI 0)] σ3
        refine am_run 3 (pc' := 123) (ls' := [some (.ref 0), some (.int (nI mk)), some (.int (nI (2 ^ pcn mk 21))), some (.int (nI k)), some (.int (nI i)), some (.int (nI 1)), some (.int (nI P)), some (.int (nI nx)), some (.int (nI 0))]) (st' := [.int (nI 0), .int (nI 1)]) (σ' := σ3) rfl ?_
        refine am_ic (ty := 126) (tn := 140) rfl (by decide) rfl rfl (fun (h_2 : nI 1 = nI 0) => ?_) (fun (h_2 : ¬ (nI 1 = nI 0)) => ?_)
        · exact absurd h_2 (by decide)
        refine am_run 3 (pc' := 145) (ls' := [some (.ref 0), some (.int (nI mk)), some (.int (nI (2 ^ pcn mk 21))), some (.int (nI k)), some (.int (nI i)), some (.int (nI 1)), some (.int (nI P)), some (.int (nI nx)), some (.int (nI 0))]) (st' := [.int (nI k), .ref 40]) (σ' := σ3) rfl ?_
        refine am_ialdN (n := 201) (v := nI (h k)) rfl rfl rfl (by omega) g3 (by decide) ?_
        refine am_run 2 (pc' := 148) (ls' := [some (.ref 0), some (.int (nI mk)), some (.int (nI (2 ^ pcn mk 21))), some (.int (nI k)), some (.int (nI i)), some (.int (nI 1)), some (.int (nI P)), some (.int (nI nx)), some (.int (nI 0))]) (st' := [.int (nI (h k) + nI 1)]) (σ' := σ3) rfl ?_
        refine am_top (v' := nI (h k + 1)) (nI_add _ _) ?_
        refine am_reti rfl rfl ?_
        have e : (pa_in p (r + 1) p' (r' + 1) mk (m + 1) i k c f g h) = (some (nI (h k + 1)), c, f, g, h) := by show (if dif (oc p (r + 1) (f k) (pt mk i)).2.2.1 (oc p (r + 1) (f k) (pt mk i)).1 (oc p' (r' + 1) (g k) (pt mk i)).2.2.1 (oc p' (r' + 1) (g k) (pt mk i)).1 = true then _ else _) = _; rw [hz, hz']; rw [if_pos (show dif (P, A, 0, c1, nx, rd).2.2.1 (P, A, 0, c1, nx, rd).1 (P', A', w', c1', nx', rd').2.2.1 (P', A', w', c1', nx', rd').1 = true from hsh)]
        rw [e] at hA
        exact hA _ hK3 (fun z => by cases z)
    · by_cases hw0' : w' = 0
      · subst hw0'
        have hsh : dif w P 0 P' = true := by unfold dif; simp [*]
        refine am_run 2 (pc' := 66) (ls' := [some (.ref 0), some (.int (nI mk)), some (.int (nI (2 ^ pcn mk 21))), some (.int (nI k)), some (.int (nI i)), v5, v6, v7, v8]) (st' := [.int (nI (2 ^ pcn mk 21)), .int (nI i)]) (σ' := σ') rfl ?_
        refine am_ic (ty := 69) (tn := 191) rfl (by decide) rfl rfl (fun (h_1 : nI i < nI (2 ^ pcn mk 21)) => ?_) (fun (h_1 : ¬ (nI i < nI (2 ^ pcn mk 21))) => ?_)
        rotate_left
        · have h_1 : ¬ (i < 2 ^ pcn mk 21) := fun z => h_1 ((nI_ltI (by omega) (by omega)).mpr z)
          omega
        have h_1 : i < 2 ^ pcn mk 21 := (nI_ltI (by omega) (by omega)).mp h_1
        refine am_run 5 (pc' := 76) (ls' := [some (.ref 0), some (.int (nI mk)), some (.int (nI (2 ^ pcn mk 21))), some (.int (nI k)), some (.int (nI i)), v5, v6, v7, v8]) (st' := [.int (nI k), .ref 38, .int (nI 0), .ref 0]) (σ' := σ') rfl ?_
        refine am_ialdN (n := 201) (v := nI (f k)) rfl rfl rfl (by omega) f1 (by decide) ?_
        refine am_run 2 (pc' := 80) (ls' := [some (.ref 0), some (.int (nI mk)), some (.int (nI (2 ^ pcn mk 21))), some (.int (nI k)), some (.int (nI i)), v5, v6, v7, v8]) (st' := [.int (nI i), .int (nI mk), .int (nI (f k)), .int (nI 0), .ref 0]) (σ' := σ') rfl ?_
        refine am_invs (y := 241) (as := [.int (nI mk), .int (nI i)]) (rest := [.int (nI (f k)), .int (nI 0), .ref 0]) rfl rfl rfl rfl rfl rfl (Nat.le_of_ble_eq_true rfl) ?_
        refine c_partOf (by omega) hmk (by omega) ?_
        show am_G _ M_X10_part _ 83 [some (.ref 0), some (.int (nI mk)), some (.int (nI (2 ^ pcn mk 21))), some (.int (nI k)), some (.int (nI i)), v5, v6, v7, v8] [.int (nI (pt mk i)), .int (nI (f k)), .int (nI 0), .ref 0] σ'
        refine am_invv (y := 229) (b := 0) (as := [.int (nI 0), .int (nI (f k)), .int (nI (pt mk i))]) (rest := []) rfl rfl rfl rfl rfl rfl rfl (Nat.le_of_ble_eq_true rfl) ?_
        refine c_settles0 (by omega) (hK.MI hM) f4 (hVA k hkc).2 (pt_lt mk i) hz hw0 (fun σ2 hS2 i38 i39 i40 i41 i29 => ?_)
        have hK2 := hK.ks hS2
        have hT2 := hT.ks hS2
        have g2 := (hT2.2.2 k hkc).2.1
        show am_G _ M_X10_part _ 86 [some (.ref 0), some (.int (nI mk)), some (.int (nI (2 ^ pcn mk 21))), some (.int (nI k)), some (.int (nI i)), v5, v6, v7, v8] [.int (nI 0)] σ2
        refine am_run 12 (pc' := 107) (ls' := [some (.ref 0), some (.int (nI mk)), some (.int (nI (2 ^ pcn mk 21))), some (.int (nI k)), some (.int (nI i)), some (.int (nI 0)), some (.int (σ2.1 0 42)), some (.int (σ2.1 0 44)), v8]) (st' := [.int (nI k), .ref 39, .int (nI 1), .ref 0]) (σ' := σ2) rfl ?_
        refine am_ialdN (n := 201) (v := nI (g k)) rfl rfl rfl (by omega) g2 (by decide) ?_
        refine am_run 2 (pc' := 111) (ls' := [some (.ref 0), some (.int (nI mk)), some (.int (nI (2 ^ pcn mk 21))), some (.int (nI k)), some (.int (nI i)), some (.int (nI 0)), some (.int (σ2.1 0 42)), some (.int (σ2.1 0 44)), v8]) (st' := [.int (nI i), .int (nI mk), .int (nI (g k)), .int (nI 1), .ref 0]) (σ' := σ2) rfl ?_
        refine am_invs (y := 241) (as := [.int (nI mk), .int (nI i)]) (rest := [.int (nI (g k)), .int (nI 1), .ref 0]) rfl rfl rfl rfl rfl rfl (Nat.le_of_ble_eq_true rfl) ?_
        refine c_partOf (by omega) hmk (by omega) ?_
        show am_G _ M_X10_part _ 114 [some (.ref 0), some (.int (nI mk)), some (.int (nI (2 ^ pcn mk 21))), some (.int (nI k)), some (.int (nI i)), some (.int (nI 0)), some (.int (σ2.1 0 42)), some (.int (σ2.1 0 44)), v8] [.int (nI (pt mk i)), .int (nI (g k)), .int (nI 1), .ref 0] σ2
        refine am_invv (y := 229) (b := 0) (as := [.int (nI 1), .int (nI (g k)), .int (nI (pt mk i))]) (rest := []) rfl rfl rfl rfl rfl rfl rfl (Nat.le_of_ble_eq_true rfl) ?_
        refine c_settles1 (by omega) (hK2.MI hM') f5 (hVB k hkc).2 (pt_lt mk i) hz' (fun σ3 hS3 j38 j39 j40 j41 j42 j43 j44 j29 => ?_)
        have hK3 := hK2.ks hS3
        have hT3_ := hT2.ks hS3
        have g3 := (hT3_.2.2 k hkc).2.2.1
        have g58 := hT3_.2.1
        show am_G _ M_X10_part _ 117 [some (.ref 0), some (.int (nI mk)), some (.int (nI (2 ^ pcn mk 21))), some (.int (nI k)), some (.int (nI i)), some (.int (nI 0)), some (.int (σ2.1 0 42)), some (.int (σ2.1 0 44)), v8] [.int (nI 1)] σ3
        refine am_run 3 (pc' := 123) (ls' := [some (.ref 0), some (.int (nI mk)), some (.int (nI (2 ^ pcn mk 21))), some (.int (nI k)), some (.int (nI i)), some (.int (nI 0)), some (.int (σ2.1 0 42)), some (.int (σ2.1 0 44)), some (.int (nI 1))]) (st' := [.int (nI 1), .int (nI 0)]) (σ' := σ3) rfl ?_
        refine am_ic (ty := 126) (tn := 140) rfl (by decide) rfl rfl (fun (h_2 : nI 0 = nI 1) => ?_) (fun (h_2 : ¬ (nI 0 = nI 1)) => ?_)
        · exact absurd h_2 (by decide)
        refine am_run 3 (pc' := 145) (ls' := [some (.ref 0), some (.int (nI mk)), some (.int (nI (2 ^ pcn mk 21))), some (.int (nI k)), some (.int (nI i)), some (.int (nI 0)), some (.int (σ2.1 0 42)), some (.int (σ2.1 0 44)), some (.int (nI 1))]) (st' := [.int (nI k), .ref 40]) (σ' := σ3) rfl ?_
        refine am_ialdN (n := 201) (v := nI (h k)) rfl rfl rfl (by omega) g3 (by decide) ?_
        refine am_run 2 (pc' := 148) (ls' := [some (.ref 0), some (.int (nI mk)), some (.int (nI (2 ^ pcn mk 21))), some (.int (nI k)), some (.int (nI i)), some (.int (nI 0)), some (.int (σ2.1 0 42)), some (.int (σ2.1 0 44)), some (.int (nI 1))]) (st' := [.int (nI (h k) + nI 1)]) (σ' := σ3) rfl ?_
        refine am_top (v' := nI (h k + 1)) (nI_add _ _) ?_
        refine am_reti rfl rfl ?_
        have e : (pa_in p (r + 1) p' (r' + 1) mk (m + 1) i k c f g h) = (some (nI (h k + 1)), c, f, g, h) := by show (if dif (oc p (r + 1) (f k) (pt mk i)).2.2.1 (oc p (r + 1) (f k) (pt mk i)).1 (oc p' (r' + 1) (g k) (pt mk i)).2.2.1 (oc p' (r' + 1) (g k) (pt mk i)).1 = true then _ else _) = _; rw [hz, hz']; rw [if_pos (show dif (P, A, w, c1, nx, rd).2.2.1 (P, A, w, c1, nx, rd).1 (P', A', 0, c1', nx', rd').2.2.1 (P', A', 0, c1', nx', rd').1 = true from hsh)]
        rw [e] at hA
        exact hA _ hK3 (fun z => by cases z)
      · have hsh : dif w P w' P' = false := by unfold dif; simp [*]
        refine am_run 2 (pc' := 66) (ls' := [some (.ref 0), some (.int (nI mk)), some (.int (nI (2 ^ pcn mk 21))), some (.int (nI k)), some (.int (nI i)), v5, v6, v7, v8]) (st' := [.int (nI (2 ^ pcn mk 21)), .int (nI i)]) (σ' := σ') rfl ?_
        refine am_ic (ty := 69) (tn := 191) rfl (by decide) rfl rfl (fun (h_1 : nI i < nI (2 ^ pcn mk 21)) => ?_) (fun (h_1 : ¬ (nI i < nI (2 ^ pcn mk 21))) => ?_)
        rotate_left
        · have h_1 : ¬ (i < 2 ^ pcn mk 21) := fun z => h_1 ((nI_ltI (by omega) (by omega)).mpr z)
          omega
        have h_1 : i < 2 ^ pcn mk 21 := (nI_ltI (by omega) (by omega)).mp h_1
        refine am_run 5 (pc' := 76) (ls' := [some (.ref 0), some (.int (nI mk)), some (.int (nI (2 ^ pcn mk 21))), some (.int (nI k)), some (.int (nI i)), v5, v6, v7, v8]) (st' := [.int (nI k), .ref 38, .int (nI 0), .ref 0]) (σ' := σ') rfl ?_
        refine am_ialdN (n := 201) (v := nI (f k)) rfl rfl rfl (by omega) f1 (by decide) ?_
        refine am_run 2 (pc' := 80) (ls' := [some (.ref 0), some (.int (nI mk)), some (.int (nI (2 ^ pcn mk 21))), some (.int (nI k)), some (.int (nI i)), v5, v6, v7, v8]) (st' := [.int (nI i), .int (nI mk), .int (nI (f k)), .int (nI 0), .ref 0]) (σ' := σ') rfl ?_
        refine am_invs (y := 241) (as := [.int (nI mk), .int (nI i)]) (rest := [.int (nI (f k)), .int (nI 0), .ref 0]) rfl rfl rfl rfl rfl rfl (Nat.le_of_ble_eq_true rfl) ?_
        refine c_partOf (by omega) hmk (by omega) ?_
        show am_G _ M_X10_part _ 83 [some (.ref 0), some (.int (nI mk)), some (.int (nI (2 ^ pcn mk 21))), some (.int (nI k)), some (.int (nI i)), v5, v6, v7, v8] [.int (nI (pt mk i)), .int (nI (f k)), .int (nI 0), .ref 0] σ'
        refine am_invv (y := 229) (b := 0) (as := [.int (nI 0), .int (nI (f k)), .int (nI (pt mk i))]) (rest := []) rfl rfl rfl rfl rfl rfl rfl (Nat.le_of_ble_eq_true rfl) ?_
        refine c_settles0 (by omega) (hK.MI hM) f4 (hVA k hkc).2 (pt_lt mk i) hz hw0 (fun σ2 hS2 i38 i39 i40 i41 i29 => ?_)
        have hK2 := hK.ks hS2
        have hT2 := hT.ks hS2
        have g2 := (hT2.2.2 k hkc).2.1
        show am_G _ M_X10_part _ 86 [some (.ref 0), some (.int (nI mk)), some (.int (nI (2 ^ pcn mk 21))), some (.int (nI k)), some (.int (nI i)), v5, v6, v7, v8] [.int (nI 0)] σ2
        refine am_run 12 (pc' := 107) (ls' := [some (.ref 0), some (.int (nI mk)), some (.int (nI (2 ^ pcn mk 21))), some (.int (nI k)), some (.int (nI i)), some (.int (nI 0)), some (.int (σ2.1 0 42)), some (.int (σ2.1 0 44)), v8]) (st' := [.int (nI k), .ref 39, .int (nI 1), .ref 0]) (σ' := σ2) rfl ?_
        refine am_ialdN (n := 201) (v := nI (g k)) rfl rfl rfl (by omega) g2 (by decide) ?_
        refine am_run 2 (pc' := 111) (ls' := [some (.ref 0), some (.int (nI mk)), some (.int (nI (2 ^ pcn mk 21))), some (.int (nI k)), some (.int (nI i)), some (.int (nI 0)), some (.int (σ2.1 0 42)), some (.int (σ2.1 0 44)), v8]) (st' := [.int (nI i), .int (nI mk), .int (nI (g k)), .int (nI 1), .ref 0]) (σ' := σ2) rfl ?_
        refine am_invs (y := 241) (as := [.int (nI mk), .int (nI i)]) (rest := [.int (nI (g k)), .int (nI 1), .ref 0]) rfl rfl rfl rfl rfl rfl (Nat.le_of_ble_eq_true rfl) ?_
        refine c_partOf (by omega) hmk (by omega) ?_
        show am_G _ M_X10_part _ 114 [some (.ref 0), some (.int (nI mk)), some (.int (nI (2 ^ pcn mk 21))), some (.int (nI k)), some (.int (nI i)), some (.int (nI 0)), some (.int (σ2.1 0 42)), some (.int (σ2.1 0 44)), v8] [.int (nI (pt mk i)), .int (nI (g k)), .int (nI 1), .ref 0] σ2
        refine am_invv (y := 229) (b := 0) (as := [.int (nI 1), .int (nI (g k)), .int (nI (pt mk i))]) (rest := []) rfl rfl rfl rfl rfl rfl rfl (Nat.le_of_ble_eq_true rfl) ?_
        refine c_settles0 (by omega) (hK2.MI hM') f5 (hVB k hkc).2 (pt_lt mk i) hz' hw0' (fun σ3 hS3 j38 j39 j40 j41 j29 => ?_)
        have hK3 := hK2.ks hS3
        have hT3_ := hT2.ks hS3
        have g3 := (hT3_.2.2 k hkc).2.2.1
        have g58 := hT3_.2.1
        show am_G _ M_X10_part _ 117 [some (.ref 0), some (.int (nI mk)), some (.int (nI (2 ^ pcn mk 21))), some (.int (nI k)), some (.int (nI i)), some (.int (nI 0)), some (.int (σ2.1 0 42)), some (.int (σ2.1 0 44)), v8] [.int (nI 0)] σ3
        refine am_run 3 (pc' := 123) (ls' := [some (.ref 0), some (.int (nI mk)), some (.int (nI (2 ^ pcn mk 21))), some (.int (nI k)), some (.int (nI i)), some (.int (nI 0)), some (.int (σ2.1 0 42)), some (.int (σ2.1 0 44)), some (.int (nI 0))]) (st' := [.int (nI 0), .int (nI 0)]) (σ' := σ3) rfl ?_
        refine am_ic (ty := 126) (tn := 140) rfl (by decide) rfl rfl (fun (h_2 : nI 0 = nI 0) => ?_) (fun (h_2 : ¬ (nI 0 = nI 0)) => ?_)
        rotate_left
        · exact absurd (by decide) h_2
        refine am_run 1 (pc' := 128) (ls' := [some (.ref 0), some (.int (nI mk)), some (.int (nI (2 ^ pcn mk 21))), some (.int (nI k)), some (.int (nI i)), some (.int (nI 0)), some (.int (σ2.1 0 42)), some (.int (σ2.1 0 44)), some (.int (nI 0))]) (st' := [.int (nI 0)]) (σ' := σ3) rfl ?_
        refine am_if (ty := 149) (tn := 131) rfl (by decide) rfl rfl (fun (h_3 : nI 0 = 0) => ?_) (fun (h_3 : ¬ (nI 0 = 0)) => ?_)
        rotate_left
        · exact absurd (by decide) h_3
        refine am_run 1 (pc' := 151) (ls' := [some (.ref 0), some (.int (nI mk)), some (.int (nI (2 ^ pcn mk 21))), some (.int (nI k)), some (.int (nI i)), some (.int (nI 0)), some (.int (σ2.1 0 42)), some (.int (σ2.1 0 44)), some (.int (nI 0))]) (st' := [.int (nI 0)]) (σ' := σ3) rfl ?_
        refine am_if (ty := 172) (tn := 154) rfl (by decide) rfl rfl (fun (h_4 : nI 0 = 0) => ?_) (fun (h_4 : ¬ (nI 0 = 0)) => ?_)
        rotate_left
        · exact absurd (by decide) h_4
        refine am_run 2 (pc' := 176) (ls' := [some (.ref 0), some (.int (nI mk)), some (.int (nI (2 ^ pcn mk 21))), some (.int (nI k)), some (.int (nI i)), some (.int (nI 0)), some (.int (σ2.1 0 42)), some (.int (σ2.1 0 44)), some (.int (nI 0))]) (st' := [.int (σ3.1 0 58)]) (σ' := σ3) rfl ?_
        refine am_top (v' := nI c) g58 ?_
        refine am_run 1 (pc' := 179) (ls' := [some (.ref 0), some (.int (nI mk)), some (.int (nI (2 ^ pcn mk 21))), some (.int (nI k)), some (.int (nI i)), some (.int (nI 0)), some (.int (σ2.1 0 42)), some (.int (σ2.1 0 44)), some (.int (nI 0))]) (st' := [.int (nI 200), .int (nI c)]) (σ' := σ3) rfl ?_
        refine am_ic (ty := 182) (tn := 185) rfl (by decide) rfl rfl (fun (h_5 : nI 200 < nI c) => ?_) (fun (h_5 : ¬ (nI 200 < nI c)) => ?_)
        · have h_5 : 200 < c := (nI_ltI (by omega) (by omega)).mp h_5
          omega
        have h_5 : ¬ (200 < c) := fun z => h_5 ((nI_ltI (by omega) (by omega)).mpr z)
        refine am_run 1 (pc' := 188) (ls' := [some (.ref 0), some (.int (nI mk)), some (.int (nI (2 ^ pcn mk 21))), some (.int (nI k)), some (.int (nI i + nI 1)), some (.int (nI 0)), some (.int (σ2.1 0 42)), some (.int (σ2.1 0 44)), some (.int (nI 0))]) (st' := []) (σ' := σ3) rfl ?_
        refine am_ls (ls' := [some (.ref 0), some (.int (nI mk)), some (.int (nI (2 ^ pcn mk 21))), some (.int (nI k)), some (.int (nI (i + 1))), some (.int (nI 0)), some (.int (σ2.1 0 42)), some (.int (σ2.1 0 44)), some (.int (nI 0))]) (by rw [nI_add]) ?_
        refine am_run 1 (pc' := 63) (ls' := [some (.ref 0), some (.int (nI mk)), some (.int (nI (2 ^ pcn mk 21))), some (.int (nI k)), some (.int (nI (i + 1))), some (.int (nI 0)), some (.int (σ2.1 0 42)), some (.int (σ2.1 0 44)), some (.int (nI 0))]) (st' := []) (σ' := σ3) rfl ?_
        have e : (pa_in p (r + 1) p' (r' + 1) mk (m + 1) i k c f g h) = (pa_in p (r + 1) p' (r' + 1) mk m (i + 1) k c f g h) := by show (if dif (oc p (r + 1) (f k) (pt mk i)).2.2.1 (oc p (r + 1) (f k) (pt mk i)).1 (oc p' (r' + 1) (g k) (pt mk i)).2.2.1 (oc p' (r' + 1) (g k) (pt mk i)).1 = true then _ else _) = _; rw [hz, hz']; rw [if_neg (show ¬ dif (P, A, w, c1, nx, rd).2.2.1 (P, A, w, c1, nx, rd).1 (P', A', w', c1', nx', rd').2.2.1 (P', A', w', c1', nx', rd').1 = true from nfl hsh), if_neg (show ¬ (P, A, w, c1, nx, rd).2.2.1 = 0 from hw0)]
        rw [e] at hA hN
        exact c_mpart_in hd hM hM' hmk hmv m (i + 1) _ c f g h _ _ _ _ (by omega) hK3 hT3_ hkc hVA hVB hA hN
set_option maxRecDepth 10000 in
set_option maxHeartbeats 2000000 in
theorem c_mpart_out {d : Nat} (hd : 20 ≤ d) {σ0 : am_M} {n r n' r' mk : Nat} {p p' : Pg} {rk od dp rk' od' dp' : Nat → Nat} {ow ow' : Nat → Nat → Nat} (hM : MI σ0 0 p n r rk od dp ow) (hM' : MI σ0 1 p' n' r' rk' od' dp' ow') (hmk : mk < 256) (hmv : mkv mk) {Q : am_Q} : ∀ (M k : Nat) (σ' : am_M) (c : Nat) (f g h : Nat → Nat) (v4 v5 v6 v7 v8 : Option Value), k + M = 200 → KY σ0 σ' → TP σ' c f g h → VA p r c f → VA p' r' c g → (∀ σ'', KY σ0 σ'' → Q (some (.int (pa_out p (r + 1) p' (r' + 1) mk M k c f g h))) σ'') → am_G d M_X10_part Q 52 [some (.ref 0), some (.int (nI mk)), some (.int (nI (2 ^ pcn mk 21))), some (.int (nI k)), v4, v5, v6, v7, v8] [] σ'
  | 0, k, σ', c, f, g, h, v4, v5, v6, v7, v8, hm, hK, hT, hVA, hVB, hq => by
    have hcl := hT.1
    refine am_run 3 (pc' := 57) (ls' := [some (.ref 0), some (.int (nI mk)), some (.int (nI (2 ^ pcn mk 21))), some (.int (nI k)), v4, v5, v6, v7, v8]) (st' := [.int (σ'.1 0 58), .int (nI k)]) (σ' := σ') rfl ?_
    refine am_top (v' := nI c) hT.2.1 ?_
    refine am_ic (ty := 60) (tn := 197) rfl (by decide) rfl rfl (fun (h_1 : nI k < nI c) => ?_) (fun (h_1 : ¬ (nI k < nI c)) => ?_)
    · have h_1 : k < c := (nI_ltI (by omega) (by omega)).mp h_1
      omega
    have h_1 : ¬ (k < c) := fun z => h_1 ((nI_ltI (by omega) (by omega)).mpr z)
    refine am_run 1 (pc' := 198) (ls' := [some (.ref 0), some (.int (nI mk)), some (.int (nI (2 ^ pcn mk 21))), some (.int (nI k)), v4, v5, v6, v7, v8]) (st' := [.int (-1)]) (σ' := σ') rfl ?_
    refine am_reti rfl rfl ?_
    exact hq σ' hK
  | M + 1, k, σ', c, f, g, h, v4, v5, v6, v7, v8, hm, hK, hT, hVA, hVB, hq => by
    have hcl := hT.1
    by_cases hkc : k < c
    · skip
      refine am_run 3 (pc' := 57) (ls' := [some (.ref 0), some (.int (nI mk)), some (.int (nI (2 ^ pcn mk 21))), some (.int (nI k)), v4, v5, v6, v7, v8]) (st' := [.int (σ'.1 0 58), .int (nI k)]) (σ' := σ') rfl ?_
      refine am_top (v' := nI c) hT.2.1 ?_
      refine am_ic (ty := 60) (tn := 197) rfl (by decide) rfl rfl (fun (h_1 : nI k < nI c) => ?_) (fun (h_1 : ¬ (nI k < nI c)) => ?_)
      rotate_left
      · have h_1 : ¬ (k < c) := fun z => h_1 ((nI_ltI (by omega) (by omega)).mpr z)
        omega
      have h_1 : k < c := (nI_ltI (by omega) (by omega)).mp h_1
      refine am_run 2 (pc' := 63) (ls' := [some (.ref 0), some (.int (nI mk)), some (.int (nI (2 ^ pcn mk 21))), some (.int (nI k)), some (.int (nI 0)), v5, v6, v7, v8]) (st' := []) (σ' := σ') rfl ?_
      refine c_mpart_in hd hM hM' hmk hmv (2 ^ pcn mk 21) 0 σ' c f g h _ _ _ _ (by omega) hK hT hkc hVA hVB (fun σ2 hK2 he => ?_) (fun σ2 v4' v5' v6' v7' v8' hK2 he hT2 hVA2 hVB2 => ?_)
      · have hq2 := hq σ2 hK2
        rw [show (pa_out p (r + 1) p' (r' + 1) mk (M + 1) k c f g h) = (pa_in p (r + 1) p' (r' + 1) mk (2 ^ pcn mk 21) 0 k c f g h).1.getD 0 by show (if k < c then _ else _) = _; rw [if_pos hkc, if_neg he]] at hq2
        exact hq2
      · rw [show (pa_out p (r + 1) p' (r' + 1) mk (M + 1) k c f g h) = pa_out p (r + 1) p' (r' + 1) mk M (k + 1) (pa_in p (r + 1) p' (r' + 1) mk (2 ^ pcn mk 21) 0 k c f g h).2.1 (pa_in p (r + 1) p' (r' + 1) mk (2 ^ pcn mk 21) 0 k c f g h).2.2.1 (pa_in p (r + 1) p' (r' + 1) mk (2 ^ pcn mk 21) 0 k c f g h).2.2.2.1 (pa_in p (r + 1) p' (r' + 1) mk (2 ^ pcn mk 21) 0 k c f g h).2.2.2.2 by show (if k < c then _ else _) = _; rw [if_pos hkc, if_pos he]] at hq
        refine am_run 1 (pc' := 194) (ls' := [some (.ref 0), some (.int (nI mk)), some (.int (nI (2 ^ pcn mk 21))), some (.int (nI k + nI 1)), v4', v5', v6', v7', v8']) (st' := []) (σ' := σ2) rfl ?_
        refine am_ls (ls' := [some (.ref 0), some (.int (nI mk)), some (.int (nI (2 ^ pcn mk 21))), some (.int (nI (k + 1))), v4', v5', v6', v7', v8']) (by rw [nI_add]) ?_
        refine am_run 1 (pc' := 52) (ls' := [some (.ref 0), some (.int (nI mk)), some (.int (nI (2 ^ pcn mk 21))), some (.int (nI (k + 1))), v4', v5', v6', v7', v8']) (st' := []) (σ' := σ2) rfl ?_
        exact c_mpart_out hd hM hM' hmk hmv M (k + 1) σ2 _ _ _ _ _ _ _ _ _ (by omega) hK2 hT2 hVA2 hVB2 hq
    · rw [show (pa_out p (r + 1) p' (r' + 1) mk (M + 1) k c f g h) = -1 by show (if k < c then _ else _) = _; rw [if_neg hkc]] at hq
      refine am_run 3 (pc' := 57) (ls' := [some (.ref 0), some (.int (nI mk)), some (.int (nI (2 ^ pcn mk 21))), some (.int (nI k)), v4, v5, v6, v7, v8]) (st' := [.int (σ'.1 0 58), .int (nI k)]) (σ' := σ') rfl ?_
      refine am_top (v' := nI c) hT.2.1 ?_
      refine am_ic (ty := 60) (tn := 197) rfl (by decide) rfl rfl (fun (h_1 : nI k < nI c) => ?_) (fun (h_1 : ¬ (nI k < nI c)) => ?_)
      · have h_1 : k < c := (nI_ltI (by omega) (by omega)).mp h_1
        omega
      have h_1 : ¬ (k < c) := fun z => h_1 ((nI_ltI (by omega) (by omega)).mpr z)
      refine am_run 1 (pc' := 198) (ls' := [some (.ref 0), some (.int (nI mk)), some (.int (nI (2 ^ pcn mk 21))), some (.int (nI k)), v4, v5, v6, v7, v8]) (st' := [.int (-1)]) (σ' := σ') rfl ?_
      refine am_reti rfl rfl ?_
      exact hq σ' hK
set_option maxRecDepth 10000 in
set_option maxHeartbeats 2000000 in
theorem pr_part {d : Nat} (hd : 600 ≤ d) {σ : am_M} (hI : Inv σ) (y : Int32) : PR d 136 250 [.int y] σ := by
  obtain ⟨-, -, -, -, h0, h1⟩ := id hI
  rcases h0 with ⟨hf, hg⟩ | hF1
  · rcases h1 with ⟨hf', hg'⟩ | hF2
    · refine ⟨-1000001, ?_⟩
      refine am_enter' (M := M_X9_part) rfl rfl rfl (by omega) (ls := [some (.ref 41), some (.int y), none, none, none, none]) rfl (fun d' hd' => ?_)
      refine am_run 2 (pc' := 2) (ls' := [some (.ref 41), some (.int y), none, none, none, none]) (st' := [.int (nI 0), .ref 41]) (σ' := σ) rfl ?_
      refine am_invv (y := 140) (b := 41) (as := [.int (nI 0)]) (rest := []) rfl rfl rfl rfl rfl rfl rfl (Nat.le_of_ble_eq_true rfl) ?_
      refine c_filled0_0 (by omega) hf ?_
      show am_G _ M_X9_part _ 5 [some (.ref 41), some (.int y), none, none, none, none] [.null] σ
      refine am_run 3 (pc' := 8) (ls' := [some (.ref 41), some (.int y), some (.null), none, none, none]) (st' := [.int (nI 1), .ref 41]) (σ' := σ) rfl ?_
      refine am_invv (y := 140) (b := 41) (as := [.int (nI 1)]) (rest := []) rfl rfl rfl rfl rfl rfl rfl (Nat.le_of_ble_eq_true rfl) ?_
      refine c_filled1_0 (by omega) hf' ?_
      show am_G _ M_X9_part _ 11 [some (.ref 41), some (.int y), some (.null), none, none, none] [.null] σ
      refine am_run 4 (pc' := 22) (ls' := [some (.ref 41), some (.int y), some (.null), some (.null), none, none]) (st' := [.int (-1000001)]) (σ' := σ) rfl ?_
      refine am_reti rfl rfl ?_
      refine ⟨rfl, ?_⟩
      refine am_enter' (M := M_X10_part) rfl rfl rfl (by omega) (ls := [some (.ref 0), some (.int y), none, none, none, none, none, none, none]) rfl (fun d2 hd2 => ?_)
      refine am_run 2 (pc' := 2) (ls' := [some (.ref 0), some (.int y), none, none, none, none, none, none, none]) (st' := [.int (nI 0), .ref 0]) (σ' := σ) rfl ?_
      refine am_invv (y := 151) (b := 0) (as := [.int (nI 0)]) (rest := []) rfl rfl rfl rfl rfl rfl rfl (Nat.le_of_ble_eq_true rfl) ?_
      refine c_prog0_0 (by omega) hg ?_
      show am_G _ M_X10_part _ 5 [some (.ref 0), some (.int y), none, none, none, none, none, none, none] [.int (nI 0)] σ
      refine am_if (ty := 16) (tn := 8) rfl (by decide) rfl rfl (fun (h_101 : nI 0 = 0) => ?_) (fun (h_101 : ¬ (nI 0 = 0)) => ?_)
      rotate_left
      · exact absurd (by decide) h_101
      refine am_run 1 (pc' := 18) (ls' := [some (.ref 0), some (.int y), none, none, none, none, none, none, none]) (st' := [.int (-1000001)]) (σ' := σ) rfl ?_
      refine am_reti rfl rfl ?_
      exact ⟨rfl, hI⟩
    · obtain ⟨hf', -⟩ := hF2
      refine ⟨-1000001, ?_⟩
      refine am_enter' (M := M_X9_part) rfl rfl rfl (by omega) (ls := [some (.ref 41), some (.int y), none, none, none, none]) rfl (fun d' hd' => ?_)
      refine am_run 2 (pc' := 2) (ls' := [some (.ref 41), some (.int y), none, none, none, none]) (st' := [.int (nI 0), .ref 41]) (σ' := σ) rfl ?_
      refine am_invv (y := 140) (b := 41) (as := [.int (nI 0)]) (rest := []) rfl rfl rfl rfl rfl rfl rfl (Nat.le_of_ble_eq_true rfl) ?_
      refine c_filled0_0 (by omega) hf ?_
      show am_G _ M_X9_part _ 5 [some (.ref 41), some (.int y), none, none, none, none] [.null] σ
      refine am_run 3 (pc' := 8) (ls' := [some (.ref 41), some (.int y), some (.null), none, none, none]) (st' := [.int (nI 1), .ref 41]) (σ' := σ) rfl ?_
      refine am_invv (y := 140) (b := 41) (as := [.int (nI 1)]) (rest := []) rfl rfl rfl rfl rfl rfl rfl (Nat.le_of_ble_eq_true rfl) ?_
      refine c_filled1_1 (by omega) hf' ?_
      show am_G _ M_X9_part _ 11 [some (.ref 41), some (.int y), some (.null), none, none, none] [.ref 75] σ
      refine am_run 4 (pc' := 22) (ls' := [some (.ref 41), some (.int y), some (.null), some (.ref 75), none, none]) (st' := [.int (-1000001)]) (σ' := σ) rfl ?_
      refine am_reti rfl rfl ?_
      refine ⟨rfl, ?_⟩
      refine am_enter' (M := M_X10_part) rfl rfl rfl (by omega) (ls := [some (.ref 0), some (.int y), none, none, none, none, none, none, none]) rfl (fun d2 hd2 => ?_)
      refine am_run 2 (pc' := 2) (ls' := [some (.ref 0), some (.int y), none, none, none, none, none, none, none]) (st' := [.int (nI 0), .ref 0]) (σ' := σ) rfl ?_
      refine am_invv (y := 151) (b := 0) (as := [.int (nI 0)]) (rest := []) rfl rfl rfl rfl rfl rfl rfl (Nat.le_of_ble_eq_true rfl) ?_
      refine c_prog0_0 (by omega) hg ?_
      show am_G _ M_X10_part _ 5 [some (.ref 0), some (.int y), none, none, none, none, none, none, none] [.int (nI 0)] σ
      refine am_if (ty := 16) (tn := 8) rfl (by decide) rfl rfl (fun (h_101 : nI 0 = 0) => ?_) (fun (h_101 : ¬ (nI 0 = 0)) => ?_)
      rotate_left
      · exact absurd (by decide) h_101
      refine am_run 1 (pc' := 18) (ls' := [some (.ref 0), some (.int y), none, none, none, none, none, none, none]) (st' := [.int (-1000001)]) (σ' := σ) rfl ?_
      refine am_reti rfl rfl ?_
      exact ⟨rfl, hI⟩
  · obtain ⟨hf, p, n, r, kk, rk, od, dp, ow, s, m, hP, hH⟩ := hF1
    obtain ⟨hn1, hR, hro, hM, hk1, hk2, hkk, hND⟩ := id hP
    obtain ⟨a3, b3, hv, a4, b4, hm, hh⟩ := id hH
    have hW := hM.1.2.1
    have hn60 := hW.1
    have hs := hv.1
    have hrn : r < n := hM.2.1.2.1
    have hn2 := hM.1.2.2.2.1
    rcases h1 with ⟨hf', hg'⟩ | hF2
    · refine ⟨-1000001, ?_⟩
      refine am_enter' (M := M_X9_part) rfl rfl rfl (by omega) (ls := [some (.ref 41), some (.int y), none, none, none, none]) rfl (fun d' hd' => ?_)
      refine am_run 2 (pc' := 2) (ls' := [some (.ref 41), some (.int y), none, none, none, none]) (st' := [.int (nI 0), .ref 41]) (σ' := σ) rfl ?_
      refine am_invv (y := 140) (b := 41) (as := [.int (nI 0)]) (rest := []) rfl rfl rfl rfl rfl rfl rfl (Nat.le_of_ble_eq_true rfl) ?_
      refine c_filled0_1 (by omega) hf ?_
      show am_G _ M_X9_part _ 5 [some (.ref 41), some (.int y), none, none, none, none] [.ref 73] σ
      refine am_run 3 (pc' := 8) (ls' := [some (.ref 41), some (.int y), some (.ref 73), none, none, none]) (st' := [.int (nI 1), .ref 41]) (σ' := σ) rfl ?_
      refine am_invv (y := 140) (b := 41) (as := [.int (nI 1)]) (rest := []) rfl rfl rfl rfl rfl rfl rfl (Nat.le_of_ble_eq_true rfl) ?_
      refine c_filled1_0 (by omega) hf' ?_
      show am_G _ M_X9_part _ 11 [some (.ref 41), some (.int y), some (.ref 73), none, none, none] [.null] σ
      refine am_run 6 (pc' := 22) (ls' := [some (.ref 41), some (.int y), some (.ref 73), some (.null), none, none]) (st' := [.int (-1000001)]) (σ' := σ) rfl ?_
      refine am_reti rfl rfl ?_
      refine ⟨rfl, ?_⟩
      refine am_enter' (M := M_X10_part) rfl rfl rfl (by omega) (ls := [some (.ref 0), some (.int y), none, none, none, none, none, none, none]) rfl (fun d2 hd2 => ?_)
      refine am_run 2 (pc' := 2) (ls' := [some (.ref 0), some (.int y), none, none, none, none, none, none, none]) (st' := [.int (nI 0), .ref 0]) (σ' := σ) rfl ?_
      refine am_invv (y := 151) (b := 0) (as := [.int (nI 0)]) (rest := []) rfl rfl rfl rfl rfl rfl rfl (Nat.le_of_ble_eq_true rfl) ?_
      refine c_prog0_1 (by omega) (n := n) (by exact hn2) hn1 hn60 ?_
      show am_G _ M_X10_part _ 5 [some (.ref 0), some (.int y), none, none, none, none, none, none, none] [.int (nI 1)] σ
      refine am_if (ty := 16) (tn := 8) rfl (by decide) rfl rfl (fun (h_101 : nI 1 = 0) => ?_) (fun (h_101 : ¬ (nI 1 = 0)) => ?_)
      · exact absurd h_101 (by decide)
      refine am_run 2 (pc' := 10) (ls' := [some (.ref 0), some (.int y), none, none, none, none, none, none, none]) (st' := [.int (nI 1), .ref 0]) (σ' := σ) rfl ?_
      refine am_invv (y := 151) (b := 0) (as := [.int (nI 1)]) (rest := []) rfl rfl rfl rfl rfl rfl rfl (Nat.le_of_ble_eq_true rfl) ?_
      refine c_prog1_0 (by omega) hg' ?_
      show am_G _ M_X10_part _ 13 [some (.ref 0), some (.int y), none, none, none, none, none, none, none] [.int (nI 0)] σ
      refine am_if (ty := 16) (tn := 19) rfl (by decide) rfl rfl (fun (h_102 : nI 0 = 0) => ?_) (fun (h_102 : ¬ (nI 0 = 0)) => ?_)
      rotate_left
      · exact absurd (by decide) h_102
      refine am_run 1 (pc' := 18) (ls' := [some (.ref 0), some (.int y), none, none, none, none, none, none, none]) (st' := [.int (-1000001)]) (σ' := σ) rfl ?_
      refine am_reti rfl rfl ?_
      exact ⟨rfl, hI⟩
    · obtain ⟨hf', p', n', r', kk', rk', od', dp', ow', s', m', hP', hH'⟩ := hF2
      obtain ⟨hn1', hR', hro', hM', hk1', hk2', hkk', hND'⟩ := id hP'
      obtain ⟨a3', b3', hv', a4', b4', hm', hh'⟩ := id hH'
      have hW' := hM'.1.2.1
      have hn60' := hW'.1
      have hs' := hv'.1
      have hrn' : r' < n' := hM'.2.1.2.1
      have hn2' := hM'.1.2.2.2.1
      rcases mk_cases y with ⟨mk, hmk, rfl, hmv⟩ | hNM
      · have h8 := ((mk_f mk hmk).2 hmv.2).1
        have hpl := hmv.2
        refine ⟨pa_out p (r + 1) p' (r' + 1) mk 200 0 1 (up1 z0 0 1048576) (up1 z0 0 1048576) z0, ?_⟩
        refine am_enter' (M := M_X9_part) rfl rfl rfl (by omega) (ls := [some (.ref 41), some (.int (nI mk)), none, none, none, none]) rfl (fun d' hd' => ?_)
        refine am_run 2 (pc' := 2) (ls' := [some (.ref 41), some (.int (nI mk)), none, none, none, none]) (st' := [.int (nI 0), .ref 41]) (σ' := σ) rfl ?_
        refine am_invv (y := 140) (b := 41) (as := [.int (nI 0)]) (rest := []) rfl rfl rfl rfl rfl rfl rfl (Nat.le_of_ble_eq_true rfl) ?_
        refine c_filled0_1 (by omega) hf ?_
        show am_G _ M_X9_part _ 5 [some (.ref 41), some (.int (nI mk)), none, none, none, none] [.ref 73] σ
        refine am_run 3 (pc' := 8) (ls' := [some (.ref 41), some (.int (nI mk)), some (.ref 73), none, none, none]) (st' := [.int (nI 1), .ref 41]) (σ' := σ) rfl ?_
        refine am_invv (y := 140) (b := 41) (as := [.int (nI 1)]) (rest := []) rfl rfl rfl rfl rfl rfl rfl (Nat.le_of_ble_eq_true rfl) ?_
        refine c_filled1_1 (by omega) hf' ?_
        show am_G _ M_X9_part _ 11 [some (.ref 41), some (.int (nI mk)), some (.ref 73), none, none, none] [.ref 75] σ
        refine am_run 6 (pc' := 24) (ls' := [some (.ref 41), some (.int (nI mk)), some (.ref 73), some (.ref 75), none, none]) (st' := [.int (nI mk)]) (σ' := σ) rfl ?_
        refine am_invs (y := 142) (as := [.int (nI mk)]) (rest := []) rfl rfl rfl rfl rfl rfl (Nat.le_of_ble_eq_true rfl) ?_
        refine c_mask1_class (by omega) hmk hmv ?_
        show am_G _ M_X9_part _ 27 [some (.ref 41), some (.int (nI mk)), some (.ref 73), some (.ref 75), none, none] [.int (nI 1)] σ
        refine am_if (ty := 30) (tn := 33) rfl (by decide) rfl rfl (fun (h_1 : nI 1 = 0) => ?_) (fun (h_1 : ¬ (nI 1 = 0)) => ?_)
        · exact absurd h_1 (by decide)
        refine am_run 5 (pc' := 44) (ls' := [some (.ref 41), some (.int (nI mk)), some (.ref 73), some (.ref 75), none, none]) (st' := [.int (nI 1048576), .int (nI 1048576), .int (nI 200), .ref 79]) (σ' := σ) rfl ?_
        refine am_invv (y := 73) (b := 79) (as := [.int (nI 200), .int (nI 1048576), .int (nI 1048576)]) (rest := []) rfl rfl rfl rfl rfl rfl rfl (Nat.le_of_ble_eq_true rfl) ?_
        refine c_rbegin (by omega) (lim := 200) (by decide) (a := 1048576) (by decide) (b := 1048576) (by decide) (fun σ1 g1 g2 hT1 => ?_)
        rw [up1_z] at hT1
        show am_G _ M_X9_part _ 47 [some (.ref 41), some (.int (nI mk)), some (.ref 73), some (.ref 75), none, none] [] σ1
        refine am_run 2 (pc' := 50) (ls' := [some (.ref 41), some (.int (nI mk)), some (.ref 73), some (.ref 75), some (.int (nI 0)), none]) (st' := []) (σ' := σ1) rfl ?_
        have hvS : ∀ (p : Pg) (r : Nat), VA p r 1 (up1 z0 0 1048576) := fun p r k hk => by rw [show k = 0 by omega, up1_s]; exact ⟨Nat.le_refl _, Or.inr (Or.inl rfl)⟩
        have hVA1 := hvS p r
        have hVB1 := hvS p' r'
        have hVo := fun s u (hu : u < 256) => oc_vs hM s hu
        have hVo' := fun s u (hu : u < 256) => oc_vs hM' s hu
        refine c_part_out (by omega) hW hR hrn hro hVo hW' hR' hrn' hro' hVo' hmk hmv 200 0 _ 1 _ _ _ _ rfl ((KX.rf σ).by g1 g2) hT1 hVA1 hVB1 (fun σ5 hK5 => ⟨rfl, ?_⟩)
        have hM5 := hM.keep2 (σ' := σ5) (fun c a => hK5.1 c (by omega))
        have hM5' := hM'.keep2 (σ' := σ5) (fun c a => hK5.1 c (by omega))
        have hn25 := hM5.1.2.2.2.1
        have hn25' := hM5'.1.2.2.2.1
        refine am_enter' (M := M_X10_part) rfl rfl rfl (by omega) (ls := [some (.ref 0), some (.int (nI mk)), none, none, none, none, none, none, none]) rfl (fun d2 hd2 => ?_)
        refine am_run 2 (pc' := 2) (ls' := [some (.ref 0), some (.int (nI mk)), none, none, none, none, none, none, none]) (st' := [.int (nI 0), .ref 0]) (σ' := σ5) rfl ?_
        refine am_invv (y := 151) (b := 0) (as := [.int (nI 0)]) (rest := []) rfl rfl rfl rfl rfl rfl rfl (Nat.le_of_ble_eq_true rfl) ?_
        refine c_prog0_1 (by omega) (n := n) (by exact hn25) hn1 hn60 ?_
        show am_G _ M_X10_part _ 5 [some (.ref 0), some (.int (nI mk)), none, none, none, none, none, none, none] [.int (nI 1)] σ5
        refine am_if (ty := 16) (tn := 8) rfl (by decide) rfl rfl (fun (h_101 : nI 1 = 0) => ?_) (fun (h_101 : ¬ (nI 1 = 0)) => ?_)
        · exact absurd h_101 (by decide)
        refine am_run 2 (pc' := 10) (ls' := [some (.ref 0), some (.int (nI mk)), none, none, none, none, none, none, none]) (st' := [.int (nI 1), .ref 0]) (σ' := σ5) rfl ?_
        refine am_invv (y := 151) (b := 0) (as := [.int (nI 1)]) (rest := []) rfl rfl rfl rfl rfl rfl rfl (Nat.le_of_ble_eq_true rfl) ?_
        refine c_prog1_1 (by omega) (n := n') (by exact hn25') hn1' hn60' ?_
        show am_G _ M_X10_part _ 13 [some (.ref 0), some (.int (nI mk)), none, none, none, none, none, none, none] [.int (nI 1)] σ5
        refine am_if (ty := 16) (tn := 19) rfl (by decide) rfl rfl (fun (h_102 : nI 1 = 0) => ?_) (fun (h_102 : ¬ (nI 1 = 0)) => ?_)
        · exact absurd h_102 (by decide)
        refine am_run 1 (pc' := 20) (ls' := [some (.ref 0), some (.int (nI mk)), none, none, none, none, none, none, none]) (st' := [.int (nI mk)]) (σ' := σ5) rfl ?_
        refine am_invs (y := 240) (as := [.int (nI mk)]) (rest := []) rfl rfl rfl rfl rfl rfl (Nat.le_of_ble_eq_true rfl) ?_
        refine c_mask1_model (by omega) hmk hmv ?_
        show am_G _ M_X10_part _ 23 [some (.ref 0), some (.int (nI mk)), none, none, none, none, none, none, none] [.int (nI 1)] σ5
        refine am_if (ty := 26) (tn := 29) rfl (by decide) rfl rfl (fun (h_103 : nI 1 = 0) => ?_) (fun (h_103 : ¬ (nI 1 = 0)) => ?_)
        · exact absurd h_103 (by decide)
        refine am_run 2 (pc' := 31) (ls' := [some (.ref 0), some (.int (nI mk)), none, none, none, none, none, none, none]) (st' := [.int (nI mk), .int (nI 1)]) (σ' := σ5) rfl ?_
        refine am_invs (y := 150) (as := [.int (nI mk)]) (rest := [.int (nI 1)]) rfl rfl rfl rfl rfl rfl (Nat.le_of_ble_eq_true rfl) ?_
        refine c_ones (by omega) (by omega) ?_
        show am_G _ M_X10_part _ 34 [some (.ref 0), some (.int (nI mk)), none, none, none, none, none, none, none] [.int (nI (pcn mk 21)), .int (nI 1)] σ5
        refine am_run 1 (pc' := 35) (ls' := [some (.ref 0), some (.int (nI mk)), none, none, none, none, none, none, none]) (st' := [.int ((nI 1) <<< ((nI (pcn mk 21)) &&& 31))]) (σ' := σ5) rfl ?_
        refine am_top (v' := nI (2 ^ pcn mk 21)) (by rw [nx_shl _ (by omega), Nat.one_mul]) ?_
        refine am_run 8 (pc' := 47) (ls' := [some (.ref 0), some (.int (nI mk)), some (.int (nI (2 ^ pcn mk 21))), none, none, none, none, none, none]) (st' := [.int (nI 0), .int (nI 1048576), .int (nI 1048576), .ref 0]) (σ' := (am_wr σ5 0 58 (nI 0))) rfl ?_
        refine am_invv (y := 249) (b := 0) (as := [.int (nI 1048576), .int (nI 1048576), .int (nI 0)]) (rest := []) rfl rfl rfl rfl rfl rfl rfl (Nat.le_of_ble_eq_true rfl) ?_
        have hT6 : TP (am_wr σ5 0 58 (nI 0)) 0 z0 z0 z0 := ⟨by decide, rfl, fun k z => absurd z (Nat.not_lt_zero _)⟩
        refine c_comesPair (by omega) hT6 (by decide) (by decide) (fun z => absurd z (Nat.not_lt_zero _)) (fun _ => ?_)
        have hT7 := hT6.add (by decide) (a := 1048576) (by decide) (b := 1048576) (by decide) (Nat.le_refl 0)
        rw [up1_z] at hT7
        show am_G _ M_X10_part _ 50 [some (.ref 0), some (.int (nI mk)), some (.int (nI (2 ^ pcn mk 21))), none, none, none, none, none, none] [] (am_wr (am_wr (am_wr (am_wr (am_wr σ5 0 58 (nI 0)) 38 0 (nI 1048576)) 39 0 (nI 1048576)) 40 0 (nI 0)) 0 58 (nI (0 + 1)))
        refine am_run 2 (pc' := 52) (ls' := [some (.ref 0), some (.int (nI mk)), some (.int (nI (2 ^ pcn mk 21))), some (.int (nI 0)), none, none, none, none, none]) (st' := []) (σ' := (am_wr (am_wr (am_wr (am_wr (am_wr σ5 0 58 (nI 0)) 38 0 (nI 1048576)) 39 0 (nI 1048576)) 40 0 (nI 0)) 0 58 (nI (0 + 1)))) rfl ?_
        exact c_mpart_out (by omega) hM5 hM5' hmk hmv 200 0 _ 1 (up1 z0 0 1048576) (up1 z0 0 1048576) z0 _ _ _ _ _ rfl ((((((KY.rf σ5).w0 (by decide) _).wr (by decide) _ _).wr (by decide) _ _).wr (by decide) _ _).w0 (by decide) _) hT7 hVA1 hVB1 (fun σ7 hK7 => ⟨rfl, (hK5.KI.tr hK7.KI).inv hI⟩)
      · refine ⟨-1000002, ?_⟩
        refine am_enter' (M := M_X9_part) rfl rfl rfl (by omega) (ls := [some (.ref 41), some (.int y), none, none, none, none]) rfl (fun d' hd' => ?_)
        refine am_run 2 (pc' := 2) (ls' := [some (.ref 41), some (.int y), none, none, none, none]) (st' := [.int (nI 0), .ref 41]) (σ' := σ) rfl ?_
        refine am_invv (y := 140) (b := 41) (as := [.int (nI 0)]) (rest := []) rfl rfl rfl rfl rfl rfl rfl (Nat.le_of_ble_eq_true rfl) ?_
        refine c_filled0_1 (by omega) hf ?_
        show am_G _ M_X9_part _ 5 [some (.ref 41), some (.int y), none, none, none, none] [.ref 73] σ
        refine am_run 3 (pc' := 8) (ls' := [some (.ref 41), some (.int y), some (.ref 73), none, none, none]) (st' := [.int (nI 1), .ref 41]) (σ' := σ) rfl ?_
        refine am_invv (y := 140) (b := 41) (as := [.int (nI 1)]) (rest := []) rfl rfl rfl rfl rfl rfl rfl (Nat.le_of_ble_eq_true rfl) ?_
        refine c_filled1_1 (by omega) hf' ?_
        show am_G _ M_X9_part _ 11 [some (.ref 41), some (.int y), some (.ref 73), none, none, none] [.ref 75] σ
        refine am_run 6 (pc' := 24) (ls' := [some (.ref 41), some (.int y), some (.ref 73), some (.ref 75), none, none]) (st' := [.int y]) (σ' := σ) rfl ?_
        refine am_invs (y := 142) (as := [.int y]) (rest := []) rfl rfl rfl rfl rfl rfl (Nat.le_of_ble_eq_true rfl) ?_
        refine c_mask0_class (by omega) hNM ?_
        show am_G _ M_X9_part _ 27 [some (.ref 41), some (.int y), some (.ref 73), some (.ref 75), none, none] [.int (nI 0)] σ
        refine am_if (ty := 30) (tn := 33) rfl (by decide) rfl rfl (fun (h_1 : nI 0 = 0) => ?_) (fun (h_1 : ¬ (nI 0 = 0)) => ?_)
        rotate_left
        · exact absurd (by decide) h_1
        refine am_run 1 (pc' := 32) (ls' := [some (.ref 41), some (.int y), some (.ref 73), some (.ref 75), none, none]) (st' := [.int (-1000002)]) (σ' := σ) rfl ?_
        refine am_reti rfl rfl ?_
        refine ⟨rfl, ?_⟩
        refine am_enter' (M := M_X10_part) rfl rfl rfl (by omega) (ls := [some (.ref 0), some (.int y), none, none, none, none, none, none, none]) rfl (fun d2 hd2 => ?_)
        refine am_run 2 (pc' := 2) (ls' := [some (.ref 0), some (.int y), none, none, none, none, none, none, none]) (st' := [.int (nI 0), .ref 0]) (σ' := σ) rfl ?_
        refine am_invv (y := 151) (b := 0) (as := [.int (nI 0)]) (rest := []) rfl rfl rfl rfl rfl rfl rfl (Nat.le_of_ble_eq_true rfl) ?_
        refine c_prog0_1 (by omega) (n := n) (by exact hn2) hn1 hn60 ?_
        show am_G _ M_X10_part _ 5 [some (.ref 0), some (.int y), none, none, none, none, none, none, none] [.int (nI 1)] σ
        refine am_if (ty := 16) (tn := 8) rfl (by decide) rfl rfl (fun (h_101 : nI 1 = 0) => ?_) (fun (h_101 : ¬ (nI 1 = 0)) => ?_)
        · exact absurd h_101 (by decide)
        refine am_run 2 (pc' := 10) (ls' := [some (.ref 0), some (.int y), none, none, none, none, none, none, none]) (st' := [.int (nI 1), .ref 0]) (σ' := σ) rfl ?_
        refine am_invv (y := 151) (b := 0) (as := [.int (nI 1)]) (rest := []) rfl rfl rfl rfl rfl rfl rfl (Nat.le_of_ble_eq_true rfl) ?_
        refine c_prog1_1 (by omega) (n := n') (by exact hn2') hn1' hn60' ?_
        show am_G _ M_X10_part _ 13 [some (.ref 0), some (.int y), none, none, none, none, none, none, none] [.int (nI 1)] σ
        refine am_if (ty := 16) (tn := 19) rfl (by decide) rfl rfl (fun (h_102 : nI 1 = 0) => ?_) (fun (h_102 : ¬ (nI 1 = 0)) => ?_)
        · exact absurd h_102 (by decide)
        refine am_run 1 (pc' := 20) (ls' := [some (.ref 0), some (.int y), none, none, none, none, none, none, none]) (st' := [.int y]) (σ' := σ) rfl ?_
        refine am_invs (y := 240) (as := [.int y]) (rest := []) rfl rfl rfl rfl rfl rfl (Nat.le_of_ble_eq_true rfl) ?_
        refine c_mask0_model (by omega) hNM ?_
        show am_G _ M_X10_part _ 23 [some (.ref 0), some (.int y), none, none, none, none, none, none, none] [.int (nI 0)] σ
        refine am_if (ty := 26) (tn := 29) rfl (by decide) rfl rfl (fun (h_103 : nI 0 = 0) => ?_) (fun (h_103 : ¬ (nI 0 = 0)) => ?_)
        rotate_left
        · exact absurd (by decide) h_103
        refine am_run 1 (pc' := 28) (ls' := [some (.ref 0), some (.int y), none, none, none, none, none, none, none]) (st' := [.int (-1000002)]) (σ' := σ) rfl ?_
        refine am_reti rfl rfl ?_
        exact ⟨rfl, hI⟩

set_option maxRecDepth 10000 in
set_option maxHeartbeats 2000000 in
theorem c_draw_out {d : Nat} (hd : 520 ≤ d) {σ0 : am_M} {t n r mk : Nat} {p : Pg} (hW : PW p n) (hR : TR σ0 t p n) (hrn : r < n) (hro : ROOT σ0 t (r + 1)) (hmk : mk < 256) (hmv : mkv mk) (hV : ∀ s u, u < 256 → VS p r (oc p (r + 1) s u).2.2.2.2.1) {Q : am_Q} : ∀ (M k : Nat) (σ' : am_M) (c : Nat) (f tl ld : Nat → Nat) (rj : Nat) (v5 v6 v7 : Option Value), k + M = 100 → KX σ0 σ' → TX σ' 100 c f z0 z0 → 1 ≤ c → k ≤ c → VA p r c f → CX σ' (2 ^ pcn mk 21) k 0 (c, f, tl, ld, rj) → (k = 0 ∨ σ'.1 83 4 = nI k) → (∀ σ'', KX σ0 σ'' → (ch_out p (r + 1) mk M k (c, f, tl, ld, rj)) = none → Q (some (.int (nI 0))) σ'') → (∀ σ'' T', KX σ0 σ'' → (ch_out p (r + 1) mk M k (c, f, tl, ld, rj)) = some T' → CX σ'' (2 ^ pcn mk 21) T'.1 0 T' → σ''.1 83 4 = nI T'.1 → T'.1 ≤ 100 → 1 ≤ T'.1 → Q (some (.int (nI 1))) σ'') → am_G d M_X9_drawChart Q 28 [some (.ref 41), some (.ref t), some (.int (nI mk)), some (.int (nI (2 ^ pcn mk 21))), some (.int (nI k)), v5, v6, v7] [] σ'
  | 0, k, σ', c, f, tl, ld, rj, v5, v6, v7, hm, hK, hT, hc1, hkc0, hVA, hC, h4, hA, hN => by
    have hcl := hT.1
    have e : k = 100 := by omega
    have e2 : c = 100 := by omega
    subst e
    subst e2
    refine am_run 2 (pc' := 32) (ls' := [some (.ref 41), some (.ref t), some (.int (nI mk)), some (.int (nI (2 ^ pcn mk 21))), some (.int (nI 100)), v5, v6, v7]) (st' := [.int (nI 100), .int (nI 100)]) (σ' := σ') rfl ?_
    refine am_ic (ty := 35) (tn := 173) rfl (by decide) rfl rfl (fun (h_1 : nI 100 < nI 100) => ?_) (fun (h_1 : ¬ (nI 100 < nI 100)) => ?_)
    · exact absurd h_1 (by decide)
    refine am_run 1 (pc' := 174) (ls' := [some (.ref 41), some (.ref t), some (.int (nI mk)), some (.int (nI (2 ^ pcn mk 21))), some (.int (nI 100)), v5, v6, v7]) (st' := [.int (nI 1)]) (σ' := σ') rfl ?_
    refine am_retz rfl rfl (by decide) ?_
    exact hN σ' _ hK rfl hC (h4.resolve_left (by decide)) (Nat.le_refl _) (by show 1 ≤ 100; decide)
  | M + 1, k, σ', c, f, tl, ld, rj, v5, v6, v7, hm, hK, hT, hc1, hkc0, hVA, hC, h4, hA, hN => by
    have hcl := hT.1
    by_cases hkc : k < c
    · have h80 := ((mk_f mk hmk).2 hmv.2).2.1
      refine am_run 2 (pc' := 32) (ls' := [some (.ref 41), some (.ref t), some (.int (nI mk)), some (.int (nI (2 ^ pcn mk 21))), some (.int (nI k)), v5, v6, v7]) (st' := [.int (nI 100), .int (nI k)]) (σ' := σ') rfl ?_
      refine am_ic (ty := 35) (tn := 173) rfl (by decide) rfl rfl (fun (h_1 : nI k < nI 100) => ?_) (fun (h_1 : ¬ (nI k < nI 100)) => ?_)
      rotate_left
      · have h_1 : ¬ (k < 100) := fun z => h_1 ((nI_ltI (by omega) (by omega)).mpr z)
        omega
      have h_1 : k < 100 := (nI_ltI (by omega) (by omega)).mp h_1
      refine am_run 3 (pc' := 41) (ls' := [some (.ref 41), some (.ref t), some (.int (nI mk)), some (.int (nI (2 ^ pcn mk 21))), some (.int (nI k)), v5, v6, v7]) (st' := [.ref 79, .int (nI k)]) (σ' := σ') rfl ?_
      refine am_invv (y := 74) (b := 79) (as := []) (rest := [.int (nI k)]) rfl rfl rfl rfl rfl rfl rfl (Nat.le_of_ble_eq_true rfl) ?_
      refine c_rsize (by omega) hT ?_
      show am_G _ M_X9_drawChart _ 44 [some (.ref 41), some (.ref t), some (.int (nI mk)), some (.int (nI (2 ^ pcn mk 21))), some (.int (nI k)), v5, v6, v7] [.int (nI c), .int (nI k)] σ'
      refine am_ic (ty := 47) (tn := 173) rfl (by decide) rfl rfl (fun (h_2 : nI k < nI c) => ?_) (fun (h_2 : ¬ (nI k < nI c)) => ?_)
      rotate_left
      · have h_2 : ¬ (k < c) := fun z => h_2 ((nI_ltI (by omega) (by omega)).mpr z)
        omega
      have h_2 : k < c := (nI_ltI (by omega) (by omega)).mp h_2
      refine am_run 4 (pc' := 53) (ls' := [some (.ref 41), some (.ref t), some (.int (nI mk)), some (.int (nI (2 ^ pcn mk 21))), some (.int (nI k)), some (.int (nI 0)), some (.int (nI 0)), v7]) (st' := []) (σ' := σ') rfl ?_
      refine am_ls (ls' := [some (.ref 41), some (.ref t), some (.int (nI mk)), some (.int (nI (2 ^ pcn mk 21))), some (.int (nI k)), some (.int (nI (pt mk 0))), some (.int (nI 0)), v7]) (by rw [h80]) ?_
      refine c_draw_in hd hW hR hrn hro hmk hmv hV (2 ^ pcn mk 21) 0 σ' c f tl ld rj _ (by omega) hK hT hkc hVA hC (Or.inl rfl) (fun σ2 hK2 he => ?_) (fun σ2 c' f' tl' ld' rj' v5' v6' v7' hK2 he hT2 hVA2 hkc2 hC2 h42 => ?_)
      · exact hA σ2 hK2 (by show (if k < c then _ else _) = _; rw [if_pos hkc, he])
      · have eo : (ch_out p (r + 1) mk (M + 1) k (c, f, tl, ld, rj)) = ch_out p (r + 1) mk M (k + 1) (c', f', tl', ld', rj') := by show (if k < c then _ else _) = _; rw [if_pos hkc, he]
        rw [eo] at hA hN
        refine am_run 1 (pc' := 170) (ls' := [some (.ref 41), some (.ref t), some (.int (nI mk)), some (.int (nI (2 ^ pcn mk 21))), some (.int (nI k + nI 1)), v5', v6', v7']) (st' := []) (σ' := σ2) rfl ?_
        refine am_ls (ls' := [some (.ref 41), some (.ref t), some (.int (nI mk)), some (.int (nI (2 ^ pcn mk 21))), some (.int (nI (k + 1))), v5', v6', v7']) (by rw [nI_add]) ?_
        refine am_run 1 (pc' := 28) (ls' := [some (.ref 41), some (.ref t), some (.int (nI mk)), some (.int (nI (2 ^ pcn mk 21))), some (.int (nI (k + 1))), v5', v6', v7']) (st' := []) (σ' := σ2) rfl ?_
        exact c_draw_out hd hW hR hrn hro hmk hmv hV M (k + 1) σ2 c' f' tl' ld' rj' _ _ _ (by omega) hK2 hT2 (by omega) (by omega) hVA2 hC2.nx (Or.inr h42) hA hN
    · have e : k = c := by omega
      subst e
      refine am_run 2 (pc' := 32) (ls' := [some (.ref 41), some (.ref t), some (.int (nI mk)), some (.int (nI (2 ^ pcn mk 21))), some (.int (nI k)), v5, v6, v7]) (st' := [.int (nI 100), .int (nI k)]) (σ' := σ') rfl ?_
      refine am_ic (ty := 35) (tn := 173) rfl (by decide) rfl rfl (fun (h_1 : nI k < nI 100) => ?_) (fun (h_1 : ¬ (nI k < nI 100)) => ?_)
      rotate_left
      · have h_1 : ¬ (k < 100) := fun z => h_1 ((nI_ltI (by omega) (by omega)).mpr z)
        omega
      have h_1 : k < 100 := (nI_ltI (by omega) (by omega)).mp h_1
      refine am_run 3 (pc' := 41) (ls' := [some (.ref 41), some (.ref t), some (.int (nI mk)), some (.int (nI (2 ^ pcn mk 21))), some (.int (nI k)), v5, v6, v7]) (st' := [.ref 79, .int (nI k)]) (σ' := σ') rfl ?_
      refine am_invv (y := 74) (b := 79) (as := []) (rest := [.int (nI k)]) rfl rfl rfl rfl rfl rfl rfl (Nat.le_of_ble_eq_true rfl) ?_
      refine c_rsize (by omega) hT ?_
      show am_G _ M_X9_drawChart _ 44 [some (.ref 41), some (.ref t), some (.int (nI mk)), some (.int (nI (2 ^ pcn mk 21))), some (.int (nI k)), v5, v6, v7] [.int (nI k), .int (nI k)] σ'
      refine am_ic (ty := 47) (tn := 173) rfl (by decide) rfl rfl (fun (h_2 : nI k < nI k) => ?_) (fun (h_2 : ¬ (nI k < nI k)) => ?_)
      · have h_2 : k < k := (nI_ltI (by omega) (by omega)).mp h_2
        omega
      have h_2 : ¬ (k < k) := fun z => h_2 ((nI_ltI (by omega) (by omega)).mpr z)
      refine am_run 1 (pc' := 174) (ls' := [some (.ref 41), some (.ref t), some (.int (nI mk)), some (.int (nI (2 ^ pcn mk 21))), some (.int (nI k)), v5, v6, v7]) (st' := [.int (nI 1)]) (σ' := σ') rfl ?_
      refine am_retz rfl rfl (by decide) ?_
      exact hN σ' (k, f, tl, ld, rj) hK (by show (if k < k then _ else _) = _; rw [if_neg (Nat.lt_irrefl k)]) hC (h4.resolve_left (by omega)) (by show k ≤ 100; omega) (by show 1 ≤ k; omega)
set_option maxRecDepth 10000 in
set_option maxHeartbeats 2000000 in
theorem c_drawChart {d : Nat} (hd : 522 ≤ d) {σ : am_M} {t n r mk : Nat} {p : Pg} (hW : PW p n) (hR : TR σ t p n) (hrn : r < n) (hro : ROOT σ t (r + 1)) (hmk : mk < 256) (hmv : mkv mk) (hV : ∀ s u, u < 256 → VS p r (oc p (r + 1) s u).2.2.2.2.1) {Q : am_Q} (hA : ∀ σ'', KX σ σ'' → ch_out p (r + 1) mk 100 0 (1, up1 z0 0 1048576, z0, z0, 0) = none → Q (some (.int (nI 0))) σ'') (hN : ∀ σ'' T', KX σ σ'' → ch_out p (r + 1) mk 100 0 (1, up1 z0 0 1048576, z0, z0, 0) = some T' → CX σ'' (2 ^ pcn mk 21) T'.1 0 T' → σ''.1 83 4 = nI T'.1 → T'.1 ≤ 100 → 1 ≤ T'.1 → Q (some (.int (nI 1))) σ'') : am_C d 145 [.ref 41, .ref t, .int (nI mk)] σ Q := by
  have h8 := ((mk_f mk hmk).2 hmv.2).1
  refine am_enter' (M := M_X9_drawChart) rfl rfl rfl (by omega) (ls := [some (.ref 41), some (.ref t), some (.int (nI mk)), none, none, none, none, none]) rfl (fun d' hd' => ?_)
  refine am_run 1 (pc' := 1) (ls' := [some (.ref 41), some (.ref t), some (.int (nI mk)), none, none, none, none, none]) (st' := [.int (nI mk)]) (σ' := σ) rfl ?_
  refine am_invs (y := 143) (as := [.int (nI mk)]) (rest := []) rfl rfl rfl rfl rfl rfl (Nat.le_of_ble_eq_true rfl) ?_
  refine c_subsetsOf (by omega) hmk hmv ?_
  show am_G _ M_X9_drawChart _ 4 [some (.ref 41), some (.ref t), some (.int (nI mk)), none, none, none, none, none] [.int (nI (2 ^ pcn mk 21))] σ
  refine am_run 6 (pc' := 14) (ls' := [some (.ref 41), some (.ref t), some (.int (nI mk)), some (.int (nI (2 ^ pcn mk 21))), none, none, none, none]) (st' := [.int (nI 0), .int (nI 1048576), .int (nI 100), .ref 79]) (σ' := σ) rfl ?_
  refine am_invv (y := 73) (b := 79) (as := [.int (nI 100), .int (nI 1048576), .int (nI 0)]) (rest := []) rfl rfl rfl rfl rfl rfl rfl (Nat.le_of_ble_eq_true rfl) ?_
  refine c_rbegin (by omega) (lim := 100) (by decide) (a := 1048576) (by decide) (b := 0) (by decide) (fun σ1 g1 g2 hT1 => ?_)
  rw [up1_z] at hT1
  show am_G _ M_X9_drawChart _ 17 [some (.ref 41), some (.ref t), some (.int (nI mk)), some (.int (nI (2 ^ pcn mk 21))), none, none, none, none] [] σ1
  refine am_run 3 (pc' := 22) (ls' := [some (.ref 41), some (.ref t), some (.int (nI mk)), some (.int (nI (2 ^ pcn mk 21))), none, none, none, none]) (st' := [.int (nI (2 ^ pcn mk 21)), .ref 83]) (σ' := σ1) rfl ?_
  refine am_invv (y := 26) (b := 83) (as := [.int (nI (2 ^ pcn mk 21))]) (rest := []) rfl rfl rfl rfl rfl rfl rfl (Nat.le_of_ble_eq_true rfl) ?_
  refine am_enter' rfl rfl rfl (by omega) (ls := [some (.ref 83), some (.int (nI (2 ^ pcn mk 21)))]) rfl (fun d_1 hd_1 => ?_)
  refine am_run 9 (pc' := 15) (ls' := [some (.ref 83), some (.int (nI (2 ^ pcn mk 21)))]) (st' := []) (σ' := (am_wr (am_wr (am_wr σ1 83 4 (nI 0)) 83 5 (nI (2 ^ pcn mk 21))) 83 6 (nI 0))) rfl ?_
  refine am_retv rfl rfl ?_
  show am_G _ M_X9_drawChart _ 25 [some (.ref 41), some (.ref t), some (.int (nI mk)), some (.int (nI (2 ^ pcn mk 21))), none, none, none, none] [] (am_wr (am_wr (am_wr σ1 83 4 (nI 0)) 83 5 (nI (2 ^ pcn mk 21))) 83 6 (nI 0))
  refine am_run 2 (pc' := 28) (ls' := [some (.ref 41), some (.ref t), some (.int (nI mk)), some (.int (nI (2 ^ pcn mk 21))), some (.int (nI 0)), none, none, none]) (st' := []) (σ' := (am_wr (am_wr (am_wr σ1 83 4 (nI 0)) 83 5 (nI (2 ^ pcn mk 21))) 83 6 (nI 0))) rfl ?_
  have hVA1 : VA p r 1 (up1 z0 0 1048576) := fun k hk => by rw [show k = 0 by omega, up1_s]; exact ⟨Nat.le_refl _, Or.inr (Or.inl rfl)⟩
  exact c_draw_out (by omega) hW hR hrn hro hmk hmv hV 100 0 _ 1 _ _ _ _ _ _ _ rfl (((((KX.rf σ).by g1 g2).wr (by decide) _ _).wr (by decide) _ _).wr (by decide) _ _) (hT1.keep (fun c a => by rw [am_wr_ne _ (by omega), am_wr_ne _ (by omega), am_wr_ne _ (by omega)])) (Nat.le_refl 1) (Nat.zero_le _) hVA1 ⟨h8, rfl, rfl, Nat.zero_le _, fun a b e => absurd e.2 (by omega)⟩ (Or.inl rfl) hA hN
set_option maxRecDepth 10000 in
set_option maxHeartbeats 2000000 in
theorem c_lst_in {d : Nat} (hd : 20 ≤ d) {σ0 : am_M} {j n r mk k : Nat} {p : Pg} {rk od dp : Nat → Nat} {ow : Nat → Nat → Nat} (hM : MI σ0 j p n r rk od dp ow) (hmk : mk < 256) (hmv : mkv mk) {Q : am_Q} : ∀ (m i : Nat) (σ' : am_M) (c : Nat) (f h tl ld : Nat → Nat) (rj : Nat) (v7 v8 : Option Value), i + m = 2 ^ pcn mk 21 → KY σ0 σ' → TM σ' c f h → k < c → VA p r c f → CM σ' (2 ^ pcn mk 21) k i (c, f, tl, ld, rj) → (∀ σ'', KY σ0 σ'' → (ch_in p (r + 1) mk m i k (c, f, tl, ld, rj)) = none → Q (some (.int (nI 0))) σ'') → (∀ σ'' c' f' h' tl' ld' rj' v6 v7 v8, KY σ0 σ'' → (ch_in p (r + 1) mk m i k (c, f, tl, ld, rj)) = some (c', f', tl', ld', rj') → TM σ'' c' f' h' → VA p r c' f' → k < c' → CM σ'' (2 ^ pcn mk 21) k (2 ^ pcn mk 21) (c', f', tl', ld', rj') → am_G d M_X10_laysStates Q 197 [some (.ref 0), some (.int (nI j)), some (.int (nI mk)), some (.int (nI (2 ^ pcn mk 21))), some (.int (nI 0)), some (.int (nI k)), v6, v7, v8] [] σ'') → am_G d M_X10_laysStates Q 51 [some (.ref 0), some (.int (nI j)), some (.int (nI mk)), some (.int (nI (2 ^ pcn mk 21))), some (.int (nI 0)), some (.int (nI k)), some (.int (nI i)), v7, v8] [] σ'
  | 0, i, σ', c, f, h, tl, ld, rj, v7, v8, hm, hK, hT, hkc, hVA, hC, hA, hN => by
    have h8 := ((mk_f mk hmk).2 hmv.2).1
    have e : i = 2 ^ pcn mk 21 := by omega
    rw [e] at hC
    refine am_run 2 (pc' := 54) (ls' := [some (.ref 0), some (.int (nI j)), some (.int (nI mk)), some (.int (nI (2 ^ pcn mk 21))), some (.int (nI 0)), some (.int (nI k)), some (.int (nI i)), v7, v8]) (st' := [.int (nI (2 ^ pcn mk 21)), .int (nI i)]) (σ' := σ') rfl ?_
    refine am_ic (ty := 57) (tn := 197) rfl (by decide) rfl rfl (fun (h_1 : nI i < nI (2 ^ pcn mk 21)) => ?_) (fun (h_1 : ¬ (nI i < nI (2 ^ pcn mk 21))) => ?_)
    · have h_1 : i < 2 ^ pcn mk 21 := (nI_ltI (by omega) (by omega)).mp h_1
      omega
    have h_1 : ¬ (i < 2 ^ pcn mk 21) := fun z => h_1 ((nI_ltI (by omega) (by omega)).mpr z)
    exact hN σ' c f h tl ld rj _ _ _ hK rfl hT hVA hkc hC
  | m + 1, i, σ', c, f, h, tl, ld, rj, v7, v8, hm, hK, hT, hkc, hVA, hC, hA, hN => by
    have h8 := ((mk_f mk hmk).2 hmv.2).1
    have hW := hM.1.2.1
    have hrn : r < n := hM.2.1.2.1
    have hV := fun s u (hu : u < 256) => oc_vs hM s hu
    obtain ⟨t1, t3, t5⟩ := id hT
    obtain ⟨f1, f2, f4, f6⟩ := t5 k hkc
    have hrj : rj ≤ 8 * k + i := hC.2.2.1
    obtain ⟨b1, b2, b3_, b4_, b5_, b6_⟩ := oc_b (s := f k) hW (show r + 1 ≤ n by omega) (pt_lt mk i)
    have hnv := hV (f k) (pt mk i) (pt_lt mk i)
    generalize hz : oc p (r + 1) (f k) (pt mk i) = z0_ at b1 b2 b3_ b4_ b5_ b6_ hnv 
    obtain ⟨P, A, w, c1, nx, rd⟩ := z0_
    have b1 : P < 256 := b1
    have b2 : A < 256 := b2
    have b3_ : w ≤ 256 := b3_
    have b4_ : c1 ≤ 6 := b4_
    have b5_ : nx < 1048576 := b5_
    have b6_ : rd ≤ 9 := b6_
    have hnv : VS p r nx := hnv
    by_cases hw0 : w = 0
    · subst hw0
      have hfl := fnd_le f z0 nx 0 c
      by_cases hfn : fnd f z0 nx 0 c < c
      · skip
        refine am_run 2 (pc' := 54) (ls' := [some (.ref 0), some (.int (nI j)), some (.int (nI mk)), some (.int (nI (2 ^ pcn mk 21))), some (.int (nI 0)), some (.int (nI k)), some (.int (nI i)), v7, v8]) (st' := [.int (nI (2 ^ pcn mk 21)), .int (nI i)]) (σ' := σ') rfl ?_
        refine am_ic (ty := 57) (tn := 197) rfl (by decide) rfl rfl (fun (h_1 : nI i < nI (2 ^ pcn mk 21)) => ?_) (fun (h_1 : ¬ (nI i < nI (2 ^ pcn mk 21))) => ?_)
        rotate_left
        · have h_1 : ¬ (i < 2 ^ pcn mk 21) := fun z => h_1 ((nI_ltI (by omega) (by omega)).mpr z)
          omega
        have h_1 : i < 2 ^ pcn mk 21 := (nI_ltI (by omega) (by omega)).mp h_1
        refine am_run 5 (pc' := 65) (ls' := [some (.ref 0), some (.int (nI j)), some (.int (nI mk)), some (.int (nI (2 ^ pcn mk 21))), some (.int (nI 0)), some (.int (nI k)), some (.int (nI i)), v7, v8]) (st' := [.int (nI k), .ref 32, .int (nI j), .ref 0]) (σ' := σ') rfl ?_
        refine am_ialdN (n := 101) (v := nI (f k)) rfl rfl rfl (by omega) f1 (by decide) ?_
        refine am_run 2 (pc' := 69) (ls' := [some (.ref 0), some (.int (nI j)), some (.int (nI mk)), some (.int (nI (2 ^ pcn mk 21))), some (.int (nI 0)), some (.int (nI k)), some (.int (nI i)), v7, v8]) (st' := [.int (nI i), .int (nI mk), .int (nI (f k)), .int (nI j), .ref 0]) (σ' := σ') rfl ?_
        refine am_invs (y := 241) (as := [.int (nI mk), .int (nI i)]) (rest := [.int (nI (f k)), .int (nI j), .ref 0]) rfl rfl rfl rfl rfl rfl (Nat.le_of_ble_eq_true rfl) ?_
        refine c_partOf (by omega) hmk (by omega) ?_
        show am_G _ M_X10_laysStates _ 72 [some (.ref 0), some (.int (nI j)), some (.int (nI mk)), some (.int (nI (2 ^ pcn mk 21))), some (.int (nI 0)), some (.int (nI k)), some (.int (nI i)), v7, v8] [.int (nI (pt mk i)), .int (nI (f k)), .int (nI j), .ref 0] σ'
        refine am_invv (y := 229) (b := 0) (as := [.int (nI j), .int (nI (f k)), .int (nI (pt mk i))]) (rest := []) rfl rfl rfl rfl rfl rfl rfl (Nat.le_of_ble_eq_true rfl) ?_
        refine c_settles1 (by omega) (hK.MI hM) f4 (hVA k hkc).2 (pt_lt mk i) hz (fun σ2 hS i38 i39 i40 i41 i42 i43 i44 i29 => ?_)
        have hK2 := hK.ks hS
        have hT2 := hT.ks hS
        have g2 := (hT2.2.2 k hkc).2.1
        have hC2 := hC.ks hS
        have c54 : σ2.1 0 54 = nI rj := hC2.2.1
        have g49 := hT2.2.1
        show am_G _ M_X10_laysStates _ 75 [some (.ref 0), some (.int (nI j)), some (.int (nI mk)), some (.int (nI (2 ^ pcn mk 21))), some (.int (nI 0)), some (.int (nI k)), some (.int (nI i)), v7, v8] [.int (nI 1)] σ2
        refine am_run 6 (pc' := 86) (ls' := [some (.ref 0), some (.int (nI j)), some (.int (nI mk)), some (.int (nI (2 ^ pcn mk 21))), some (.int (nI 0)), some (.int (nI k)), some (.int (nI i)), some (.int (nI 1)), v8]) (st' := [.int (nI 8 * nI k), .ref 34]) (σ' := σ2) rfl ?_
        refine am_top (v' := nI (8 * k)) (am_nmul _ _) ?_
        refine am_run 2 (pc' := 89) (ls' := [some (.ref 0), some (.int (nI j)), some (.int (nI mk)), some (.int (nI (2 ^ pcn mk 21))), some (.int (nI 0)), some (.int (nI k)), some (.int (nI i)), some (.int (nI 1)), v8]) (st' := [.int (nI (8 * k) + nI i), .ref 34]) (σ' := σ2) rfl ?_
        refine am_top (v' := nI (8 * k + i)) (nI_add _ _) ?_
        refine am_run 1 (pc' := 90) (ls' := [some (.ref 0), some (.int (nI j)), some (.int (nI mk)), some (.int (nI (2 ^ pcn mk 21))), some (.int (nI 0)), some (.int (nI k)), some (.int (nI i)), some (.int (nI 1)), v8]) (st' := [.int (-1), .int (nI (8 * k + i)), .ref 34]) (σ' := σ2) rfl ?_
        refine am_iastN (n := 808) rfl rfl rfl (by omega) (by decide) ?_
        refine am_run 5 (pc' := 100) (ls' := [some (.ref 0), some (.int (nI j)), some (.int (nI mk)), some (.int (nI (2 ^ pcn mk 21))), some (.int (nI 0)), some (.int (nI k)), some (.int (nI i)), some (.int (nI 1)), v8]) (st' := [.int (nI 8 * nI k), .ref 35]) (σ' := (am_wr σ2 34 (8 * k + i) (-1))) rfl ?_
        refine am_top (v' := nI (8 * k)) (am_nmul _ _) ?_
        refine am_run 2 (pc' := 103) (ls' := [some (.ref 0), some (.int (nI j)), some (.int (nI mk)), some (.int (nI (2 ^ pcn mk 21))), some (.int (nI 0)), some (.int (nI k)), some (.int (nI i)), some (.int (nI 1)), v8]) (st' := [.int (nI (8 * k) + nI i), .ref 35]) (σ' := (am_wr σ2 34 (8 * k + i) (-1))) rfl ?_
        refine am_top (v' := nI (8 * k + i)) (nI_add _ _) ?_
        refine am_run 1 (pc' := 104) (ls' := [some (.ref 0), some (.int (nI j)), some (.int (nI mk)), some (.int (nI (2 ^ pcn mk 21))), some (.int (nI 0)), some (.int (nI k)), some (.int (nI i)), some (.int (nI 1)), v8]) (st' := [.int (-1), .int (nI (8 * k + i)), .ref 35]) (σ' := (am_wr σ2 34 (8 * k + i) (-1))) rfl ?_
        refine am_iastN (n := 808) rfl rfl rfl (by omega) (by decide) ?_
        refine am_run 3 (pc' := 110) (ls' := [some (.ref 0), some (.int (nI j)), some (.int (nI mk)), some (.int (nI (2 ^ pcn mk 21))), some (.int (nI 0)), some (.int (nI k)), some (.int (nI i)), some (.int (nI 1)), v8]) (st' := [.int (σ2.1 0 54), .ref 0]) (σ' := (am_wr (am_wr σ2 34 (8 * k + i) (-1)) 35 (8 * k + i) (-1))) rfl ?_
        refine am_top (v' := nI rj) (by exact c54) ?_
        refine am_run 1 (pc' := 112) (ls' := [some (.ref 0), some (.int (nI j)), some (.int (nI mk)), some (.int (nI (2 ^ pcn mk 21))), some (.int (nI 0)), some (.int (nI k)), some (.int (nI i)), some (.int (nI 1)), v8]) (st' := [.int (nI 1), .int (nI rj), .ref 0]) (σ' := (am_wr (am_wr σ2 34 (8 * k + i) (-1)) 35 (8 * k + i) (-1))) rfl ?_
        refine am_if (ty := 119) (tn := 115) rfl (by decide) rfl rfl (fun (h_2 : nI 1 = 0) => ?_) (fun (h_2 : ¬ (nI 1 = 0)) => ?_)
        · exact absurd h_2 (by decide)
        refine am_run 3 (pc' := 121) (ls' := [some (.ref 0), some (.int (nI j)), some (.int (nI mk)), some (.int (nI (2 ^ pcn mk 21))), some (.int (nI 0)), some (.int (nI k)), some (.int (nI i)), some (.int (nI 1)), v8]) (st' := [.int (nI rj + nI 0), .ref 0]) (σ' := (am_wr (am_wr σ2 34 (8 * k + i) (-1)) 35 (8 * k + i) (-1))) rfl ?_
        refine am_top (v' := nI (rj + 0)) (nI_add _ _) ?_
        refine am_run 2 (pc' := 126) (ls' := [some (.ref 0), some (.int (nI j)), some (.int (nI mk)), some (.int (nI (2 ^ pcn mk 21))), some (.int (nI 0)), some (.int (nI k)), some (.int (nI i)), some (.int (nI 1)), v8]) (st' := [.int (nI 1)]) (σ' := (am_wr (am_wr (am_wr σ2 34 (8 * k + i) (-1)) 35 (8 * k + i) (-1)) 0 54 (nI (rj + 0)))) rfl ?_
        refine am_if (ty := 191) (tn := 129) rfl (by decide) rfl rfl (fun (h_3 : nI 1 = 0) => ?_) (fun (h_3 : ¬ (nI 1 = 0)) => ?_)
        · exact absurd h_3 (by decide)
        refine am_run 5 (pc' := 138) (ls' := [some (.ref 0), some (.int (nI j)), some (.int (nI mk)), some (.int (nI (2 ^ pcn mk 21))), some (.int (nI 0)), some (.int (nI k)), some (.int (nI i)), some (.int (nI 1)), v8]) (st' := [.int (nI 8 * nI k), .ref 35]) (σ' := (am_wr (am_wr (am_wr σ2 34 (8 * k + i) (-1)) 35 (8 * k + i) (-1)) 0 54 (nI (rj + 0)))) rfl ?_
        refine am_top (v' := nI (8 * k)) (am_nmul _ _) ?_
        refine am_run 2 (pc' := 141) (ls' := [some (.ref 0), some (.int (nI j)), some (.int (nI mk)), some (.int (nI (2 ^ pcn mk 21))), some (.int (nI 0)), some (.int (nI k)), some (.int (nI i)), some (.int (nI 1)), v8]) (st' := [.int (nI (8 * k) + nI i), .ref 35]) (σ' := (am_wr (am_wr (am_wr σ2 34 (8 * k + i) (-1)) 35 (8 * k + i) (-1)) 0 54 (nI (rj + 0)))) rfl ?_
        refine am_top (v' := nI (8 * k + i)) (nI_add _ _) ?_
        refine am_run 2 (pc' := 145) (ls' := [some (.ref 0), some (.int (nI j)), some (.int (nI mk)), some (.int (nI (2 ^ pcn mk 21))), some (.int (nI 0)), some (.int (nI k)), some (.int (nI i)), some (.int (nI 1)), v8]) (st' := [.int (σ2.1 0 42), .int (nI (8 * k + i)), .ref 35]) (σ' := (am_wr (am_wr (am_wr σ2 34 (8 * k + i) (-1)) 35 (8 * k + i) (-1)) 0 54 (nI (rj + 0)))) rfl ?_
        refine am_top (v' := nI P) (by exact i42) ?_
        refine am_iastN (n := 808) rfl rfl rfl (by omega) (by decide) ?_
        refine am_run 3 (pc' := 151) (ls' := [some (.ref 0), some (.int (nI j)), some (.int (nI mk)), some (.int (nI (2 ^ pcn mk 21))), some (.int (nI 0)), some (.int (nI k)), some (.int (nI i)), some (.int (nI 1)), v8]) (st' := [.int (σ2.1 0 44), .ref 0]) (σ' := (am_wr (am_wr (am_wr (am_wr σ2 34 (8 * k + i) (-1)) 35 (8 * k + i) (-1)) 0 54 (nI (rj + 0))) 35 (8 * k + i) (nI P))) rfl ?_
        refine am_top (v' := nI nx) (by exact i44) ?_
        refine am_run 3 (pc' := 157) (ls' := [some (.ref 0), some (.int (nI j)), some (.int (nI mk)), some (.int (nI (2 ^ pcn mk 21))), some (.int (nI 0)), some (.int (nI k)), some (.int (nI i)), some (.int (nI 1)), v8]) (st' := [.int (nI k), .ref 33, .int (nI nx), .ref 0]) (σ' := (am_wr (am_wr (am_wr (am_wr σ2 34 (8 * k + i) (-1)) 35 (8 * k + i) (-1)) 0 54 (nI (rj + 0))) 35 (8 * k + i) (nI P))) rfl ?_
        refine am_ialdN (n := 101) (v := nI (h k)) rfl rfl rfl (by omega) (by exact g2) (by decide) ?_
        refine am_run 2 (pc' := 160) (ls' := [some (.ref 0), some (.int (nI j)), some (.int (nI mk)), some (.int (nI (2 ^ pcn mk 21))), some (.int (nI 0)), some (.int (nI k)), some (.int (nI i)), some (.int (nI 1)), v8]) (st' := [.int (nI (h k) + nI 1), .int (nI nx), .ref 0]) (σ' := (am_wr (am_wr (am_wr (am_wr σ2 34 (8 * k + i) (-1)) 35 (8 * k + i) (-1)) 0 54 (nI (rj + 0))) 35 (8 * k + i) (nI P))) rfl ?_
        refine am_top (v' := nI (h k + 1)) (nI_add _ _) ?_
        refine am_invv (y := 242) (b := 0) (as := [.int (nI nx), .int (nI (h k + 1))]) (rest := []) rfl rfl rfl rfl rfl rfl rfl (Nat.le_of_ble_eq_true rfl) ?_
        have hT5 := hT2.keep (σ' := (am_wr (am_wr (am_wr (am_wr σ2 34 (8 * k + i) (-1)) 35 (8 * k + i) (-1)) 0 54 (nI (rj + 0))) 35 (8 * k + i) (nI P))) rfl rfl rfl
        refine c_numberOf (by omega) hT5 (by omega) (fun _ => ?_) (fun z => absurd hfn (by omega))
        show am_G _ M_X10_laysStates _ 163 [some (.ref 0), some (.int (nI j)), some (.int (nI mk)), some (.int (nI (2 ^ pcn mk 21))), some (.int (nI 0)), some (.int (nI k)), some (.int (nI i)), some (.int (nI 1)), v8] [.int (nI (fnd f z0 nx 0 c))] (am_wr (am_wr (am_wr (am_wr σ2 34 (8 * k + i) (-1)) 35 (8 * k + i) (-1)) 0 54 (nI (rj + 0))) 35 (8 * k + i) (nI P))
        refine am_run 6 (pc' := 174) (ls' := [some (.ref 0), some (.int (nI j)), some (.int (nI mk)), some (.int (nI (2 ^ pcn mk 21))), some (.int (nI 0)), some (.int (nI k)), some (.int (nI i)), some (.int (nI 1)), some (.int (nI (fnd f z0 nx 0 c)))]) (st' := [.int (nI 8 * nI k), .ref 34]) (σ' := (am_wr (am_wr (am_wr (am_wr σ2 34 (8 * k + i) (-1)) 35 (8 * k + i) (-1)) 0 54 (nI (rj + 0))) 35 (8 * k + i) (nI P))) rfl ?_
        refine am_top (v' := nI (8 * k)) (am_nmul _ _) ?_
        refine am_run 2 (pc' := 177) (ls' := [some (.ref 0), some (.int (nI j)), some (.int (nI mk)), some (.int (nI (2 ^ pcn mk 21))), some (.int (nI 0)), some (.int (nI k)), some (.int (nI i)), some (.int (nI 1)), some (.int (nI (fnd f z0 nx 0 c)))]) (st' := [.int (nI (8 * k) + nI i), .ref 34]) (σ' := (am_wr (am_wr (am_wr (am_wr σ2 34 (8 * k + i) (-1)) 35 (8 * k + i) (-1)) 0 54 (nI (rj + 0))) 35 (8 * k + i) (nI P))) rfl ?_
        refine am_top (v' := nI (8 * k + i)) (nI_add _ _) ?_
        refine am_run 1 (pc' := 179) (ls' := [some (.ref 0), some (.int (nI j)), some (.int (nI mk)), some (.int (nI (2 ^ pcn mk 21))), some (.int (nI 0)), some (.int (nI k)), some (.int (nI i)), some (.int (nI 1)), some (.int (nI (fnd f z0 nx 0 c)))]) (st' := [.int (nI (fnd f z0 nx 0 c)), .int (nI (8 * k + i)), .ref 34]) (σ' := (am_wr (am_wr (am_wr (am_wr σ2 34 (8 * k + i) (-1)) 35 (8 * k + i) (-1)) 0 54 (nI (rj + 0))) 35 (8 * k + i) (nI P))) rfl ?_
        refine am_iastN (n := 808) rfl rfl rfl (by omega) (by decide) ?_
        refine am_run 2 (pc' := 184) (ls' := [some (.ref 0), some (.int (nI j)), some (.int (nI mk)), some (.int (nI (2 ^ pcn mk 21))), some (.int (nI 0)), some (.int (nI k)), some (.int (nI i)), some (.int (nI 1)), some (.int (nI (fnd f z0 nx 0 c)))]) (st' := [.int (σ2.1 0 49)]) (σ' := (am_wr (am_wr (am_wr (am_wr (am_wr σ2 34 (8 * k + i) (-1)) 35 (8 * k + i) (-1)) 0 54 (nI (rj + 0))) 35 (8 * k + i) (nI P)) 34 (8 * k + i) (nI (fnd f z0 nx 0 c)))) rfl ?_
        refine am_top (v' := nI c) (by exact g49) ?_
        refine am_run 1 (pc' := 186) (ls' := [some (.ref 0), some (.int (nI j)), some (.int (nI mk)), some (.int (nI (2 ^ pcn mk 21))), some (.int (nI 0)), some (.int (nI k)), some (.int (nI i)), some (.int (nI 1)), some (.int (nI (fnd f z0 nx 0 c)))]) (st' := [.int (nI 100), .int (nI c)]) (σ' := (am_wr (am_wr (am_wr (am_wr (am_wr σ2 34 (8 * k + i) (-1)) 35 (8 * k + i) (-1)) 0 54 (nI (rj + 0))) 35 (8 * k + i) (nI P)) 34 (8 * k + i) (nI (fnd f z0 nx 0 c)))) rfl ?_
        refine am_ic (ty := 189) (tn := 191) rfl (by decide) rfl rfl (fun (h_4 : nI 100 < nI c) => ?_) (fun (h_4 : ¬ (nI 100 < nI c)) => ?_)
        · have h_4 : 100 < c := (nI_ltI (by omega) (by omega)).mp h_4
          omega
        have h_4 : ¬ (100 < c) := fun z => h_4 ((nI_ltI (by omega) (by omega)).mpr z)
        refine am_run 1 (pc' := 194) (ls' := [some (.ref 0), some (.int (nI j)), some (.int (nI mk)), some (.int (nI (2 ^ pcn mk 21))), some (.int (nI 0)), some (.int (nI k)), some (.int (nI i + nI 1)), some (.int (nI 1)), some (.int (nI (fnd f z0 nx 0 c)))]) (st' := []) (σ' := (am_wr (am_wr (am_wr (am_wr (am_wr σ2 34 (8 * k + i) (-1)) 35 (8 * k + i) (-1)) 0 54 (nI (rj + 0))) 35 (8 * k + i) (nI P)) 34 (8 * k + i) (nI (fnd f z0 nx 0 c)))) rfl ?_
        refine am_ls (ls' := [some (.ref 0), some (.int (nI j)), some (.int (nI mk)), some (.int (nI (2 ^ pcn mk 21))), some (.int (nI 0)), some (.int (nI k)), some (.int (nI (i + 1))), some (.int (nI 1)), some (.int (nI (fnd f z0 nx 0 c)))]) (by rw [nI_add]) ?_
        refine am_run 1 (pc' := 51) (ls' := [some (.ref 0), some (.int (nI j)), some (.int (nI mk)), some (.int (nI (2 ^ pcn mk 21))), some (.int (nI 0)), some (.int (nI k)), some (.int (nI (i + 1))), some (.int (nI 1)), some (.int (nI (fnd f z0 nx 0 c)))]) (st' := []) (σ' := (am_wr (am_wr (am_wr (am_wr (am_wr σ2 34 (8 * k + i) (-1)) 35 (8 * k + i) (-1)) 0 54 (nI (rj + 0))) 35 (8 * k + i) (nI P)) 34 (8 * k + i) (nI (fnd f z0 nx 0 c)))) rfl ?_
        have e : (ch_in p (r + 1) mk (m + 1) i k (c, f, tl, ld, rj)) = (ch_in p (r + 1) mk m (i + 1) k (c, f, up1 tl (8 * k + i) (P + 1), up1 ld (8 * k + i) (fnd f z0 nx 0 c + 1), rj)) := by show (if (oc p (r + 1) (f k) (pt mk i)).2.2.1 = 0 then _ else _) = _; rw [hz]; rw [if_pos rfl, if_pos hfn]
        rw [e] at hA hN
        have q35 : ∀ q, (am_wr (am_wr (am_wr (am_wr (am_wr σ2 34 (8 * k + i) (-1)) 35 (8 * k + i) (-1)) 0 54 (nI (rj + 0))) 35 (8 * k + i) (nI P)) 34 (8 * k + i) (nI (fnd f z0 nx 0 c))).1 35 q = if q = 8 * k + i then nI P else σ2.1 35 q := fun q => by simp only [am_rd1]; by_cases z : q = 8 * k + i <;> simp [z]
        have q34 : ∀ q, (am_wr (am_wr (am_wr (am_wr (am_wr σ2 34 (8 * k + i) (-1)) 35 (8 * k + i) (-1)) 0 54 (nI (rj + 0))) 35 (8 * k + i) (nI P)) 34 (8 * k + i) (nI (fnd f z0 nx 0 c))).1 34 q = if q = 8 * k + i then nI (fnd f z0 nx 0 c) else σ2.1 34 q := fun q => by simp only [am_rd1]; by_cases z : q = 8 * k + i <;> simp [z]
        have hC3 := hC2.add (σ' := (am_wr (am_wr (am_wr (am_wr (am_wr σ2 34 (8 * k + i) (-1)) 35 (8 * k + i) (-1)) 0 54 (nI (rj + 0))) 35 (8 * k + i) (nI P)) 34 (8 * k + i) (nI (fnd f z0 nx 0 c)))) (c' := c) (f' := f) (rj' := rj) (v := P + 1) (l := fnd f z0 nx 0 c + 1) (by omega) (Nat.le_refl _) rfl (by omega) (fun q z => by rw [q34, if_neg z]) (fun q z => by rw [q35, if_neg z]) (by rw [q35, if_pos rfl, oI_s]) (by omega) (by rw [q34, if_pos rfl, oI_s]) (by omega) (by omega)
        have hT7 := hT2.keep (σ' := (am_wr (am_wr (am_wr (am_wr (am_wr σ2 34 (8 * k + i) (-1)) 35 (8 * k + i) (-1)) 0 54 (nI (rj + 0))) 35 (8 * k + i) (nI P)) 34 (8 * k + i) (nI (fnd f z0 nx 0 c)))) rfl rfl rfl
        exact c_lst_in hd hM hmk hmv m (i + 1) _ c f h _ _ _ _ _ (by omega) (((((hK2.wr (by decide) _ _).wr (by decide) _ _).w0 (by decide) _).wr (by decide) _ _).wr (by decide) _ _) hT7 (by omega) hVA hC3 hA hN
      · by_cases hc100 : c = 100
        · skip
          refine am_run 2 (pc' := 54) (ls' := [some (.ref 0), some (.int (nI j)), some (.int (nI mk)), some (.int (nI (2 ^ pcn mk 21))), some (.int (nI 0)), some (.int (nI k)), some (.int (nI i)), v7, v8]) (st' := [.int (nI (2 ^ pcn mk 21)), .int (nI i)]) (σ' := σ') rfl ?_
          refine am_ic (ty := 57) (tn := 197) rfl (by decide) rfl rfl (fun (h_1 : nI i < nI (2 ^ pcn mk 21)) => ?_) (fun (h_1 : ¬ (nI i < nI (2 ^ pcn mk 21))) => ?_)
          rotate_left
          · have h_1 : ¬ (i < 2 ^ pcn mk 21) := fun z => h_1 ((nI_ltI (by omega) (by omega)).mpr z)
            omega
          have h_1 : i < 2 ^ pcn mk 21 := (nI_ltI (by omega) (by omega)).mp h_1
          refine am_run 5 (pc' := 65) (ls' := [some (.ref 0), some (.int (nI j)), some (.int (nI mk)), some (.int (nI (2 ^ pcn mk 21))), some (.int (nI 0)), some (.int (nI k)), some (.int (nI i)), v7, v8]) (st' := [.int (nI k), .ref 32, .int (nI j), .ref 0]) (σ' := σ') rfl ?_
          refine am_ialdN (n := 101) (v := nI (f k)) rfl rfl rfl (by omega) f1 (by decide) ?_
          refine am_run 2 (pc' := 69) (ls' := [some (.ref 0), some (.int (nI j)), some (.int (nI mk)), some (.int (nI (2 ^ pcn mk 21))), some (.int (nI 0)), some (.int (nI k)), some (.int (nI i)), v7, v8]) (st' := [.int (nI i), .int (nI mk), .int (nI (f k)), .int (nI j), .ref 0]) (σ' := σ') rfl ?_
          refine am_invs (y := 241) (as := [.int (nI mk), .int (nI i)]) (rest := [.int (nI (f k)), .int (nI j), .ref 0]) rfl rfl rfl rfl rfl rfl (Nat.le_of_ble_eq_true rfl) ?_
          refine c_partOf (by omega) hmk (by omega) ?_
          show am_G _ M_X10_laysStates _ 72 [some (.ref 0), some (.int (nI j)), some (.int (nI mk)), some (.int (nI (2 ^ pcn mk 21))), some (.int (nI 0)), some (.int (nI k)), some (.int (nI i)), v7, v8] [.int (nI (pt mk i)), .int (nI (f k)), .int (nI j), .ref 0] σ'
          refine am_invv (y := 229) (b := 0) (as := [.int (nI j), .int (nI (f k)), .int (nI (pt mk i))]) (rest := []) rfl rfl rfl rfl rfl rfl rfl (Nat.le_of_ble_eq_true rfl) ?_
          refine c_settles1 (by omega) (hK.MI hM) f4 (hVA k hkc).2 (pt_lt mk i) hz (fun σ2 hS i38 i39 i40 i41 i42 i43 i44 i29 => ?_)
          have hK2 := hK.ks hS
          have hT2 := hT.ks hS
          have g2 := (hT2.2.2 k hkc).2.1
          have hC2 := hC.ks hS
          have c54 : σ2.1 0 54 = nI rj := hC2.2.1
          have g49 := hT2.2.1
          show am_G _ M_X10_laysStates _ 75 [some (.ref 0), some (.int (nI j)), some (.int (nI mk)), some (.int (nI (2 ^ pcn mk 21))), some (.int (nI 0)), some (.int (nI k)), some (.int (nI i)), v7, v8] [.int (nI 1)] σ2
          refine am_run 6 (pc' := 86) (ls' := [some (.ref 0), some (.int (nI j)), some (.int (nI mk)), some (.int (nI (2 ^ pcn mk 21))), some (.int (nI 0)), some (.int (nI k)), some (.int (nI i)), some (.int (nI 1)), v8]) (st' := [.int (nI 8 * nI k), .ref 34]) (σ' := σ2) rfl ?_
          refine am_top (v' := nI (8 * k)) (am_nmul _ _) ?_
          refine am_run 2 (pc' := 89) (ls' := [some (.ref 0), some (.int (nI j)), some (.int (nI mk)), some (.int (nI (2 ^ pcn mk 21))), some (.int (nI 0)), some (.int (nI k)), some (.int (nI i)), some (.int (nI 1)), v8]) (st' := [.int (nI (8 * k) + nI i), .ref 34]) (σ' := σ2) rfl ?_
          refine am_top (v' := nI (8 * k + i)) (nI_add _ _) ?_
          refine am_run 1 (pc' := 90) (ls' := [some (.ref 0), some (.int (nI j)), some (.int (nI mk)), some (.int (nI (2 ^ pcn mk 21))), some (.int (nI 0)), some (.int (nI k)), some (.int (nI i)), some (.int (nI 1)), v8]) (st' := [.int (-1), .int (nI (8 * k + i)), .ref 34]) (σ' := σ2) rfl ?_
          refine am_iastN (n := 808) rfl rfl rfl (by omega) (by decide) ?_
          refine am_run 5 (pc' := 100) (ls' := [some (.ref 0), some (.int (nI j)), some (.int (nI mk)), some (.int (nI (2 ^ pcn mk 21))), some (.int (nI 0)), some (.int (nI k)), some (.int (nI i)), some (.int (nI 1)), v8]) (st' := [.int (nI 8 * nI k), .ref 35]) (σ' := (am_wr σ2 34 (8 * k + i) (-1))) rfl ?_
          refine am_top (v' := nI (8 * k)) (am_nmul _ _) ?_
          refine am_run 2 (pc' := 103) (ls' := [some (.ref 0), some (.int (nI j)), some (.int (nI mk)), some (.int (nI (2 ^ pcn mk 21))), some (.int (nI 0)), some (.int (nI k)), some (.int (nI i)), some (.int (nI 1)), v8]) (st' := [.int (nI (8 * k) + nI i), .ref 35]) (σ' := (am_wr σ2 34 (8 * k + i) (-1))) rfl ?_
          refine am_top (v' := nI (8 * k + i)) (nI_add _ _) ?_
          refine am_run 1 (pc' := 104) (ls' := [some (.ref 0), some (.int (nI j)), some (.int (nI mk)), some (.int (nI (2 ^ pcn mk 21))), some (.int (nI 0)), some (.int (nI k)), some (.int (nI i)), some (.int (nI 1)), v8]) (st' := [.int (-1), .int (nI (8 * k + i)), .ref 35]) (σ' := (am_wr σ2 34 (8 * k + i) (-1))) rfl ?_
          refine am_iastN (n := 808) rfl rfl rfl (by omega) (by decide) ?_
          refine am_run 3 (pc' := 110) (ls' := [some (.ref 0), some (.int (nI j)), some (.int (nI mk)), some (.int (nI (2 ^ pcn mk 21))), some (.int (nI 0)), some (.int (nI k)), some (.int (nI i)), some (.int (nI 1)), v8]) (st' := [.int (σ2.1 0 54), .ref 0]) (σ' := (am_wr (am_wr σ2 34 (8 * k + i) (-1)) 35 (8 * k + i) (-1))) rfl ?_
          refine am_top (v' := nI rj) (by exact c54) ?_
          refine am_run 1 (pc' := 112) (ls' := [some (.ref 0), some (.int (nI j)), some (.int (nI mk)), some (.int (nI (2 ^ pcn mk 21))), some (.int (nI 0)), some (.int (nI k)), some (.int (nI i)), some (.int (nI 1)), v8]) (st' := [.int (nI 1), .int (nI rj), .ref 0]) (σ' := (am_wr (am_wr σ2 34 (8 * k + i) (-1)) 35 (8 * k + i) (-1))) rfl ?_
          refine am_if (ty := 119) (tn := 115) rfl (by decide) rfl rfl (fun (h_2 : nI 1 = 0) => ?_) (fun (h_2 : ¬ (nI 1 = 0)) => ?_)
          · exact absurd h_2 (by decide)
          refine am_run 3 (pc' := 121) (ls' := [some (.ref 0), some (.int (nI j)), some (.int (nI mk)), some (.int (nI (2 ^ pcn mk 21))), some (.int (nI 0)), some (.int (nI k)), some (.int (nI i)), some (.int (nI 1)), v8]) (st' := [.int (nI rj + nI 0), .ref 0]) (σ' := (am_wr (am_wr σ2 34 (8 * k + i) (-1)) 35 (8 * k + i) (-1))) rfl ?_
          refine am_top (v' := nI (rj + 0)) (nI_add _ _) ?_
          refine am_run 2 (pc' := 126) (ls' := [some (.ref 0), some (.int (nI j)), some (.int (nI mk)), some (.int (nI (2 ^ pcn mk 21))), some (.int (nI 0)), some (.int (nI k)), some (.int (nI i)), some (.int (nI 1)), v8]) (st' := [.int (nI 1)]) (σ' := (am_wr (am_wr (am_wr σ2 34 (8 * k + i) (-1)) 35 (8 * k + i) (-1)) 0 54 (nI (rj + 0)))) rfl ?_
          refine am_if (ty := 191) (tn := 129) rfl (by decide) rfl rfl (fun (h_3 : nI 1 = 0) => ?_) (fun (h_3 : ¬ (nI 1 = 0)) => ?_)
          · exact absurd h_3 (by decide)
          refine am_run 5 (pc' := 138) (ls' := [some (.ref 0), some (.int (nI j)), some (.int (nI mk)), some (.int (nI (2 ^ pcn mk 21))), some (.int (nI 0)), some (.int (nI k)), some (.int (nI i)), some (.int (nI 1)), v8]) (st' := [.int (nI 8 * nI k), .ref 35]) (σ' := (am_wr (am_wr (am_wr σ2 34 (8 * k + i) (-1)) 35 (8 * k + i) (-1)) 0 54 (nI (rj + 0)))) rfl ?_
          refine am_top (v' := nI (8 * k)) (am_nmul _ _) ?_
          refine am_run 2 (pc' := 141) (ls' := [some (.ref 0), some (.int (nI j)), some (.int (nI mk)), some (.int (nI (2 ^ pcn mk 21))), some (.int (nI 0)), some (.int (nI k)), some (.int (nI i)), some (.int (nI 1)), v8]) (st' := [.int (nI (8 * k) + nI i), .ref 35]) (σ' := (am_wr (am_wr (am_wr σ2 34 (8 * k + i) (-1)) 35 (8 * k + i) (-1)) 0 54 (nI (rj + 0)))) rfl ?_
          refine am_top (v' := nI (8 * k + i)) (nI_add _ _) ?_
          refine am_run 2 (pc' := 145) (ls' := [some (.ref 0), some (.int (nI j)), some (.int (nI mk)), some (.int (nI (2 ^ pcn mk 21))), some (.int (nI 0)), some (.int (nI k)), some (.int (nI i)), some (.int (nI 1)), v8]) (st' := [.int (σ2.1 0 42), .int (nI (8 * k + i)), .ref 35]) (σ' := (am_wr (am_wr (am_wr σ2 34 (8 * k + i) (-1)) 35 (8 * k + i) (-1)) 0 54 (nI (rj + 0)))) rfl ?_
          refine am_top (v' := nI P) (by exact i42) ?_
          refine am_iastN (n := 808) rfl rfl rfl (by omega) (by decide) ?_
          refine am_run 3 (pc' := 151) (ls' := [some (.ref 0), some (.int (nI j)), some (.int (nI mk)), some (.int (nI (2 ^ pcn mk 21))), some (.int (nI 0)), some (.int (nI k)), some (.int (nI i)), some (.int (nI 1)), v8]) (st' := [.int (σ2.1 0 44), .ref 0]) (σ' := (am_wr (am_wr (am_wr (am_wr σ2 34 (8 * k + i) (-1)) 35 (8 * k + i) (-1)) 0 54 (nI (rj + 0))) 35 (8 * k + i) (nI P))) rfl ?_
          refine am_top (v' := nI nx) (by exact i44) ?_
          refine am_run 3 (pc' := 157) (ls' := [some (.ref 0), some (.int (nI j)), some (.int (nI mk)), some (.int (nI (2 ^ pcn mk 21))), some (.int (nI 0)), some (.int (nI k)), some (.int (nI i)), some (.int (nI 1)), v8]) (st' := [.int (nI k), .ref 33, .int (nI nx), .ref 0]) (σ' := (am_wr (am_wr (am_wr (am_wr σ2 34 (8 * k + i) (-1)) 35 (8 * k + i) (-1)) 0 54 (nI (rj + 0))) 35 (8 * k + i) (nI P))) rfl ?_
          refine am_ialdN (n := 101) (v := nI (h k)) rfl rfl rfl (by omega) (by exact g2) (by decide) ?_
          refine am_run 2 (pc' := 160) (ls' := [some (.ref 0), some (.int (nI j)), some (.int (nI mk)), some (.int (nI (2 ^ pcn mk 21))), some (.int (nI 0)), some (.int (nI k)), some (.int (nI i)), some (.int (nI 1)), v8]) (st' := [.int (nI (h k) + nI 1), .int (nI nx), .ref 0]) (σ' := (am_wr (am_wr (am_wr (am_wr σ2 34 (8 * k + i) (-1)) 35 (8 * k + i) (-1)) 0 54 (nI (rj + 0))) 35 (8 * k + i) (nI P))) rfl ?_
          refine am_top (v' := nI (h k + 1)) (nI_add _ _) ?_
          refine am_invv (y := 242) (b := 0) (as := [.int (nI nx), .int (nI (h k + 1))]) (rest := []) rfl rfl rfl rfl rfl rfl rfl (Nat.le_of_ble_eq_true rfl) ?_
          have hT5 := hT2.keep (σ' := (am_wr (am_wr (am_wr (am_wr σ2 34 (8 * k + i) (-1)) 35 (8 * k + i) (-1)) 0 54 (nI (rj + 0))) 35 (8 * k + i) (nI P))) rfl rfl rfl
          refine c_numberOf (by omega) hT5 (by omega) (fun z => absurd z hfn) (fun _ => ?_)
          show am_G _ M_X10_laysStates _ 163 [some (.ref 0), some (.int (nI j)), some (.int (nI mk)), some (.int (nI (2 ^ pcn mk 21))), some (.int (nI 0)), some (.int (nI k)), some (.int (nI i)), some (.int (nI 1)), v8] [.int (nI c)] (am_wr (am_wr (am_wr (am_wr (am_wr (am_wr (am_wr σ2 34 (8 * k + i) (-1)) 35 (8 * k + i) (-1)) 0 54 (nI (rj + 0))) 35 (8 * k + i) (nI P)) 32 c (nI nx)) 33 c (nI (h k + 1))) 0 49 (nI (c + 1)))
          refine am_run 6 (pc' := 174) (ls' := [some (.ref 0), some (.int (nI j)), some (.int (nI mk)), some (.int (nI (2 ^ pcn mk 21))), some (.int (nI 0)), some (.int (nI k)), some (.int (nI i)), some (.int (nI 1)), some (.int (nI c))]) (st' := [.int (nI 8 * nI k), .ref 34]) (σ' := (am_wr (am_wr (am_wr (am_wr (am_wr (am_wr (am_wr σ2 34 (8 * k + i) (-1)) 35 (8 * k + i) (-1)) 0 54 (nI (rj + 0))) 35 (8 * k + i) (nI P)) 32 c (nI nx)) 33 c (nI (h k + 1))) 0 49 (nI (c + 1)))) rfl ?_
          refine am_top (v' := nI (8 * k)) (am_nmul _ _) ?_
          refine am_run 2 (pc' := 177) (ls' := [some (.ref 0), some (.int (nI j)), some (.int (nI mk)), some (.int (nI (2 ^ pcn mk 21))), some (.int (nI 0)), some (.int (nI k)), some (.int (nI i)), some (.int (nI 1)), some (.int (nI c))]) (st' := [.int (nI (8 * k) + nI i), .ref 34]) (σ' := (am_wr (am_wr (am_wr (am_wr (am_wr (am_wr (am_wr σ2 34 (8 * k + i) (-1)) 35 (8 * k + i) (-1)) 0 54 (nI (rj + 0))) 35 (8 * k + i) (nI P)) 32 c (nI nx)) 33 c (nI (h k + 1))) 0 49 (nI (c + 1)))) rfl ?_
          refine am_top (v' := nI (8 * k + i)) (nI_add _ _) ?_
          refine am_run 1 (pc' := 179) (ls' := [some (.ref 0), some (.int (nI j)), some (.int (nI mk)), some (.int (nI (2 ^ pcn mk 21))), some (.int (nI 0)), some (.int (nI k)), some (.int (nI i)), some (.int (nI 1)), some (.int (nI c))]) (st' := [.int (nI c), .int (nI (8 * k + i)), .ref 34]) (σ' := (am_wr (am_wr (am_wr (am_wr (am_wr (am_wr (am_wr σ2 34 (8 * k + i) (-1)) 35 (8 * k + i) (-1)) 0 54 (nI (rj + 0))) 35 (8 * k + i) (nI P)) 32 c (nI nx)) 33 c (nI (h k + 1))) 0 49 (nI (c + 1)))) rfl ?_
          refine am_iastN (n := 808) rfl rfl rfl (by omega) (by decide) ?_
          refine am_run 3 (pc' := 186) (ls' := [some (.ref 0), some (.int (nI j)), some (.int (nI mk)), some (.int (nI (2 ^ pcn mk 21))), some (.int (nI 0)), some (.int (nI k)), some (.int (nI i)), some (.int (nI 1)), some (.int (nI c))]) (st' := [.int (nI 100), .int (nI (c + 1))]) (σ' := (am_wr (am_wr (am_wr (am_wr (am_wr (am_wr (am_wr (am_wr σ2 34 (8 * k + i) (-1)) 35 (8 * k + i) (-1)) 0 54 (nI (rj + 0))) 35 (8 * k + i) (nI P)) 32 c (nI nx)) 33 c (nI (h k + 1))) 0 49 (nI (c + 1))) 34 (8 * k + i) (nI c))) rfl ?_
          refine am_ic (ty := 189) (tn := 191) rfl (by decide) rfl rfl (fun (h_4 : nI 100 < nI (c + 1)) => ?_) (fun (h_4 : ¬ (nI 100 < nI (c + 1))) => ?_)
          rotate_left
          · have h_4 : ¬ (100 < c + 1) := fun z => h_4 ((nI_ltI (by omega) (by omega)).mpr z)
            omega
          have h_4 : 100 < c + 1 := (nI_ltI (by omega) (by omega)).mp h_4
          refine am_run 1 (pc' := 190) (ls' := [some (.ref 0), some (.int (nI j)), some (.int (nI mk)), some (.int (nI (2 ^ pcn mk 21))), some (.int (nI 0)), some (.int (nI k)), some (.int (nI i)), some (.int (nI 1)), some (.int (nI c))]) (st' := [.int (nI 0)]) (σ' := (am_wr (am_wr (am_wr (am_wr (am_wr (am_wr (am_wr (am_wr σ2 34 (8 * k + i) (-1)) 35 (8 * k + i) (-1)) 0 54 (nI (rj + 0))) 35 (8 * k + i) (nI P)) 32 c (nI nx)) 33 c (nI (h k + 1))) 0 49 (nI (c + 1))) 34 (8 * k + i) (nI c))) rfl ?_
          refine am_retz rfl rfl (by decide) ?_
          have e : (ch_in p (r + 1) mk (m + 1) i k (c, f, tl, ld, rj)) = none := by show (if (oc p (r + 1) (f k) (pt mk i)).2.2.1 = 0 then _ else _) = _; rw [hz]; rw [if_pos rfl, if_neg hfn, if_pos hc100]
          rw [e] at hA
          exact hA _ ((((((((hK2.wr (by decide) _ _).wr (by decide) _ _).w0 (by decide) _).wr (by decide) _ _).wr (by decide) _ _).wr (by decide) _ _).w0 (by decide) _).wr (by decide) _ _) rfl
        · skip
          refine am_run 2 (pc' := 54) (ls' := [some (.ref 0), some (.int (nI j)), some (.int (nI mk)), some (.int (nI (2 ^ pcn mk 21))), some (.int (nI 0)), some (.int (nI k)), some (.int (nI i)), v7, v8]) (st' := [.int (nI (2 ^ pcn mk 21)), .int (nI i)]) (σ' := σ') rfl ?_
          refine am_ic (ty := 57) (tn := 197) rfl (by decide) rfl rfl (fun (h_1 : nI i < nI (2 ^ pcn mk 21)) => ?_) (fun (h_1 : ¬ (nI i < nI (2 ^ pcn mk 21))) => ?_)
          rotate_left
          · have h_1 : ¬ (i < 2 ^ pcn mk 21) := fun z => h_1 ((nI_ltI (by omega) (by omega)).mpr z)
            omega
          have h_1 : i < 2 ^ pcn mk 21 := (nI_ltI (by omega) (by omega)).mp h_1
          refine am_run 5 (pc' := 65) (ls' := [some (.ref 0), some (.int (nI j)), some (.int (nI mk)), some (.int (nI (2 ^ pcn mk 21))), some (.int (nI 0)), some (.int (nI k)), some (.int (nI i)), v7, v8]) (st' := [.int (nI k), .ref 32, .int (nI j), .ref 0]) (σ' := σ') rfl ?_
          refine am_ialdN (n := 101) (v := nI (f k)) rfl rfl rfl (by omega) f1 (by decide) ?_
          refine am_run 2 (pc' := 69) (ls' := [some (.ref 0), some (.int (nI j)), some (.int (nI mk)), some (.int (nI (2 ^ pcn mk 21))), some (.int (nI 0)), some (.int (nI k)), some (.int (nI i)), v7, v8]) (st' := [.int (nI i), .int (nI mk), .int (nI (f k)), .int (nI j), .ref 0]) (σ' := σ') rfl ?_
          refine am_invs (y := 241) (as := [.int (nI mk), .int (nI i)]) (rest := [.int (nI (f k)), .int (nI j), .ref 0]) rfl rfl rfl rfl rfl rfl (Nat.le_of_ble_eq_true rfl) ?_
          refine c_partOf (by omega) hmk (by omega) ?_
          show am_G _ M_X10_laysStates _ 72 [some (.ref 0), some (.int (nI j)), some (.int (nI mk)), some (.int (nI (2 ^ pcn mk 21))), some (.int (nI 0)), some (.int (nI k)), some (.int (nI i)), v7, v8] [.int (nI (pt mk i)), .int (nI (f k)), .int (nI j), .ref 0] σ'
          refine am_invv (y := 229) (b := 0) (as := [.int (nI j), .int (nI (f k)), .int (nI (pt mk i))]) (rest := []) rfl rfl rfl rfl rfl rfl rfl (Nat.le_of_ble_eq_true rfl) ?_
          refine c_settles1 (by omega) (hK.MI hM) f4 (hVA k hkc).2 (pt_lt mk i) hz (fun σ2 hS i38 i39 i40 i41 i42 i43 i44 i29 => ?_)
          have hK2 := hK.ks hS
          have hT2 := hT.ks hS
          have g2 := (hT2.2.2 k hkc).2.1
          have hC2 := hC.ks hS
          have c54 : σ2.1 0 54 = nI rj := hC2.2.1
          have g49 := hT2.2.1
          show am_G _ M_X10_laysStates _ 75 [some (.ref 0), some (.int (nI j)), some (.int (nI mk)), some (.int (nI (2 ^ pcn mk 21))), some (.int (nI 0)), some (.int (nI k)), some (.int (nI i)), v7, v8] [.int (nI 1)] σ2
          refine am_run 6 (pc' := 86) (ls' := [some (.ref 0), some (.int (nI j)), some (.int (nI mk)), some (.int (nI (2 ^ pcn mk 21))), some (.int (nI 0)), some (.int (nI k)), some (.int (nI i)), some (.int (nI 1)), v8]) (st' := [.int (nI 8 * nI k), .ref 34]) (σ' := σ2) rfl ?_
          refine am_top (v' := nI (8 * k)) (am_nmul _ _) ?_
          refine am_run 2 (pc' := 89) (ls' := [some (.ref 0), some (.int (nI j)), some (.int (nI mk)), some (.int (nI (2 ^ pcn mk 21))), some (.int (nI 0)), some (.int (nI k)), some (.int (nI i)), some (.int (nI 1)), v8]) (st' := [.int (nI (8 * k) + nI i), .ref 34]) (σ' := σ2) rfl ?_
          refine am_top (v' := nI (8 * k + i)) (nI_add _ _) ?_
          refine am_run 1 (pc' := 90) (ls' := [some (.ref 0), some (.int (nI j)), some (.int (nI mk)), some (.int (nI (2 ^ pcn mk 21))), some (.int (nI 0)), some (.int (nI k)), some (.int (nI i)), some (.int (nI 1)), v8]) (st' := [.int (-1), .int (nI (8 * k + i)), .ref 34]) (σ' := σ2) rfl ?_
          refine am_iastN (n := 808) rfl rfl rfl (by omega) (by decide) ?_
          refine am_run 5 (pc' := 100) (ls' := [some (.ref 0), some (.int (nI j)), some (.int (nI mk)), some (.int (nI (2 ^ pcn mk 21))), some (.int (nI 0)), some (.int (nI k)), some (.int (nI i)), some (.int (nI 1)), v8]) (st' := [.int (nI 8 * nI k), .ref 35]) (σ' := (am_wr σ2 34 (8 * k + i) (-1))) rfl ?_
          refine am_top (v' := nI (8 * k)) (am_nmul _ _) ?_
          refine am_run 2 (pc' := 103) (ls' := [some (.ref 0), some (.int (nI j)), some (.int (nI mk)), some (.int (nI (2 ^ pcn mk 21))), some (.int (nI 0)), some (.int (nI k)), some (.int (nI i)), some (.int (nI 1)), v8]) (st' := [.int (nI (8 * k) + nI i), .ref 35]) (σ' := (am_wr σ2 34 (8 * k + i) (-1))) rfl ?_
          refine am_top (v' := nI (8 * k + i)) (nI_add _ _) ?_
          refine am_run 1 (pc' := 104) (ls' := [some (.ref 0), some (.int (nI j)), some (.int (nI mk)), some (.int (nI (2 ^ pcn mk 21))), some (.int (nI 0)), some (.int (nI k)), some (.int (nI i)), some (.int (nI 1)), v8]) (st' := [.int (-1), .int (nI (8 * k + i)), .ref 35]) (σ' := (am_wr σ2 34 (8 * k + i) (-1))) rfl ?_
          refine am_iastN (n := 808) rfl rfl rfl (by omega) (by decide) ?_
          refine am_run 3 (pc' := 110) (ls' := [some (.ref 0), some (.int (nI j)), some (.int (nI mk)), some (.int (nI (2 ^ pcn mk 21))), some (.int (nI 0)), some (.int (nI k)), some (.int (nI i)), some (.int (nI 1)), v8]) (st' := [.int (σ2.1 0 54), .ref 0]) (σ' := (am_wr (am_wr σ2 34 (8 * k + i) (-1)) 35 (8 * k + i) (-1))) rfl ?_
          refine am_top (v' := nI rj) (by exact c54) ?_
          refine am_run 1 (pc' := 112) (ls' := [some (.ref 0), some (.int (nI j)), some (.int (nI mk)), some (.int (nI (2 ^ pcn mk 21))), some (.int (nI 0)), some (.int (nI k)), some (.int (nI i)), some (.int (nI 1)), v8]) (st' := [.int (nI 1), .int (nI rj), .ref 0]) (σ' := (am_wr (am_wr σ2 34 (8 * k + i) (-1)) 35 (8 * k + i) (-1))) rfl ?_
          refine am_if (ty := 119) (tn := 115) rfl (by decide) rfl rfl (fun (h_2 : nI 1 = 0) => ?_) (fun (h_2 : ¬ (nI 1 = 0)) => ?_)
          · exact absurd h_2 (by decide)
          refine am_run 3 (pc' := 121) (ls' := [some (.ref 0), some (.int (nI j)), some (.int (nI mk)), some (.int (nI (2 ^ pcn mk 21))), some (.int (nI 0)), some (.int (nI k)), some (.int (nI i)), some (.int (nI 1)), v8]) (st' := [.int (nI rj + nI 0), .ref 0]) (σ' := (am_wr (am_wr σ2 34 (8 * k + i) (-1)) 35 (8 * k + i) (-1))) rfl ?_
          refine am_top (v' := nI (rj + 0)) (nI_add _ _) ?_
          refine am_run 2 (pc' := 126) (ls' := [some (.ref 0), some (.int (nI j)), some (.int (nI mk)), some (.int (nI (2 ^ pcn mk 21))), some (.int (nI 0)), some (.int (nI k)), some (.int (nI i)), some (.int (nI 1)), v8]) (st' := [.int (nI 1)]) (σ' := (am_wr (am_wr (am_wr σ2 34 (8 * k + i) (-1)) 35 (8 * k + i) (-1)) 0 54 (nI (rj + 0)))) rfl ?_
          refine am_if (ty := 191) (tn := 129) rfl (by decide) rfl rfl (fun (h_3 : nI 1 = 0) => ?_) (fun (h_3 : ¬ (nI 1 = 0)) => ?_)
          · exact absurd h_3 (by decide)
          refine am_run 5 (pc' := 138) (ls' := [some (.ref 0), some (.int (nI j)), some (.int (nI mk)), some (.int (nI (2 ^ pcn mk 21))), some (.int (nI 0)), some (.int (nI k)), some (.int (nI i)), some (.int (nI 1)), v8]) (st' := [.int (nI 8 * nI k), .ref 35]) (σ' := (am_wr (am_wr (am_wr σ2 34 (8 * k + i) (-1)) 35 (8 * k + i) (-1)) 0 54 (nI (rj + 0)))) rfl ?_
          refine am_top (v' := nI (8 * k)) (am_nmul _ _) ?_
          refine am_run 2 (pc' := 141) (ls' := [some (.ref 0), some (.int (nI j)), some (.int (nI mk)), some (.int (nI (2 ^ pcn mk 21))), some (.int (nI 0)), some (.int (nI k)), some (.int (nI i)), some (.int (nI 1)), v8]) (st' := [.int (nI (8 * k) + nI i), .ref 35]) (σ' := (am_wr (am_wr (am_wr σ2 34 (8 * k + i) (-1)) 35 (8 * k + i) (-1)) 0 54 (nI (rj + 0)))) rfl ?_
          refine am_top (v' := nI (8 * k + i)) (nI_add _ _) ?_
          refine am_run 2 (pc' := 145) (ls' := [some (.ref 0), some (.int (nI j)), some (.int (nI mk)), some (.int (nI (2 ^ pcn mk 21))), some (.int (nI 0)), some (.int (nI k)), some (.int (nI i)), some (.int (nI 1)), v8]) (st' := [.int (σ2.1 0 42), .int (nI (8 * k + i)), .ref 35]) (σ' := (am_wr (am_wr (am_wr σ2 34 (8 * k + i) (-1)) 35 (8 * k + i) (-1)) 0 54 (nI (rj + 0)))) rfl ?_
          refine am_top (v' := nI P) (by exact i42) ?_
          refine am_iastN (n := 808) rfl rfl rfl (by omega) (by decide) ?_
          refine am_run 3 (pc' := 151) (ls' := [some (.ref 0), some (.int (nI j)), some (.int (nI mk)), some (.int (nI (2 ^ pcn mk 21))), some (.int (nI 0)), some (.int (nI k)), some (.int (nI i)), some (.int (nI 1)), v8]) (st' := [.int (σ2.1 0 44), .ref 0]) (σ' := (am_wr (am_wr (am_wr (am_wr σ2 34 (8 * k + i) (-1)) 35 (8 * k + i) (-1)) 0 54 (nI (rj + 0))) 35 (8 * k + i) (nI P))) rfl ?_
          refine am_top (v' := nI nx) (by exact i44) ?_
          refine am_run 3 (pc' := 157) (ls' := [some (.ref 0), some (.int (nI j)), some (.int (nI mk)), some (.int (nI (2 ^ pcn mk 21))), some (.int (nI 0)), some (.int (nI k)), some (.int (nI i)), some (.int (nI 1)), v8]) (st' := [.int (nI k), .ref 33, .int (nI nx), .ref 0]) (σ' := (am_wr (am_wr (am_wr (am_wr σ2 34 (8 * k + i) (-1)) 35 (8 * k + i) (-1)) 0 54 (nI (rj + 0))) 35 (8 * k + i) (nI P))) rfl ?_
          refine am_ialdN (n := 101) (v := nI (h k)) rfl rfl rfl (by omega) (by exact g2) (by decide) ?_
          refine am_run 2 (pc' := 160) (ls' := [some (.ref 0), some (.int (nI j)), some (.int (nI mk)), some (.int (nI (2 ^ pcn mk 21))), some (.int (nI 0)), some (.int (nI k)), some (.int (nI i)), some (.int (nI 1)), v8]) (st' := [.int (nI (h k) + nI 1), .int (nI nx), .ref 0]) (σ' := (am_wr (am_wr (am_wr (am_wr σ2 34 (8 * k + i) (-1)) 35 (8 * k + i) (-1)) 0 54 (nI (rj + 0))) 35 (8 * k + i) (nI P))) rfl ?_
          refine am_top (v' := nI (h k + 1)) (nI_add _ _) ?_
          refine am_invv (y := 242) (b := 0) (as := [.int (nI nx), .int (nI (h k + 1))]) (rest := []) rfl rfl rfl rfl rfl rfl rfl (Nat.le_of_ble_eq_true rfl) ?_
          have hT5 := hT2.keep (σ' := (am_wr (am_wr (am_wr (am_wr σ2 34 (8 * k + i) (-1)) 35 (8 * k + i) (-1)) 0 54 (nI (rj + 0))) 35 (8 * k + i) (nI P))) rfl rfl rfl
          refine c_numberOf (by omega) hT5 (by omega) (fun z => absurd z hfn) (fun _ => ?_)
          show am_G _ M_X10_laysStates _ 163 [some (.ref 0), some (.int (nI j)), some (.int (nI mk)), some (.int (nI (2 ^ pcn mk 21))), some (.int (nI 0)), some (.int (nI k)), some (.int (nI i)), some (.int (nI 1)), v8] [.int (nI c)] (am_wr (am_wr (am_wr (am_wr (am_wr (am_wr (am_wr σ2 34 (8 * k + i) (-1)) 35 (8 * k + i) (-1)) 0 54 (nI (rj + 0))) 35 (8 * k + i) (nI P)) 32 c (nI nx)) 33 c (nI (h k + 1))) 0 49 (nI (c + 1)))
          refine am_run 6 (pc' := 174) (ls' := [some (.ref 0), some (.int (nI j)), some (.int (nI mk)), some (.int (nI (2 ^ pcn mk 21))), some (.int (nI 0)), some (.int (nI k)), some (.int (nI i)), some (.int (nI 1)), some (.int (nI c))]) (st' := [.int (nI 8 * nI k), .ref 34]) (σ' := (am_wr (am_wr (am_wr (am_wr (am_wr (am_wr (am_wr σ2 34 (8 * k + i) (-1)) 35 (8 * k + i) (-1)) 0 54 (nI (rj + 0))) 35 (8 * k + i) (nI P)) 32 c (nI nx)) 33 c (nI (h k + 1))) 0 49 (nI (c + 1)))) rfl ?_
          refine am_top (v' := nI (8 * k)) (am_nmul _ _) ?_
          refine am_run 2 (pc' := 177) (ls' := [some (.ref 0), some (.int (nI j)), some (.int (nI mk)), some (.int (nI (2 ^ pcn mk 21))), some (.int (nI 0)), some (.int (nI k)), some (.int (nI i)), some (.int (nI 1)), some (.int (nI c))]) (st' := [.int (nI (8 * k) + nI i), .ref 34]) (σ' := (am_wr (am_wr (am_wr (am_wr (am_wr (am_wr (am_wr σ2 34 (8 * k + i) (-1)) 35 (8 * k + i) (-1)) 0 54 (nI (rj + 0))) 35 (8 * k + i) (nI P)) 32 c (nI nx)) 33 c (nI (h k + 1))) 0 49 (nI (c + 1)))) rfl ?_
          refine am_top (v' := nI (8 * k + i)) (nI_add _ _) ?_
          refine am_run 1 (pc' := 179) (ls' := [some (.ref 0), some (.int (nI j)), some (.int (nI mk)), some (.int (nI (2 ^ pcn mk 21))), some (.int (nI 0)), some (.int (nI k)), some (.int (nI i)), some (.int (nI 1)), some (.int (nI c))]) (st' := [.int (nI c), .int (nI (8 * k + i)), .ref 34]) (σ' := (am_wr (am_wr (am_wr (am_wr (am_wr (am_wr (am_wr σ2 34 (8 * k + i) (-1)) 35 (8 * k + i) (-1)) 0 54 (nI (rj + 0))) 35 (8 * k + i) (nI P)) 32 c (nI nx)) 33 c (nI (h k + 1))) 0 49 (nI (c + 1)))) rfl ?_
          refine am_iastN (n := 808) rfl rfl rfl (by omega) (by decide) ?_
          refine am_run 3 (pc' := 186) (ls' := [some (.ref 0), some (.int (nI j)), some (.int (nI mk)), some (.int (nI (2 ^ pcn mk 21))), some (.int (nI 0)), some (.int (nI k)), some (.int (nI i)), some (.int (nI 1)), some (.int (nI c))]) (st' := [.int (nI 100), .int (nI (c + 1))]) (σ' := (am_wr (am_wr (am_wr (am_wr (am_wr (am_wr (am_wr (am_wr σ2 34 (8 * k + i) (-1)) 35 (8 * k + i) (-1)) 0 54 (nI (rj + 0))) 35 (8 * k + i) (nI P)) 32 c (nI nx)) 33 c (nI (h k + 1))) 0 49 (nI (c + 1))) 34 (8 * k + i) (nI c))) rfl ?_
          refine am_ic (ty := 189) (tn := 191) rfl (by decide) rfl rfl (fun (h_4 : nI 100 < nI (c + 1)) => ?_) (fun (h_4 : ¬ (nI 100 < nI (c + 1))) => ?_)
          · have h_4 : 100 < c + 1 := (nI_ltI (by omega) (by omega)).mp h_4
            omega
          have h_4 : ¬ (100 < c + 1) := fun z => h_4 ((nI_ltI (by omega) (by omega)).mpr z)
          refine am_run 1 (pc' := 194) (ls' := [some (.ref 0), some (.int (nI j)), some (.int (nI mk)), some (.int (nI (2 ^ pcn mk 21))), some (.int (nI 0)), some (.int (nI k)), some (.int (nI i + nI 1)), some (.int (nI 1)), some (.int (nI c))]) (st' := []) (σ' := (am_wr (am_wr (am_wr (am_wr (am_wr (am_wr (am_wr (am_wr σ2 34 (8 * k + i) (-1)) 35 (8 * k + i) (-1)) 0 54 (nI (rj + 0))) 35 (8 * k + i) (nI P)) 32 c (nI nx)) 33 c (nI (h k + 1))) 0 49 (nI (c + 1))) 34 (8 * k + i) (nI c))) rfl ?_
          refine am_ls (ls' := [some (.ref 0), some (.int (nI j)), some (.int (nI mk)), some (.int (nI (2 ^ pcn mk 21))), some (.int (nI 0)), some (.int (nI k)), some (.int (nI (i + 1))), some (.int (nI 1)), some (.int (nI c))]) (by rw [nI_add]) ?_
          refine am_run 1 (pc' := 51) (ls' := [some (.ref 0), some (.int (nI j)), some (.int (nI mk)), some (.int (nI (2 ^ pcn mk 21))), some (.int (nI 0)), some (.int (nI k)), some (.int (nI (i + 1))), some (.int (nI 1)), some (.int (nI c))]) (st' := []) (σ' := (am_wr (am_wr (am_wr (am_wr (am_wr (am_wr (am_wr (am_wr σ2 34 (8 * k + i) (-1)) 35 (8 * k + i) (-1)) 0 54 (nI (rj + 0))) 35 (8 * k + i) (nI P)) 32 c (nI nx)) 33 c (nI (h k + 1))) 0 49 (nI (c + 1))) 34 (8 * k + i) (nI c))) rfl ?_
          have e : (ch_in p (r + 1) mk (m + 1) i k (c, f, tl, ld, rj)) = (ch_in p (r + 1) mk m (i + 1) k (c + 1, up1 f c nx, up1 tl (8 * k + i) (P + 1), up1 ld (8 * k + i) (c + 1), rj)) := by show (if (oc p (r + 1) (f k) (pt mk i)).2.2.1 = 0 then _ else _) = _; rw [hz]; rw [if_pos rfl, if_neg hfn, if_neg hc100]
          rw [e] at hA hN
          have q35 : ∀ q, (am_wr (am_wr (am_wr (am_wr (am_wr (am_wr (am_wr (am_wr σ2 34 (8 * k + i) (-1)) 35 (8 * k + i) (-1)) 0 54 (nI (rj + 0))) 35 (8 * k + i) (nI P)) 32 c (nI nx)) 33 c (nI (h k + 1))) 0 49 (nI (c + 1))) 34 (8 * k + i) (nI c)).1 35 q = if q = 8 * k + i then nI P else σ2.1 35 q := fun q => by simp only [am_rd1]; by_cases z : q = 8 * k + i <;> simp [z]
          have q34 : ∀ q, (am_wr (am_wr (am_wr (am_wr (am_wr (am_wr (am_wr (am_wr σ2 34 (8 * k + i) (-1)) 35 (8 * k + i) (-1)) 0 54 (nI (rj + 0))) 35 (8 * k + i) (nI P)) 32 c (nI nx)) 33 c (nI (h k + 1))) 0 49 (nI (c + 1))) 34 (8 * k + i) (nI c)).1 34 q = if q = 8 * k + i then nI c else σ2.1 34 q := fun q => by simp only [am_rd1]; by_cases z : q = 8 * k + i <;> simp [z]
          have hC3 := hC2.add (σ' := (am_wr (am_wr (am_wr (am_wr (am_wr (am_wr (am_wr (am_wr σ2 34 (8 * k + i) (-1)) 35 (8 * k + i) (-1)) 0 54 (nI (rj + 0))) 35 (8 * k + i) (nI P)) 32 c (nI nx)) 33 c (nI (h k + 1))) 0 49 (nI (c + 1))) 34 (8 * k + i) (nI c))) (c' := c + 1) (f' := up1 f c nx) (rj' := rj) (v := P + 1) (l := c + 1) (by omega) (Nat.le_succ _) rfl (by omega) (fun q z => by rw [q34, if_neg z]) (fun q z => by rw [q35, if_neg z]) (by rw [q35, if_pos rfl, oI_s]) (by omega) (by rw [q34, if_pos rfl, oI_s]) (by omega) (by omega)
          have hT6 := hT5.add (a := nx) (st := h k + 1) (by omega) (by omega) (by omega)
          have hT7 := hT6.keep (σ' := (am_wr (am_wr (am_wr (am_wr (am_wr (am_wr (am_wr (am_wr σ2 34 (8 * k + i) (-1)) 35 (8 * k + i) (-1)) 0 54 (nI (rj + 0))) 35 (8 * k + i) (nI P)) 32 c (nI nx)) 33 c (nI (h k + 1))) 0 49 (nI (c + 1))) 34 (8 * k + i) (nI c))) rfl rfl rfl
          exact c_lst_in hd hM hmk hmv m (i + 1) _ (c + 1) (up1 f c nx) (up1 h c (h k + 1)) _ _ _ _ _ (by omega) ((((((((hK2.wr (by decide) _ _).wr (by decide) _ _).w0 (by decide) _).wr (by decide) _ _).wr (by decide) _ _).wr (by decide) _ _).w0 (by decide) _).wr (by decide) _ _) hT7 (by omega) (hVA.add hnv) hC3 hA hN
    · skip
      refine am_run 2 (pc' := 54) (ls' := [some (.ref 0), some (.int (nI j)), some (.int (nI mk)), some (.int (nI (2 ^ pcn mk 21))), some (.int (nI 0)), some (.int (nI k)), some (.int (nI i)), v7, v8]) (st' := [.int (nI (2 ^ pcn mk 21)), .int (nI i)]) (σ' := σ') rfl ?_
      refine am_ic (ty := 57) (tn := 197) rfl (by decide) rfl rfl (fun (h_1 : nI i < nI (2 ^ pcn mk 21)) => ?_) (fun (h_1 : ¬ (nI i < nI (2 ^ pcn mk 21))) => ?_)
      rotate_left
      · have h_1 : ¬ (i < 2 ^ pcn mk 21) := fun z => h_1 ((nI_ltI (by omega) (by omega)).mpr z)
        omega
      have h_1 : i < 2 ^ pcn mk 21 := (nI_ltI (by omega) (by omega)).mp h_1
      refine am_run 5 (pc' := 65) (ls' := [some (.ref 0), some (.int (nI j)), some (.int (nI mk)), some (.int (nI (2 ^ pcn mk 21))), some (.int (nI 0)), some (.int (nI k)), some (.int (nI i)), v7, v8]) (st' := [.int (nI k), .ref 32, .int (nI j), .ref 0]) (σ' := σ') rfl ?_
      refine am_ialdN (n := 101) (v := nI (f k)) rfl rfl rfl (by omega) f1 (by decide) ?_
      refine am_run 2 (pc' := 69) (ls' := [some (.ref 0), some (.int (nI j)), some (.int (nI mk)), some (.int (nI (2 ^ pcn mk 21))), some (.int (nI 0)), some (.int (nI k)), some (.int (nI i)), v7, v8]) (st' := [.int (nI i), .int (nI mk), .int (nI (f k)), .int (nI j), .ref 0]) (σ' := σ') rfl ?_
      refine am_invs (y := 241) (as := [.int (nI mk), .int (nI i)]) (rest := [.int (nI (f k)), .int (nI j), .ref 0]) rfl rfl rfl rfl rfl rfl (Nat.le_of_ble_eq_true rfl) ?_
      refine c_partOf (by omega) hmk (by omega) ?_
      show am_G _ M_X10_laysStates _ 72 [some (.ref 0), some (.int (nI j)), some (.int (nI mk)), some (.int (nI (2 ^ pcn mk 21))), some (.int (nI 0)), some (.int (nI k)), some (.int (nI i)), v7, v8] [.int (nI (pt mk i)), .int (nI (f k)), .int (nI j), .ref 0] σ'
      refine am_invv (y := 229) (b := 0) (as := [.int (nI j), .int (nI (f k)), .int (nI (pt mk i))]) (rest := []) rfl rfl rfl rfl rfl rfl rfl (Nat.le_of_ble_eq_true rfl) ?_
      refine c_settles0 (by omega) (hK.MI hM) f4 (hVA k hkc).2 (pt_lt mk i) hz hw0 (fun σ2 hS i38 i39 i40 i41 i29 => ?_)
      have hK2 := hK.ks hS
      have hT2 := hT.ks hS
      have g2 := (hT2.2.2 k hkc).2.1
      have hC2 := hC.ks hS
      have c54 : σ2.1 0 54 = nI rj := hC2.2.1
      have g49 := hT2.2.1
      show am_G _ M_X10_laysStates _ 75 [some (.ref 0), some (.int (nI j)), some (.int (nI mk)), some (.int (nI (2 ^ pcn mk 21))), some (.int (nI 0)), some (.int (nI k)), some (.int (nI i)), v7, v8] [.int (nI 0)] σ2
      refine am_run 6 (pc' := 86) (ls' := [some (.ref 0), some (.int (nI j)), some (.int (nI mk)), some (.int (nI (2 ^ pcn mk 21))), some (.int (nI 0)), some (.int (nI k)), some (.int (nI i)), some (.int (nI 0)), v8]) (st' := [.int (nI 8 * nI k), .ref 34]) (σ' := σ2) rfl ?_
      refine am_top (v' := nI (8 * k)) (am_nmul _ _) ?_
      refine am_run 2 (pc' := 89) (ls' := [some (.ref 0), some (.int (nI j)), some (.int (nI mk)), some (.int (nI (2 ^ pcn mk 21))), some (.int (nI 0)), some (.int (nI k)), some (.int (nI i)), some (.int (nI 0)), v8]) (st' := [.int (nI (8 * k) + nI i), .ref 34]) (σ' := σ2) rfl ?_
      refine am_top (v' := nI (8 * k + i)) (nI_add _ _) ?_
      refine am_run 1 (pc' := 90) (ls' := [some (.ref 0), some (.int (nI j)), some (.int (nI mk)), some (.int (nI (2 ^ pcn mk 21))), some (.int (nI 0)), some (.int (nI k)), some (.int (nI i)), some (.int (nI 0)), v8]) (st' := [.int (-1), .int (nI (8 * k + i)), .ref 34]) (σ' := σ2) rfl ?_
      refine am_iastN (n := 808) rfl rfl rfl (by omega) (by decide) ?_
      refine am_run 5 (pc' := 100) (ls' := [some (.ref 0), some (.int (nI j)), some (.int (nI mk)), some (.int (nI (2 ^ pcn mk 21))), some (.int (nI 0)), some (.int (nI k)), some (.int (nI i)), some (.int (nI 0)), v8]) (st' := [.int (nI 8 * nI k), .ref 35]) (σ' := (am_wr σ2 34 (8 * k + i) (-1))) rfl ?_
      refine am_top (v' := nI (8 * k)) (am_nmul _ _) ?_
      refine am_run 2 (pc' := 103) (ls' := [some (.ref 0), some (.int (nI j)), some (.int (nI mk)), some (.int (nI (2 ^ pcn mk 21))), some (.int (nI 0)), some (.int (nI k)), some (.int (nI i)), some (.int (nI 0)), v8]) (st' := [.int (nI (8 * k) + nI i), .ref 35]) (σ' := (am_wr σ2 34 (8 * k + i) (-1))) rfl ?_
      refine am_top (v' := nI (8 * k + i)) (nI_add _ _) ?_
      refine am_run 1 (pc' := 104) (ls' := [some (.ref 0), some (.int (nI j)), some (.int (nI mk)), some (.int (nI (2 ^ pcn mk 21))), some (.int (nI 0)), some (.int (nI k)), some (.int (nI i)), some (.int (nI 0)), v8]) (st' := [.int (-1), .int (nI (8 * k + i)), .ref 35]) (σ' := (am_wr σ2 34 (8 * k + i) (-1))) rfl ?_
      refine am_iastN (n := 808) rfl rfl rfl (by omega) (by decide) ?_
      refine am_run 3 (pc' := 110) (ls' := [some (.ref 0), some (.int (nI j)), some (.int (nI mk)), some (.int (nI (2 ^ pcn mk 21))), some (.int (nI 0)), some (.int (nI k)), some (.int (nI i)), some (.int (nI 0)), v8]) (st' := [.int (σ2.1 0 54), .ref 0]) (σ' := (am_wr (am_wr σ2 34 (8 * k + i) (-1)) 35 (8 * k + i) (-1))) rfl ?_
      refine am_top (v' := nI rj) (by exact c54) ?_
      refine am_run 1 (pc' := 112) (ls' := [some (.ref 0), some (.int (nI j)), some (.int (nI mk)), some (.int (nI (2 ^ pcn mk 21))), some (.int (nI 0)), some (.int (nI k)), some (.int (nI i)), some (.int (nI 0)), v8]) (st' := [.int (nI 0), .int (nI rj), .ref 0]) (σ' := (am_wr (am_wr σ2 34 (8 * k + i) (-1)) 35 (8 * k + i) (-1))) rfl ?_
      refine am_if (ty := 119) (tn := 115) rfl (by decide) rfl rfl (fun (h_2 : nI 0 = 0) => ?_) (fun (h_2 : ¬ (nI 0 = 0)) => ?_)
      rotate_left
      · exact absurd (by decide) h_2
      refine am_run 2 (pc' := 121) (ls' := [some (.ref 0), some (.int (nI j)), some (.int (nI mk)), some (.int (nI (2 ^ pcn mk 21))), some (.int (nI 0)), some (.int (nI k)), some (.int (nI i)), some (.int (nI 0)), v8]) (st' := [.int (nI rj + nI 1), .ref 0]) (σ' := (am_wr (am_wr σ2 34 (8 * k + i) (-1)) 35 (8 * k + i) (-1))) rfl ?_
      refine am_top (v' := nI (rj + 1)) (nI_add _ _) ?_
      refine am_run 2 (pc' := 126) (ls' := [some (.ref 0), some (.int (nI j)), some (.int (nI mk)), some (.int (nI (2 ^ pcn mk 21))), some (.int (nI 0)), some (.int (nI k)), some (.int (nI i)), some (.int (nI 0)), v8]) (st' := [.int (nI 0)]) (σ' := (am_wr (am_wr (am_wr σ2 34 (8 * k + i) (-1)) 35 (8 * k + i) (-1)) 0 54 (nI (rj + 1)))) rfl ?_
      refine am_if (ty := 191) (tn := 129) rfl (by decide) rfl rfl (fun (h_3 : nI 0 = 0) => ?_) (fun (h_3 : ¬ (nI 0 = 0)) => ?_)
      rotate_left
      · exact absurd (by decide) h_3
      refine am_run 1 (pc' := 194) (ls' := [some (.ref 0), some (.int (nI j)), some (.int (nI mk)), some (.int (nI (2 ^ pcn mk 21))), some (.int (nI 0)), some (.int (nI k)), some (.int (nI i + nI 1)), some (.int (nI 0)), v8]) (st' := []) (σ' := (am_wr (am_wr (am_wr σ2 34 (8 * k + i) (-1)) 35 (8 * k + i) (-1)) 0 54 (nI (rj + 1)))) rfl ?_
      refine am_ls (ls' := [some (.ref 0), some (.int (nI j)), some (.int (nI mk)), some (.int (nI (2 ^ pcn mk 21))), some (.int (nI 0)), some (.int (nI k)), some (.int (nI (i + 1))), some (.int (nI 0)), v8]) (by rw [nI_add]) ?_
      refine am_run 1 (pc' := 51) (ls' := [some (.ref 0), some (.int (nI j)), some (.int (nI mk)), some (.int (nI (2 ^ pcn mk 21))), some (.int (nI 0)), some (.int (nI k)), some (.int (nI (i + 1))), some (.int (nI 0)), v8]) (st' := []) (σ' := (am_wr (am_wr (am_wr σ2 34 (8 * k + i) (-1)) 35 (8 * k + i) (-1)) 0 54 (nI (rj + 1)))) rfl ?_
      have e : (ch_in p (r + 1) mk (m + 1) i k (c, f, tl, ld, rj)) = (ch_in p (r + 1) mk m (i + 1) k (c, f, up1 tl (8 * k + i) 0, up1 ld (8 * k + i) 0, rj + 1)) := by show (if (oc p (r + 1) (f k) (pt mk i)).2.2.1 = 0 then _ else _) = _; rw [hz]; rw [if_neg (show ¬ (P, A, w, c1, nx, rd).2.2.1 = 0 from hw0)]
      rw [e] at hA hN
      have q35 : ∀ q, (am_wr (am_wr (am_wr σ2 34 (8 * k + i) (-1)) 35 (8 * k + i) (-1)) 0 54 (nI (rj + 1))).1 35 q = if q = 8 * k + i then -1 else σ2.1 35 q := fun q => by simp only [am_rd1]; by_cases z : q = 8 * k + i <;> simp [z]
      have q34 : ∀ q, (am_wr (am_wr (am_wr σ2 34 (8 * k + i) (-1)) 35 (8 * k + i) (-1)) 0 54 (nI (rj + 1))).1 34 q = if q = 8 * k + i then -1 else σ2.1 34 q := fun q => by simp only [am_rd1]; by_cases z : q = 8 * k + i <;> simp [z]
      have hC3 := hC2.add (σ' := (am_wr (am_wr (am_wr σ2 34 (8 * k + i) (-1)) 35 (8 * k + i) (-1)) 0 54 (nI (rj + 1)))) (c' := c) (f' := f) (rj' := rj + 1) (v := 0) (l := 0) (by omega) (Nat.le_refl _) rfl (by omega) (fun q z => by rw [q34, if_neg z]) (fun q z => by rw [q35, if_neg z]) (by rw [q35, if_pos rfl, oI_0]) (by omega) (by rw [q34, if_pos rfl, oI_0]) (by omega) (by omega)
      have hT7 := hT2.keep (σ' := (am_wr (am_wr (am_wr σ2 34 (8 * k + i) (-1)) 35 (8 * k + i) (-1)) 0 54 (nI (rj + 1)))) rfl rfl rfl
      exact c_lst_in hd hM hmk hmv m (i + 1) _ c f h _ _ _ _ _ (by omega) (((hK2.wr (by decide) _ _).wr (by decide) _ _).w0 (by decide) _) hT7 (by omega) hVA hC3 hA hN
set_option maxRecDepth 10000 in
set_option maxHeartbeats 2000000 in
theorem c_lst_out {d : Nat} (hd : 20 ≤ d) {σ0 : am_M} {j n r mk : Nat} {p : Pg} {rk od dp : Nat → Nat} {ow : Nat → Nat → Nat} (hM : MI σ0 j p n r rk od dp ow) (hmk : mk < 256) (hmv : mkv mk) {Q : am_Q} : ∀ (M k : Nat) (σ' : am_M) (c : Nat) (f h tl ld : Nat → Nat) (rj : Nat) (v6 v7 v8 : Option Value), k + M = 100 → KY σ0 σ' → TM σ' c f h → 1 ≤ c → k ≤ c → VA p r c f → CM σ' (2 ^ pcn mk 21) k 0 (c, f, tl, ld, rj) → (∀ σ'', KY σ0 σ'' → (ch_out p (r + 1) mk M k (c, f, tl, ld, rj)) = none → Q (some (.int (nI 0))) σ'') → (∀ σ'' T', KY σ0 σ'' → (ch_out p (r + 1) mk M k (c, f, tl, ld, rj)) = some T' → CM σ'' (2 ^ pcn mk 21) T'.1 0 T' → σ''.1 0 49 = nI T'.1 → T'.1 ≤ 100 → 1 ≤ T'.1 → Q (some (.int (nI 1))) σ'') → am_G d M_X10_laysStates Q 30 [some (.ref 0), some (.int (nI j)), some (.int (nI mk)), some (.int (nI (2 ^ pcn mk 21))), some (.int (nI 0)), some (.int (nI k)), v6, v7, v8] [] σ'
  | 0, k, σ', c, f, h, tl, ld, rj, v6, v7, v8, hm, hK, hT, hc1, hkc0, hVA, hC, hA, hN => by
    have hcl := hT.1
    have e : c = k := by omega
    subst e
    refine am_run 3 (pc' := 36) (ls' := [some (.ref 0), some (.int (nI j)), some (.int (nI mk)), some (.int (nI (2 ^ pcn mk 21))), some (.int (nI 0)), some (.int (nI c)), v6, v7, v8]) (st' := [.int (σ'.1 0 49), .int (nI c)]) (σ' := σ') rfl ?_
    refine am_top (v' := nI c) hT.2.1 ?_
    refine am_ic (ty := 39) (tn := 203) rfl (by decide) rfl rfl (fun (h_1 : nI c < nI c) => ?_) (fun (h_1 : ¬ (nI c < nI c)) => ?_)
    · have h_1 : c < c := (nI_ltI (by omega) (by omega)).mp h_1
      omega
    have h_1 : ¬ (c < c) := fun z => h_1 ((nI_ltI (by omega) (by omega)).mpr z)
    refine am_run 1 (pc' := 204) (ls' := [some (.ref 0), some (.int (nI j)), some (.int (nI mk)), some (.int (nI (2 ^ pcn mk 21))), some (.int (nI 0)), some (.int (nI c)), v6, v7, v8]) (st' := [.int (nI 1)]) (σ' := σ') rfl ?_
    refine am_retz rfl rfl (by decide) ?_
    exact hN σ' (c, f, tl, ld, rj) hK rfl hC hT.2.1 (by show c ≤ 100; omega) (by show 1 ≤ c; omega)
  | M + 1, k, σ', c, f, h, tl, ld, rj, v6, v7, v8, hm, hK, hT, hc1, hkc0, hVA, hC, hA, hN => by
    have hcl := hT.1
    by_cases hkc : k < c
    · skip
      refine am_run 3 (pc' := 36) (ls' := [some (.ref 0), some (.int (nI j)), some (.int (nI mk)), some (.int (nI (2 ^ pcn mk 21))), some (.int (nI 0)), some (.int (nI k)), v6, v7, v8]) (st' := [.int (σ'.1 0 49), .int (nI k)]) (σ' := σ') rfl ?_
      refine am_top (v' := nI c) hT.2.1 ?_
      refine am_ic (ty := 39) (tn := 203) rfl (by decide) rfl rfl (fun (h_1 : nI k < nI c) => ?_) (fun (h_1 : ¬ (nI k < nI c)) => ?_)
      rotate_left
      · have h_1 : ¬ (k < c) := fun z => h_1 ((nI_ltI (by omega) (by omega)).mpr z)
        omega
      have h_1 : k < c := (nI_ltI (by omega) (by omega)).mp h_1
      refine am_run 2 (pc' := 43) (ls' := [some (.ref 0), some (.int (nI j)), some (.int (nI mk)), some (.int (nI (2 ^ pcn mk 21))), some (.int (nI 0)), some (.int (nI k)), v6, v7, v8]) (st' := [.int (σ'.1 0 49)]) (σ' := σ') rfl ?_
      refine am_top (v' := nI c) hT.2.1 ?_
      refine am_run 1 (pc' := 45) (ls' := [some (.ref 0), some (.int (nI j)), some (.int (nI mk)), some (.int (nI (2 ^ pcn mk 21))), some (.int (nI 0)), some (.int (nI k)), v6, v7, v8]) (st' := [.int (nI 100), .int (nI c)]) (σ' := σ') rfl ?_
      refine am_ic (ty := 203) (tn := 48) rfl (by decide) rfl rfl (fun (h_2 : nI 100 < nI c) => ?_) (fun (h_2 : ¬ (nI 100 < nI c)) => ?_)
      · have h_2 : 100 < c := (nI_ltI (by omega) (by omega)).mp h_2
        omega
      have h_2 : ¬ (100 < c) := fun z => h_2 ((nI_ltI (by omega) (by omega)).mpr z)
      refine am_run 2 (pc' := 51) (ls' := [some (.ref 0), some (.int (nI j)), some (.int (nI mk)), some (.int (nI (2 ^ pcn mk 21))), some (.int (nI 0)), some (.int (nI k)), some (.int (nI 0)), v7, v8]) (st' := []) (σ' := σ') rfl ?_
      refine c_lst_in hd hM hmk hmv (2 ^ pcn mk 21) 0 σ' c f h tl ld rj _ _ (by omega) hK hT hkc hVA hC (fun σ2 hK2 he => ?_) (fun σ2 c' f' h' tl' ld' rj' v6' v7' v8' hK2 he hT2 hVA2 hkc2 hC2 => ?_)
      · exact hA σ2 hK2 (by show (if k < c then _ else _) = _; rw [if_pos hkc, he])
      · have eo : (ch_out p (r + 1) mk (M + 1) k (c, f, tl, ld, rj)) = ch_out p (r + 1) mk M (k + 1) (c', f', tl', ld', rj') := by show (if k < c then _ else _) = _; rw [if_pos hkc, he]
        rw [eo] at hA hN
        refine am_run 1 (pc' := 200) (ls' := [some (.ref 0), some (.int (nI j)), some (.int (nI mk)), some (.int (nI (2 ^ pcn mk 21))), some (.int (nI 0)), some (.int (nI k + nI 1)), v6', v7', v8']) (st' := []) (σ' := σ2) rfl ?_
        refine am_ls (ls' := [some (.ref 0), some (.int (nI j)), some (.int (nI mk)), some (.int (nI (2 ^ pcn mk 21))), some (.int (nI 0)), some (.int (nI (k + 1))), v6', v7', v8']) (by rw [nI_add]) ?_
        refine am_run 1 (pc' := 30) (ls' := [some (.ref 0), some (.int (nI j)), some (.int (nI mk)), some (.int (nI (2 ^ pcn mk 21))), some (.int (nI 0)), some (.int (nI (k + 1))), v6', v7', v8']) (st' := []) (σ' := σ2) rfl ?_
        exact c_lst_out hd hM hmk hmv M (k + 1) σ2 c' f' h' tl' ld' rj' _ _ _ (by omega) hK2 hT2 (by omega) (by omega) hVA2 hC2.nx hA hN
    · have e : c = k := by omega
      subst e
      refine am_run 3 (pc' := 36) (ls' := [some (.ref 0), some (.int (nI j)), some (.int (nI mk)), some (.int (nI (2 ^ pcn mk 21))), some (.int (nI 0)), some (.int (nI c)), v6, v7, v8]) (st' := [.int (σ'.1 0 49), .int (nI c)]) (σ' := σ') rfl ?_
      refine am_top (v' := nI c) hT.2.1 ?_
      refine am_ic (ty := 39) (tn := 203) rfl (by decide) rfl rfl (fun (h_1 : nI c < nI c) => ?_) (fun (h_1 : ¬ (nI c < nI c)) => ?_)
      · have h_1 : c < c := (nI_ltI (by omega) (by omega)).mp h_1
        omega
      have h_1 : ¬ (c < c) := fun z => h_1 ((nI_ltI (by omega) (by omega)).mpr z)
      refine am_run 1 (pc' := 204) (ls' := [some (.ref 0), some (.int (nI j)), some (.int (nI mk)), some (.int (nI (2 ^ pcn mk 21))), some (.int (nI 0)), some (.int (nI c)), v6, v7, v8]) (st' := [.int (nI 1)]) (σ' := σ') rfl ?_
      refine am_retz rfl rfl (by decide) ?_
      exact hN σ' (c, f, tl, ld, rj) hK (by show (if c < c then _ else _) = _; rw [if_neg (Nat.lt_irrefl c)]) hC hT.2.1 (by show c ≤ 100; omega) (by show 1 ≤ c; omega)
set_option maxRecDepth 10000 in
set_option maxHeartbeats 2000000 in
theorem c_laysStates {d : Nat} (hd : 21 ≤ d) {σ : am_M} {j n r mk : Nat} {p : Pg} {rk od dp : Nat → Nat} {ow : Nat → Nat → Nat} (hM : MI σ j p n r rk od dp ow) (hmk : mk < 256) (hmv : mkv mk) {Q : am_Q} (hA : ∀ σ'', KY σ σ'' → ch_out p (r + 1) mk 100 0 (1, up1 z0 0 1048576, z0, z0, 0) = none → Q (some (.int (nI 0))) σ'') (hN : ∀ σ'' T', KY σ σ'' → ch_out p (r + 1) mk 100 0 (1, up1 z0 0 1048576, z0, z0, 0) = some T' → CM σ'' (2 ^ pcn mk 21) T'.1 0 T' → σ''.1 0 49 = nI T'.1 → T'.1 ≤ 100 → 1 ≤ T'.1 → Q (some (.int (nI 1))) σ'') : am_C d 243 [.ref 0, .int (nI j), .int (nI mk)] σ Q := by
  have h8 := ((mk_f mk hmk).2 hmv.2).1
  have hpl := hmv.2
  refine am_enter' (M := M_X10_laysStates) rfl rfl rfl (by omega) (ls := [some (.ref 0), some (.int (nI j)), some (.int (nI mk)), none, none, none, none, none, none]) rfl (fun d' hd' => ?_)
  refine am_run 2 (pc' := 2) (ls' := [some (.ref 0), some (.int (nI j)), some (.int (nI mk)), none, none, none, none, none, none]) (st' := [.int (nI mk), .int (nI 1)]) (σ' := σ) rfl ?_
  refine am_invs (y := 150) (as := [.int (nI mk)]) (rest := [.int (nI 1)]) rfl rfl rfl rfl rfl rfl (Nat.le_of_ble_eq_true rfl) ?_
  refine c_ones (by omega) (by omega) ?_
  show am_G _ M_X10_laysStates _ 5 [some (.ref 0), some (.int (nI j)), some (.int (nI mk)), none, none, none, none, none, none] [.int (nI (pcn mk 21)), .int (nI 1)] σ
  refine am_run 1 (pc' := 6) (ls' := [some (.ref 0), some (.int (nI j)), some (.int (nI mk)), none, none, none, none, none, none]) (st' := [.int ((nI 1) <<< ((nI (pcn mk 21)) &&& 31))]) (σ' := σ) rfl ?_
  refine am_top (v' := nI (2 ^ pcn mk 21)) (by rw [nx_shl _ (by omega), Nat.one_mul]) ?_
  refine am_run 10 (pc' := 21) (ls' := [some (.ref 0), some (.int (nI j)), some (.int (nI mk)), some (.int (nI (2 ^ pcn mk 21))), none, none, none, none, none]) (st' := [.int (nI 0), .int (nI 1048576), .ref 0]) (σ' := (am_wr (am_wr σ 0 49 (nI 0)) 0 54 (nI 0))) rfl ?_
  refine am_invv (y := 242) (b := 0) (as := [.int (nI 1048576), .int (nI 0)]) (rest := []) rfl rfl rfl rfl rfl rfl rfl (Nat.le_of_ble_eq_true rfl) ?_
  have hT6 : TM (am_wr (am_wr σ 0 49 (nI 0)) 0 54 (nI 0)) 0 z0 z0 := ⟨by decide, rfl, fun k z => absurd z (Nat.not_lt_zero _)⟩
  refine c_numberOf (by omega) hT6 (a := 1048576) (by decide) (fun z => absurd z (Nat.not_lt_zero _)) (fun _ => ?_)
  have hT7 := hT6.add (a := 1048576) (by decide) (by decide) (Nat.le_refl 0)
  rw [up1_z] at hT7
  show am_G _ M_X10_laysStates _ 24 [some (.ref 0), some (.int (nI j)), some (.int (nI mk)), some (.int (nI (2 ^ pcn mk 21))), none, none, none, none, none] [.int (nI 0)] (am_wr (am_wr (am_wr (am_wr (am_wr σ 0 49 (nI 0)) 0 54 (nI 0)) 32 0 (nI 1048576)) 33 0 (nI 0)) 0 49 (nI (0 + 1)))
  refine am_run 3 (pc' := 30) (ls' := [some (.ref 0), some (.int (nI j)), some (.int (nI mk)), some (.int (nI (2 ^ pcn mk 21))), some (.int (nI 0)), some (.int (nI 0)), none, none, none]) (st' := []) (σ' := (am_wr (am_wr (am_wr (am_wr (am_wr σ 0 49 (nI 0)) 0 54 (nI 0)) 32 0 (nI 1048576)) 33 0 (nI 0)) 0 49 (nI (0 + 1)))) rfl ?_
  have hVA1 : VA p r 1 (up1 z0 0 1048576) := fun k hk => by rw [show k = 0 by omega, up1_s]; exact ⟨Nat.le_refl _, Or.inr (Or.inl rfl)⟩
  exact c_lst_out (by omega) hM hmk hmv 100 0 _ 1 (up1 z0 0 1048576) z0 _ _ _ _ _ _ rfl ((((((KY.rf σ).w0 (by decide) _).w0 (by decide) _).wr (by decide) _ _).wr (by decide) _ _).w0 (by decide) _) hT7 (Nat.le_refl 1) (Nat.zero_le _) hVA1 ⟨h8, rfl, Nat.zero_le _, fun a b e => absurd e.2 (by omega)⟩ hA hN

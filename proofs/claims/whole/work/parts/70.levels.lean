set_option maxRecDepth 10000 in
set_option maxHeartbeats 2000000 in
theorem c_readSequence_loop {d : Nat} (hd : 5 ≤ d) {τ : Nat → Nat → Nat} {t L br m tr lc n0 : Nat} {tx : Nat → Nat} {f : Nat → Nat → PS → RS} (hT3 : T3 t) (ht : τ 44 1 = t) (hN : PCt d τ t L tx 89 f br m) (hlc : lc ≤ 3) (htr : tr + m ≤ 40) {μ0 : Nat → Nat → Int32} {Q : am_Q} : ∀ (g k : Nat) (μ : Nat → Nat → Int32) (S : PS) (l : Nat) (v6 : Option Value), k + g = 120 → KC μ0 μ t → XC μ L tx → CR μ t L S → n0 ≤ l → l < S.2.1 → (∀ μ' v k fp, p_lop tx L 59 f tr lc g S l = .inl (k, fp) → KC μ0 μ' t → XC μ' L tx → FR μ' k fp → Q (some (.int v)) (μ', τ)) → (∀ μ' S' r, p_lop tx L 59 f tr lc g S l = .inr (S', r) → KC μ0 μ' t → XC μ' L tx → CR μ' t L S' → n0 ≤ r → r < S'.2.1 → Q (some (.int (nI r))) (μ', τ)) → am_G d M_X6_readSequence Q 12 [some (.ref 44), some (.int (nI tr)), some (.int (nI lc)), some (.int (nI br)), some (.int (nI l)), some (.int (nI k)), v6] [] (μ, τ)
  | 0, k, μ, S, l, v6, hm, hK, hX, hC, hl0, hl, hF, hS => by
    have e : k = 120 := by omega
    subst e
    refine am_run 2 (pc' := 16) (ls' := [some (.ref 44), some (.int (nI tr)), some (.int (nI lc)), some (.int (nI br)), some (.int (nI l)), some (.int (nI 120)), v6]) (st' := [.int (nI 120), .int (nI 120)]) (σ' := (μ, τ)) rfl ?_
    refine am_ic (ty := 19) (tn := 72) rfl (by decide) rfl rfl (fun (h_1 : nI 120 < nI 120) => ?_) (fun (h_1 : ¬ (nI 120 < nI 120)) => ?_)
    · exact absurd h_1 (by decide)
    refine am_run 1 (pc' := 74) (ls' := [some (.ref 44), some (.int (nI tr)), some (.int (nI lc)), some (.int (nI br)), some (.int (nI l)), some (.int (nI 120)), v6]) (st' := [.int (nI l)]) (σ' := (μ, τ)) rfl ?_
    refine am_reti rfl rfl ?_
    exact hS μ S l rfl hK hX hC hl0 hl
  | g + 1, k, μ, S, l, v6, hm, hK, hX, hC, hl0, hl, hF, hS => by
    obtain ⟨k1, k2, k3⟩ := tk_le hX (lk tx L S.1)
    have hlk := lk_le (tx := tx) hC.1
    refine am_run 2 (pc' := 16) (ls' := [some (.ref 44), some (.int (nI tr)), some (.int (nI lc)), some (.int (nI br)), some (.int (nI l)), some (.int (nI k)), v6]) (st' := [.int (nI 120), .int (nI k)]) (σ' := (μ, τ)) rfl ?_
    refine am_ic (ty := 19) (tn := 72) rfl (by decide) rfl rfl (fun (h_1 : nI k < nI 120) => ?_) (fun (h_1 : ¬ (nI k < nI 120)) => ?_)
    rotate_left
    · have h_1 : ¬ (k < 120) := fun z => h_1 ((nI_ltI (by omega) (by omega)).mpr z)
      omega
    have h_1 : k < 120 := (nI_ltI (by omega) (by omega)).mp h_1
    refine am_run 2 (pc' := 22) (ls' := [some (.ref 44), some (.int (nI tr)), some (.int (nI lc)), some (.int (nI br)), some (.int (nI l)), some (.int (nI k)), v6]) (st' := [.int (nI 59), .ref 44]) (σ' := (μ, τ)) rfl ?_
    refine am_invv (y := 86) (b := 44) (as := [.int (nI 59)]) (rest := []) rfl rfl rfl rfl rfl rfl rfl (Nat.le_of_ble_eq_true rfl) ?_
    refine c_isNext (by omega) hT3 hX hC (y := 59) (by decide) (fun μ1 en hK1 hX1 hC1 => ?_) (fun μ1 en hK1 hX1 hC1 => ?_)
    · have hqL : lk tx L S.1 < L := k2 (by omega)
      show am_G _ M_X6_readSequence _ 25 [some (.ref 44), some (.int (nI tr)), some (.int (nI lc)), some (.int (nI br)), some (.int (nI l)), some (.int (nI k)), v6] [.int (nI 1)] (μ1, τ)
      refine am_if (ty := 72) (tn := 28) rfl (by decide) rfl rfl (fun (h_1201 : nI 1 = 0) => ?_) (fun (h_1201 : ¬ (nI 1 = 0)) => ?_)
      · exact absurd h_1201 (by decide)
      refine am_run 3 (pc' := 32) (ls' := [some (.ref 44), some (.int (nI tr)), some (.int (nI lc)), some (.int (nI br)), some (.int (nI l)), some (.int (nI k)), v6]) (st' := [.int (nI lc), .int (nI 59), .ref 44]) (σ' := (μ1, τ)) rfl ?_
      refine am_invv (y := 93) (b := 44) (as := [.int (nI 59), .int (nI lc)]) (rest := []) rfl rfl rfl rfl rfl rfl rfl (Nat.le_of_ble_eq_true rfl) ?_
      refine c_begin (by omega) hT3 hX1 hC1 ht (c := 59) (by show lk tx L S.1 < L; exact hqL) (by decide) hlc (fun μ2 kk2 hb0 hK2 hX2 hF2 => ?_) (fun μ2 hb0 hK2 hX2 hC2 => ?_)
      · have hk2 := hF2.2.2
        show am_G _ M_X6_readSequence _ 35 [some (.ref 44), some (.int (nI tr)), some (.int (nI lc)), some (.int (nI br)), some (.int (nI l)), some (.int (nI k)), v6] [.int (-1)] (μ2, τ)
        refine am_run 2 (pc' := 38) (ls' := [some (.ref 44), some (.int (nI tr)), some (.int (nI lc)), some (.int (nI br)), some (.int (nI l)), some (.int (nI k)), some (.int (-1))]) (st' := [.ref 44]) (σ' := (μ2, τ)) rfl ?_
        refine am_invv (y := 83) (b := 44) (as := []) (rest := []) rfl rfl rfl rfl rfl rfl rfl (Nat.le_of_ble_eq_true rfl) ?_
        refine am_enter' rfl rfl rfl (by omega) (ls := [some (.ref 44)]) rfl (fun d_1301 hd_1301 => ?_)
        refine am_run 2 (pc' := 4) (ls' := [some (.ref 44)]) (st' := [.int ((μ2, τ).1 44 3)]) (σ' := (μ2, τ)) rfl ?_
        refine am_top (v' := nI kk2) (hF2.1) ?_
        refine am_if (ty := 7) (tn := 11) rfl (by decide) rfl rfl (fun (h_1302 : nI kk2 = 0) => ?_) (fun (h_1302 : ¬ (nI kk2 = 0)) => ?_)
        · have h_1302 : kk2 = 0 := (am_n0 (by omega)).mp h_1302
          omega
        have h_1302 : ¬ (kk2 = 0) := fun z => h_1302 ((am_n0 (by omega)).mpr z)
        refine am_run 1 (pc' := 12) (ls' := [some (.ref 44)]) (st' := [.int (nI 0)]) (σ' := (μ2, τ)) rfl ?_
        refine am_retz rfl rfl (by decide) ?_
        show am_G _ M_X6_readSequence _ 41 [some (.ref 44), some (.int (nI tr)), some (.int (nI lc)), some (.int (nI br)), some (.int (nI l)), some (.int (nI k)), some (.int (-1))] [.int (nI 0)] (μ2, τ)
        refine am_if (ty := 62) (tn := 44) rfl (by decide) rfl rfl (fun (h_1303 : nI 0 = 0) => ?_) (fun (h_1303 : ¬ (nI 0 = 0)) => ?_)
        rotate_left
        · exact absurd (by decide) h_1303
        refine am_run 3 (pc' := 69) (ls' := [some (.ref 44), some (.int (nI tr)), some (.int (nI lc)), some (.int (nI br)), some (.int (-1)), some (.int (nI k + nI 1)), some (.int (-1))]) (st' := []) (σ' := (μ2, τ)) rfl ?_
        refine am_ls (ls' := [some (.ref 44), some (.int (nI tr)), some (.int (nI lc)), some (.int (nI br)), some (.int (-1)), some (.int (nI (k + 1))), some (.int (-1))]) (by rw [nI_add]) ?_
        refine am_run 3 (pc' := 16) (ls' := [some (.ref 44), some (.int (nI tr)), some (.int (nI lc)), some (.int (nI br)), some (.int (-1)), some (.int (nI (k + 1))), some (.int (-1))]) (st' := [.int (nI 120), .int (nI (k + 1))]) (σ' := (μ2, τ)) rfl ?_
        refine am_ic (ty := 19) (tn := 72) rfl (by decide) rfl rfl (fun (h_1304 : nI (k + 1) < nI 120) => ?_) (fun (h_1304 : ¬ (nI (k + 1) < nI 120)) => ?_)
        · have h_1304 : k + 1 < 120 := (nI_ltI (by omega) (by omega)).mp h_1304
          refine am_run 2 (pc' := 22) (ls' := [some (.ref 44), some (.int (nI tr)), some (.int (nI lc)), some (.int (nI br)), some (.int (-1)), some (.int (nI (k + 1))), some (.int (-1))]) (st' := [.int (nI 59), .ref 44]) (σ' := (μ2, τ)) rfl ?_
          refine am_invv (y := 86) (b := 44) (as := [.int (nI 59)]) (rest := []) rfl rfl rfl rfl rfl rfl rfl (Nat.le_of_ble_eq_true rfl) ?_
          refine c_isNext_f (by omega) hT3 hX2 hF2 ?_
          show am_G _ M_X6_readSequence _ 25 [some (.ref 44), some (.int (nI tr)), some (.int (nI lc)), some (.int (nI br)), some (.int (-1)), some (.int (nI (k + 1))), some (.int (-1))] [.int (nI 0)] (μ2, τ)
          refine am_if (ty := 72) (tn := 28) rfl (by decide) rfl rfl (fun (h_1305 : nI 0 = 0) => ?_) (fun (h_1305 : ¬ (nI 0 = 0)) => ?_)
          rotate_left
          · exact absurd (by decide) h_1305
          refine am_run 1 (pc' := 74) (ls' := [some (.ref 44), some (.int (nI tr)), some (.int (nI lc)), some (.int (nI br)), some (.int (-1)), some (.int (nI (k + 1))), some (.int (-1))]) (st' := [.int (-1)]) (σ' := (μ2, τ)) rfl ?_
          refine am_reti rfl rfl ?_
          exact hF μ2 _ _ _ (by show (if tk tx L (lk tx L S.1) = 59 then _ else _) = _; rw [if_pos en, show p_beg S 59 lc (lk tx L S.1) = _ from hb0]) ((hK.tr hK1).tr hK2) hX2 hF2
        · have h_1304 : ¬ (k + 1 < 120) := fun z => h_1304 ((nI_ltI (by omega) (by omega)).mpr z)
          refine am_run 1 (pc' := 74) (ls' := [some (.ref 44), some (.int (nI tr)), some (.int (nI lc)), some (.int (nI br)), some (.int (-1)), some (.int (nI (k + 1))), some (.int (-1))]) (st' := [.int (-1)]) (σ' := (μ2, τ)) rfl ?_
          refine am_reti rfl rfl ?_
          exact hF μ2 _ _ _ (by show (if tk tx L (lk tx L S.1) = 59 then _ else _) = _; rw [if_pos en, show p_beg S 59 lc (lk tx L S.1) = _ from hb0]) ((hK.tr hK1).tr hK2) hX2 hF2
      · have hb : p_beg S 59 lc (lk tx L S.1) = .inr (ps_add S 59 (lk tx L S.1)) := hb0
        have hC2 : CR μ2 t L (ps_add S 59 (lk tx L S.1)) := hC2
        show am_G _ M_X6_readSequence _ 35 [some (.ref 44), some (.int (nI tr)), some (.int (nI lc)), some (.int (nI br)), some (.int (nI l)), some (.int (nI k)), v6] [.int (nI S.2.1)] (μ2, τ)
        refine am_run 2 (pc' := 38) (ls' := [some (.ref 44), some (.int (nI tr)), some (.int (nI lc)), some (.int (nI br)), some (.int (nI l)), some (.int (nI k)), some (.int (nI S.2.1))]) (st' := [.ref 44]) (σ' := (μ2, τ)) rfl ?_
        refine am_invv (y := 83) (b := 44) (as := []) (rest := []) rfl rfl rfl rfl rfl rfl rfl (Nat.le_of_ble_eq_true rfl) ?_
        refine am_enter' rfl rfl rfl (by omega) (ls := [some (.ref 44)]) rfl (fun d_1351 hd_1351 => ?_)
        refine am_run 2 (pc' := 4) (ls' := [some (.ref 44)]) (st' := [.int ((μ2, τ).1 44 3)]) (σ' := (μ2, τ)) rfl ?_
        refine am_top (v' := nI 0) hC2.2.2.2.2.1 ?_
        refine am_if (ty := 7) (tn := 11) rfl (by decide) rfl rfl (fun (h_1352 : nI 0 = 0) => ?_) (fun (h_1352 : ¬ (nI 0 = 0)) => ?_)
        rotate_left
        · exact absurd (by decide) h_1352
        refine am_run 2 (pc' := 12) (ls' := [some (.ref 44)]) (st' := [.int (nI 1)]) (σ' := (μ2, τ)) rfl ?_
        refine am_retz rfl rfl (by decide) ?_
        show am_G _ M_X6_readSequence _ 41 [some (.ref 44), some (.int (nI tr)), some (.int (nI lc)), some (.int (nI br)), some (.int (nI l)), some (.int (nI k)), some (.int (nI S.2.1))] [.int (nI 1)] (μ2, τ)
        refine am_if (ty := 62) (tn := 44) rfl (by decide) rfl rfl (fun (h_1353 : nI 1 = 0) => ?_) (fun (h_1353 : ¬ (nI 1 = 0)) => ?_)
        · exact absurd h_1353 (by decide)
        refine am_run 2 (pc' := 48) (ls' := [some (.ref 44), some (.int (nI tr)), some (.int (nI lc)), some (.int (nI br)), some (.int (nI l)), some (.int (nI k)), some (.int (nI S.2.1))]) (st' := [.ref (τ 44 1)]) (σ' := (μ2, τ)) rfl ?_
        refine am_stk (st' := [.ref t]) (by rw [ht]) ?_
        refine am_run 6 (pc' := 56) (ls' := [some (.ref 44), some (.int (nI tr)), some (.int (nI lc)), some (.int (nI br)), some (.int (nI l)), some (.int (nI k)), some (.int (nI S.2.1))]) (st' := [.int (nI br), .int (nI lc), .int (nI tr), .ref 44, .int (nI l), .int (nI S.2.1), .ref t]) (σ' := (μ2, τ)) rfl ?_
        refine am_invv (y := 89) (b := 44) (as := [.int (nI tr), .int (nI lc), .int (nI br)]) (rest := [.int (nI l), .int (nI S.2.1), .ref t]) rfl rfl rfl rfl rfl rfl rfl (Nat.le_of_ble_eq_true rfl) ?_
        refine hN μ2 (ps_add S 59 (lk tx L S.1)) tr lc _ hX2 hC2 hlc htr (fun μ3 v3 kk3 fp3 e3 hK3 hX3 hF3 => ?_) (fun μ3 S3 r3 e3 hK3 hX3 hC3 hr3 hr3b => ?_)
        · show am_G _ M_X6_readSequence _ 59 [some (.ref 44), some (.int (nI tr)), some (.int (nI lc)), some (.int (nI br)), some (.int (nI l)), some (.int (nI k)), some (.int (nI S.2.1))] [.int v3, .int (nI l), .int (nI S.2.1), .ref t] (μ3, τ)
          refine am_invv (y := 111) (b := t) (as := [.int (nI S.2.1), .int (nI l), .int v3]) (rest := []) rfl rfl rfl rfl rfl rfl (t3_kind hT3) (Nat.le_of_ble_eq_true rfl) ?_
          refine c_setOps_f (by omega) hT3 (fun μ4 hK4 h444 => ?_)
          have hF4 := hF3.of h444
          have hX4 := hK4.xc hT3 hX3
          have hk4 := hF4.2.2
          show am_G _ M_X6_readSequence _ 62 [some (.ref 44), some (.int (nI tr)), some (.int (nI lc)), some (.int (nI br)), some (.int (nI l)), some (.int (nI k)), some (.int (nI S.2.1))] [] (μ4, τ)
          refine am_run 3 (pc' := 69) (ls' := [some (.ref 44), some (.int (nI tr)), some (.int (nI lc)), some (.int (nI br)), some (.int (nI S.2.1)), some (.int (nI k + nI 1)), some (.int (nI S.2.1))]) (st' := []) (σ' := (μ4, τ)) rfl ?_
          refine am_ls (ls' := [some (.ref 44), some (.int (nI tr)), some (.int (nI lc)), some (.int (nI br)), some (.int (nI S.2.1)), some (.int (nI (k + 1))), some (.int (nI S.2.1))]) (by rw [nI_add]) ?_
          refine am_run 3 (pc' := 16) (ls' := [some (.ref 44), some (.int (nI tr)), some (.int (nI lc)), some (.int (nI br)), some (.int (nI S.2.1)), some (.int (nI (k + 1))), some (.int (nI S.2.1))]) (st' := [.int (nI 120), .int (nI (k + 1))]) (σ' := (μ4, τ)) rfl ?_
          refine am_ic (ty := 19) (tn := 72) rfl (by decide) rfl rfl (fun (h_1501 : nI (k + 1) < nI 120) => ?_) (fun (h_1501 : ¬ (nI (k + 1) < nI 120)) => ?_)
          · have h_1501 : k + 1 < 120 := (nI_ltI (by omega) (by omega)).mp h_1501
            refine am_run 2 (pc' := 22) (ls' := [some (.ref 44), some (.int (nI tr)), some (.int (nI lc)), some (.int (nI br)), some (.int (nI S.2.1)), some (.int (nI (k + 1))), some (.int (nI S.2.1))]) (st' := [.int (nI 59), .ref 44]) (σ' := (μ4, τ)) rfl ?_
            refine am_invv (y := 86) (b := 44) (as := [.int (nI 59)]) (rest := []) rfl rfl rfl rfl rfl rfl rfl (Nat.le_of_ble_eq_true rfl) ?_
            refine c_isNext_f (by omega) hT3 hX4 hF4 ?_
            show am_G _ M_X6_readSequence _ 25 [some (.ref 44), some (.int (nI tr)), some (.int (nI lc)), some (.int (nI br)), some (.int (nI S.2.1)), some (.int (nI (k + 1))), some (.int (nI S.2.1))] [.int (nI 0)] (μ4, τ)
            refine am_if (ty := 72) (tn := 28) rfl (by decide) rfl rfl (fun (h_1502 : nI 0 = 0) => ?_) (fun (h_1502 : ¬ (nI 0 = 0)) => ?_)
            rotate_left
            · exact absurd (by decide) h_1502
            refine am_run 1 (pc' := 74) (ls' := [some (.ref 44), some (.int (nI tr)), some (.int (nI lc)), some (.int (nI br)), some (.int (nI S.2.1)), some (.int (nI (k + 1))), some (.int (nI S.2.1))]) (st' := [.int (nI S.2.1)]) (σ' := (μ4, τ)) rfl ?_
            refine am_reti rfl rfl ?_
            exact hF μ4 _ _ _ (by show (if tk tx L (lk tx L S.1) = 59 then _ else _) = _; rw [if_pos en, hb]; show (match f tr lc _ with | .inl e => _ | .inr (S2, r) => _) = _; rw [e3]) ((((hK.tr hK1).tr hK2).tr hK3).tr hK4) hX4 hF4
          · have h_1501 : ¬ (k + 1 < 120) := fun z => h_1501 ((nI_ltI (by omega) (by omega)).mpr z)
            refine am_run 1 (pc' := 74) (ls' := [some (.ref 44), some (.int (nI tr)), some (.int (nI lc)), some (.int (nI br)), some (.int (nI S.2.1)), some (.int (nI (k + 1))), some (.int (nI S.2.1))]) (st' := [.int (nI S.2.1)]) (σ' := (μ4, τ)) rfl ?_
            refine am_reti rfl rfl ?_
            exact hF μ4 _ _ _ (by show (if tk tx L (lk tx L S.1) = 59 then _ else _) = _; rw [if_pos en, hb]; show (match f tr lc _ with | .inl e => _ | .inr (S2, r) => _) = _; rw [e3]) ((((hK.tr hK1).tr hK2).tr hK3).tr hK4) hX4 hF4
        · have hr3 : S.2.1 + 1 ≤ r3 := hr3
          show am_G _ M_X6_readSequence _ 59 [some (.ref 44), some (.int (nI tr)), some (.int (nI lc)), some (.int (nI br)), some (.int (nI l)), some (.int (nI k)), some (.int (nI S.2.1))] [.int (nI r3), .int (nI l), .int (nI S.2.1), .ref t] (μ3, τ)
          refine am_invv (y := 111) (b := t) (as := [.int (nI S.2.1), .int (nI l), .int (nI r3)]) (rest := []) rfl rfl rfl rfl rfl rfl (t3_kind hT3) (Nat.le_of_ble_eq_true rfl) ?_
          refine c_setOpsN (by omega) hT3 hC3 (st := S.2.1) (l := l) (r := r3) (by omega) (by omega) (by omega) hr3b (by omega) (fun μ4 hK4 h444 hC4 => ?_)
          have hX4 := hK4.xc hT3 hX3
          show am_G _ M_X6_readSequence _ 62 [some (.ref 44), some (.int (nI tr)), some (.int (nI lc)), some (.int (nI br)), some (.int (nI l)), some (.int (nI k)), some (.int (nI S.2.1))] [] (μ4, τ)
          refine am_run 3 (pc' := 69) (ls' := [some (.ref 44), some (.int (nI tr)), some (.int (nI lc)), some (.int (nI br)), some (.int (nI S.2.1)), some (.int (nI k + nI 1)), some (.int (nI S.2.1))]) (st' := []) (σ' := (μ4, τ)) rfl ?_
          refine am_ls (ls' := [some (.ref 44), some (.int (nI tr)), some (.int (nI lc)), some (.int (nI br)), some (.int (nI S.2.1)), some (.int (nI (k + 1))), some (.int (nI S.2.1))]) (by rw [nI_add]) ?_
          refine am_run 1 (pc' := 12) (ls' := [some (.ref 44), some (.int (nI tr)), some (.int (nI lc)), some (.int (nI br)), some (.int (nI S.2.1)), some (.int (nI (k + 1))), some (.int (nI S.2.1))]) (st' := []) (σ' := (μ4, τ)) rfl ?_
          have eg : p_lop tx L 59 f tr lc (g + 1) S l = p_lop tx L 59 f tr lc g (ps_ops S3 S.2.1 (l + 1) (r3 + 1)) S.2.1 := by show (if tk tx L (lk tx L S.1) = 59 then _ else _) = _; rw [if_pos en, hb]; show (match f tr lc _ with | .inl e => _ | .inr (S2, r) => _) = _; rw [e3]
          rw [eg] at hF hS
          exact c_readSequence_loop hd hT3 ht hN hlc htr g (k + 1) μ4 (ps_ops S3 S.2.1 (l + 1) (r3 + 1)) S.2.1 _ (by omega) ((((hK.tr hK1).tr hK2).tr hK3).tr hK4) hX4 hC4 (by omega) (by show S.2.1 < S3.2.1; omega) hF hS
    · show am_G _ M_X6_readSequence _ 25 [some (.ref 44), some (.int (nI tr)), some (.int (nI lc)), some (.int (nI br)), some (.int (nI l)), some (.int (nI k)), v6] [.int (nI 0)] (μ1, τ)
      refine am_if (ty := 72) (tn := 28) rfl (by decide) rfl rfl (fun (h_1251 : nI 0 = 0) => ?_) (fun (h_1251 : ¬ (nI 0 = 0)) => ?_)
      rotate_left
      · exact absurd (by decide) h_1251
      refine am_run 1 (pc' := 74) (ls' := [some (.ref 44), some (.int (nI tr)), some (.int (nI lc)), some (.int (nI br)), some (.int (nI l)), some (.int (nI k)), v6]) (st' := [.int (nI l)]) (σ' := (μ1, τ)) rfl ?_
      refine am_reti rfl rfl ?_
      exact hS μ1 (ps_at S (lk tx L S.1)) l (by show (if tk tx L (lk tx L S.1) = 59 then _ else _) = _; rw [if_neg en]) (hK.tr hK1) hX1 hC1 hl0 hl
set_option maxRecDepth 10000 in
set_option maxHeartbeats 2000000 in
theorem PCt.seq {d : Nat} (hd : 5 ≤ d) {τ : Nat → Nat → Nat} {t L br m : Nat} {tx : Nat → Nat} {f : Nat → Nat → PS → RS} (hT3 : T3 t) (ht : τ 44 1 = t) (hN : PCt d τ t L tx 89 f br m) : PCt (d + 1) τ t L tx 88 (p_row tx L 59 f) br m := by
  intro μ S tr lc Q hX hC hlc htr hF hS
  refine am_enter' (M := M_X6_readSequence) rfl rfl rfl (by omega) (ls := [some (.ref 44), some (.int (nI tr)), some (.int (nI lc)), some (.int (nI br)), none, none, none]) rfl (fun d' hd' => ?_)
  refine am_run 4 (pc' := 4) (ls' := [some (.ref 44), some (.int (nI tr)), some (.int (nI lc)), some (.int (nI br)), none, none, none]) (st' := [.int (nI br), .int (nI lc), .int (nI tr), .ref 44]) (σ' := (μ, τ)) rfl ?_
  refine am_invv (y := 89) (b := 44) (as := [.int (nI tr), .int (nI lc), .int (nI br)]) (rest := []) rfl rfl rfl rfl rfl rfl rfl (Nat.le_of_ble_eq_true rfl) ?_
  obtain rfl : d = d' := by omega
  refine hN μ S tr lc _ hX hC hlc htr (fun μ1 v1 kk1 fp1 e1 hK1 hX1 hF1 => ?_) (fun μ1 S1 r1 e1 hK1 hX1 hC1 hr1 hr1b => ?_)
  · have hk1 := hF1.2.2
    show am_G _ M_X6_readSequence _ 7 [some (.ref 44), some (.int (nI tr)), some (.int (nI lc)), some (.int (nI br)), none, none, none] [.int v1] (μ1, τ)
    refine am_run 5 (pc' := 16) (ls' := [some (.ref 44), some (.int (nI tr)), some (.int (nI lc)), some (.int (nI br)), some (.int v1), some (.int (nI 0)), none]) (st' := [.int (nI 120), .int (nI 0)]) (σ' := (μ1, τ)) rfl ?_
    refine am_ic (ty := 19) (tn := 72) rfl (by decide) rfl rfl (fun (h_201 : nI 0 < nI 120) => ?_) (fun (h_201 : ¬ (nI 0 < nI 120)) => ?_)
    rotate_left
    · exact absurd (by decide) h_201
    refine am_run 2 (pc' := 22) (ls' := [some (.ref 44), some (.int (nI tr)), some (.int (nI lc)), some (.int (nI br)), some (.int v1), some (.int (nI 0)), none]) (st' := [.int (nI 59), .ref 44]) (σ' := (μ1, τ)) rfl ?_
    refine am_invv (y := 86) (b := 44) (as := [.int (nI 59)]) (rest := []) rfl rfl rfl rfl rfl rfl rfl (Nat.le_of_ble_eq_true rfl) ?_
    refine c_isNext_f (by omega) hT3 hX1 hF1 ?_
    show am_G _ M_X6_readSequence _ 25 [some (.ref 44), some (.int (nI tr)), some (.int (nI lc)), some (.int (nI br)), some (.int v1), some (.int (nI 0)), none] [.int (nI 0)] (μ1, τ)
    refine am_if (ty := 72) (tn := 28) rfl (by decide) rfl rfl (fun (h_202 : nI 0 = 0) => ?_) (fun (h_202 : ¬ (nI 0 = 0)) => ?_)
    rotate_left
    · exact absurd (by decide) h_202
    refine am_run 1 (pc' := 74) (ls' := [some (.ref 44), some (.int (nI tr)), some (.int (nI lc)), some (.int (nI br)), some (.int v1), some (.int (nI 0)), none]) (st' := [.int v1]) (σ' := (μ1, τ)) rfl ?_
    refine am_reti rfl rfl ?_
    exact hF μ1 _ kk1 fp1 (by unfold p_row; rw [e1]) hK1 hX1 hF1
  · have er : p_row tx L 59 f tr lc S = p_lop tx L 59 f tr lc 120 S1 r1 := by unfold p_row; rw [e1]
    rw [er] at hF hS
    show am_G _ M_X6_readSequence _ 7 [some (.ref 44), some (.int (nI tr)), some (.int (nI lc)), some (.int (nI br)), none, none, none] [.int (nI r1)] (μ1, τ)
    refine am_run 3 (pc' := 12) (ls' := [some (.ref 44), some (.int (nI tr)), some (.int (nI lc)), some (.int (nI br)), some (.int (nI r1)), some (.int (nI 0)), none]) (st' := []) (σ' := (μ1, τ)) rfl ?_
    exact c_readSequence_loop hd hT3 ht hN hlc htr 120 0 μ1 S1 r1 _ rfl hK1 hX1 hC1 hr1 hr1b hF hS
set_option maxRecDepth 10000 in
set_option maxHeartbeats 2000000 in
theorem c_readParallel_loop {d : Nat} (hd : 5 ≤ d) {τ : Nat → Nat → Nat} {t L br m tr lc n0 : Nat} {tx : Nat → Nat} {f : Nat → Nat → PS → RS} (hT3 : T3 t) (ht : τ 44 1 = t) (hN : PCt d τ t L tx 88 f br m) (hlc : lc ≤ 3) (htr : tr + m ≤ 40) {μ0 : Nat → Nat → Int32} {Q : am_Q} : ∀ (g k : Nat) (μ : Nat → Nat → Int32) (S : PS) (l : Nat) (v6 : Option Value), k + g = 120 → KC μ0 μ t → XC μ L tx → CR μ t L S → n0 ≤ l → l < S.2.1 → (∀ μ' v k fp, p_lop tx L 124 f tr lc g S l = .inl (k, fp) → KC μ0 μ' t → XC μ' L tx → FR μ' k fp → Q (some (.int v)) (μ', τ)) → (∀ μ' S' r, p_lop tx L 124 f tr lc g S l = .inr (S', r) → KC μ0 μ' t → XC μ' L tx → CR μ' t L S' → n0 ≤ r → r < S'.2.1 → Q (some (.int (nI r))) (μ', τ)) → am_G d M_X6_readParallel Q 12 [some (.ref 44), some (.int (nI tr)), some (.int (nI lc)), some (.int (nI br)), some (.int (nI l)), some (.int (nI k)), v6] [] (μ, τ)
  | 0, k, μ, S, l, v6, hm, hK, hX, hC, hl0, hl, hF, hS => by
    have e : k = 120 := by omega
    subst e
    refine am_run 2 (pc' := 16) (ls' := [some (.ref 44), some (.int (nI tr)), some (.int (nI lc)), some (.int (nI br)), some (.int (nI l)), some (.int (nI 120)), v6]) (st' := [.int (nI 120), .int (nI 120)]) (σ' := (μ, τ)) rfl ?_
    refine am_ic (ty := 19) (tn := 72) rfl (by decide) rfl rfl (fun (h_1 : nI 120 < nI 120) => ?_) (fun (h_1 : ¬ (nI 120 < nI 120)) => ?_)
    · exact absurd h_1 (by decide)
    refine am_run 1 (pc' := 74) (ls' := [some (.ref 44), some (.int (nI tr)), some (.int (nI lc)), some (.int (nI br)), some (.int (nI l)), some (.int (nI 120)), v6]) (st' := [.int (nI l)]) (σ' := (μ, τ)) rfl ?_
    refine am_reti rfl rfl ?_
    exact hS μ S l rfl hK hX hC hl0 hl
  | g + 1, k, μ, S, l, v6, hm, hK, hX, hC, hl0, hl, hF, hS => by
    obtain ⟨k1, k2, k3⟩ := tk_le hX (lk tx L S.1)
    have hlk := lk_le (tx := tx) hC.1
    refine am_run 2 (pc' := 16) (ls' := [some (.ref 44), some (.int (nI tr)), some (.int (nI lc)), some (.int (nI br)), some (.int (nI l)), some (.int (nI k)), v6]) (st' := [.int (nI 120), .int (nI k)]) (σ' := (μ, τ)) rfl ?_
    refine am_ic (ty := 19) (tn := 72) rfl (by decide) rfl rfl (fun (h_1 : nI k < nI 120) => ?_) (fun (h_1 : ¬ (nI k < nI 120)) => ?_)
    rotate_left
    · have h_1 : ¬ (k < 120) := fun z => h_1 ((nI_ltI (by omega) (by omega)).mpr z)
      omega
    have h_1 : k < 120 := (nI_ltI (by omega) (by omega)).mp h_1
    refine am_run 2 (pc' := 22) (ls' := [some (.ref 44), some (.int (nI tr)), some (.int (nI lc)), some (.int (nI br)), some (.int (nI l)), some (.int (nI k)), v6]) (st' := [.int (nI 124), .ref 44]) (σ' := (μ, τ)) rfl ?_
    refine am_invv (y := 86) (b := 44) (as := [.int (nI 124)]) (rest := []) rfl rfl rfl rfl rfl rfl rfl (Nat.le_of_ble_eq_true rfl) ?_
    refine c_isNext (by omega) hT3 hX hC (y := 124) (by decide) (fun μ1 en hK1 hX1 hC1 => ?_) (fun μ1 en hK1 hX1 hC1 => ?_)
    · have hqL : lk tx L S.1 < L := k2 (by omega)
      show am_G _ M_X6_readParallel _ 25 [some (.ref 44), some (.int (nI tr)), some (.int (nI lc)), some (.int (nI br)), some (.int (nI l)), some (.int (nI k)), v6] [.int (nI 1)] (μ1, τ)
      refine am_if (ty := 72) (tn := 28) rfl (by decide) rfl rfl (fun (h_1201 : nI 1 = 0) => ?_) (fun (h_1201 : ¬ (nI 1 = 0)) => ?_)
      · exact absurd h_1201 (by decide)
      refine am_run 3 (pc' := 32) (ls' := [some (.ref 44), some (.int (nI tr)), some (.int (nI lc)), some (.int (nI br)), some (.int (nI l)), some (.int (nI k)), v6]) (st' := [.int (nI lc), .int (nI 124), .ref 44]) (σ' := (μ1, τ)) rfl ?_
      refine am_invv (y := 93) (b := 44) (as := [.int (nI 124), .int (nI lc)]) (rest := []) rfl rfl rfl rfl rfl rfl rfl (Nat.le_of_ble_eq_true rfl) ?_
      refine c_begin (by omega) hT3 hX1 hC1 ht (c := 124) (by show lk tx L S.1 < L; exact hqL) (by decide) hlc (fun μ2 kk2 hb0 hK2 hX2 hF2 => ?_) (fun μ2 hb0 hK2 hX2 hC2 => ?_)
      · have hk2 := hF2.2.2
        show am_G _ M_X6_readParallel _ 35 [some (.ref 44), some (.int (nI tr)), some (.int (nI lc)), some (.int (nI br)), some (.int (nI l)), some (.int (nI k)), v6] [.int (-1)] (μ2, τ)
        refine am_run 2 (pc' := 38) (ls' := [some (.ref 44), some (.int (nI tr)), some (.int (nI lc)), some (.int (nI br)), some (.int (nI l)), some (.int (nI k)), some (.int (-1))]) (st' := [.ref 44]) (σ' := (μ2, τ)) rfl ?_
        refine am_invv (y := 83) (b := 44) (as := []) (rest := []) rfl rfl rfl rfl rfl rfl rfl (Nat.le_of_ble_eq_true rfl) ?_
        refine am_enter' rfl rfl rfl (by omega) (ls := [some (.ref 44)]) rfl (fun d_1301 hd_1301 => ?_)
        refine am_run 2 (pc' := 4) (ls' := [some (.ref 44)]) (st' := [.int ((μ2, τ).1 44 3)]) (σ' := (μ2, τ)) rfl ?_
        refine am_top (v' := nI kk2) (hF2.1) ?_
        refine am_if (ty := 7) (tn := 11) rfl (by decide) rfl rfl (fun (h_1302 : nI kk2 = 0) => ?_) (fun (h_1302 : ¬ (nI kk2 = 0)) => ?_)
        · have h_1302 : kk2 = 0 := (am_n0 (by omega)).mp h_1302
          omega
        have h_1302 : ¬ (kk2 = 0) := fun z => h_1302 ((am_n0 (by omega)).mpr z)
        refine am_run 1 (pc' := 12) (ls' := [some (.ref 44)]) (st' := [.int (nI 0)]) (σ' := (μ2, τ)) rfl ?_
        refine am_retz rfl rfl (by decide) ?_
        show am_G _ M_X6_readParallel _ 41 [some (.ref 44), some (.int (nI tr)), some (.int (nI lc)), some (.int (nI br)), some (.int (nI l)), some (.int (nI k)), some (.int (-1))] [.int (nI 0)] (μ2, τ)
        refine am_if (ty := 62) (tn := 44) rfl (by decide) rfl rfl (fun (h_1303 : nI 0 = 0) => ?_) (fun (h_1303 : ¬ (nI 0 = 0)) => ?_)
        rotate_left
        · exact absurd (by decide) h_1303
        refine am_run 3 (pc' := 69) (ls' := [some (.ref 44), some (.int (nI tr)), some (.int (nI lc)), some (.int (nI br)), some (.int (-1)), some (.int (nI k + nI 1)), some (.int (-1))]) (st' := []) (σ' := (μ2, τ)) rfl ?_
        refine am_ls (ls' := [some (.ref 44), some (.int (nI tr)), some (.int (nI lc)), some (.int (nI br)), some (.int (-1)), some (.int (nI (k + 1))), some (.int (-1))]) (by rw [nI_add]) ?_
        refine am_run 3 (pc' := 16) (ls' := [some (.ref 44), some (.int (nI tr)), some (.int (nI lc)), some (.int (nI br)), some (.int (-1)), some (.int (nI (k + 1))), some (.int (-1))]) (st' := [.int (nI 120), .int (nI (k + 1))]) (σ' := (μ2, τ)) rfl ?_
        refine am_ic (ty := 19) (tn := 72) rfl (by decide) rfl rfl (fun (h_1304 : nI (k + 1) < nI 120) => ?_) (fun (h_1304 : ¬ (nI (k + 1) < nI 120)) => ?_)
        · have h_1304 : k + 1 < 120 := (nI_ltI (by omega) (by omega)).mp h_1304
          refine am_run 2 (pc' := 22) (ls' := [some (.ref 44), some (.int (nI tr)), some (.int (nI lc)), some (.int (nI br)), some (.int (-1)), some (.int (nI (k + 1))), some (.int (-1))]) (st' := [.int (nI 124), .ref 44]) (σ' := (μ2, τ)) rfl ?_
          refine am_invv (y := 86) (b := 44) (as := [.int (nI 124)]) (rest := []) rfl rfl rfl rfl rfl rfl rfl (Nat.le_of_ble_eq_true rfl) ?_
          refine c_isNext_f (by omega) hT3 hX2 hF2 ?_
          show am_G _ M_X6_readParallel _ 25 [some (.ref 44), some (.int (nI tr)), some (.int (nI lc)), some (.int (nI br)), some (.int (-1)), some (.int (nI (k + 1))), some (.int (-1))] [.int (nI 0)] (μ2, τ)
          refine am_if (ty := 72) (tn := 28) rfl (by decide) rfl rfl (fun (h_1305 : nI 0 = 0) => ?_) (fun (h_1305 : ¬ (nI 0 = 0)) => ?_)
          rotate_left
          · exact absurd (by decide) h_1305
          refine am_run 1 (pc' := 74) (ls' := [some (.ref 44), some (.int (nI tr)), some (.int (nI lc)), some (.int (nI br)), some (.int (-1)), some (.int (nI (k + 1))), some (.int (-1))]) (st' := [.int (-1)]) (σ' := (μ2, τ)) rfl ?_
          refine am_reti rfl rfl ?_
          exact hF μ2 _ _ _ (by show (if tk tx L (lk tx L S.1) = 124 then _ else _) = _; rw [if_pos en, show p_beg S 124 lc (lk tx L S.1) = _ from hb0]) ((hK.tr hK1).tr hK2) hX2 hF2
        · have h_1304 : ¬ (k + 1 < 120) := fun z => h_1304 ((nI_ltI (by omega) (by omega)).mpr z)
          refine am_run 1 (pc' := 74) (ls' := [some (.ref 44), some (.int (nI tr)), some (.int (nI lc)), some (.int (nI br)), some (.int (-1)), some (.int (nI (k + 1))), some (.int (-1))]) (st' := [.int (-1)]) (σ' := (μ2, τ)) rfl ?_
          refine am_reti rfl rfl ?_
          exact hF μ2 _ _ _ (by show (if tk tx L (lk tx L S.1) = 124 then _ else _) = _; rw [if_pos en, show p_beg S 124 lc (lk tx L S.1) = _ from hb0]) ((hK.tr hK1).tr hK2) hX2 hF2
      · have hb : p_beg S 124 lc (lk tx L S.1) = .inr (ps_add S 124 (lk tx L S.1)) := hb0
        have hC2 : CR μ2 t L (ps_add S 124 (lk tx L S.1)) := hC2
        show am_G _ M_X6_readParallel _ 35 [some (.ref 44), some (.int (nI tr)), some (.int (nI lc)), some (.int (nI br)), some (.int (nI l)), some (.int (nI k)), v6] [.int (nI S.2.1)] (μ2, τ)
        refine am_run 2 (pc' := 38) (ls' := [some (.ref 44), some (.int (nI tr)), some (.int (nI lc)), some (.int (nI br)), some (.int (nI l)), some (.int (nI k)), some (.int (nI S.2.1))]) (st' := [.ref 44]) (σ' := (μ2, τ)) rfl ?_
        refine am_invv (y := 83) (b := 44) (as := []) (rest := []) rfl rfl rfl rfl rfl rfl rfl (Nat.le_of_ble_eq_true rfl) ?_
        refine am_enter' rfl rfl rfl (by omega) (ls := [some (.ref 44)]) rfl (fun d_1351 hd_1351 => ?_)
        refine am_run 2 (pc' := 4) (ls' := [some (.ref 44)]) (st' := [.int ((μ2, τ).1 44 3)]) (σ' := (μ2, τ)) rfl ?_
        refine am_top (v' := nI 0) hC2.2.2.2.2.1 ?_
        refine am_if (ty := 7) (tn := 11) rfl (by decide) rfl rfl (fun (h_1352 : nI 0 = 0) => ?_) (fun (h_1352 : ¬ (nI 0 = 0)) => ?_)
        rotate_left
        · exact absurd (by decide) h_1352
        refine am_run 2 (pc' := 12) (ls' := [some (.ref 44)]) (st' := [.int (nI 1)]) (σ' := (μ2, τ)) rfl ?_
        refine am_retz rfl rfl (by decide) ?_
        show am_G _ M_X6_readParallel _ 41 [some (.ref 44), some (.int (nI tr)), some (.int (nI lc)), some (.int (nI br)), some (.int (nI l)), some (.int (nI k)), some (.int (nI S.2.1))] [.int (nI 1)] (μ2, τ)
        refine am_if (ty := 62) (tn := 44) rfl (by decide) rfl rfl (fun (h_1353 : nI 1 = 0) => ?_) (fun (h_1353 : ¬ (nI 1 = 0)) => ?_)
        · exact absurd h_1353 (by decide)
        refine am_run 2 (pc' := 48) (ls' := [some (.ref 44), some (.int (nI tr)), some (.int (nI lc)), some (.int (nI br)), some (.int (nI l)), some (.int (nI k)), some (.int (nI S.2.1))]) (st' := [.ref (τ 44 1)]) (σ' := (μ2, τ)) rfl ?_
        refine am_stk (st' := [.ref t]) (by rw [ht]) ?_
        refine am_run 6 (pc' := 56) (ls' := [some (.ref 44), some (.int (nI tr)), some (.int (nI lc)), some (.int (nI br)), some (.int (nI l)), some (.int (nI k)), some (.int (nI S.2.1))]) (st' := [.int (nI br), .int (nI lc), .int (nI tr), .ref 44, .int (nI l), .int (nI S.2.1), .ref t]) (σ' := (μ2, τ)) rfl ?_
        refine am_invv (y := 88) (b := 44) (as := [.int (nI tr), .int (nI lc), .int (nI br)]) (rest := [.int (nI l), .int (nI S.2.1), .ref t]) rfl rfl rfl rfl rfl rfl rfl (Nat.le_of_ble_eq_true rfl) ?_
        refine hN μ2 (ps_add S 124 (lk tx L S.1)) tr lc _ hX2 hC2 hlc htr (fun μ3 v3 kk3 fp3 e3 hK3 hX3 hF3 => ?_) (fun μ3 S3 r3 e3 hK3 hX3 hC3 hr3 hr3b => ?_)
        · show am_G _ M_X6_readParallel _ 59 [some (.ref 44), some (.int (nI tr)), some (.int (nI lc)), some (.int (nI br)), some (.int (nI l)), some (.int (nI k)), some (.int (nI S.2.1))] [.int v3, .int (nI l), .int (nI S.2.1), .ref t] (μ3, τ)
          refine am_invv (y := 111) (b := t) (as := [.int (nI S.2.1), .int (nI l), .int v3]) (rest := []) rfl rfl rfl rfl rfl rfl (t3_kind hT3) (Nat.le_of_ble_eq_true rfl) ?_
          refine c_setOps_f (by omega) hT3 (fun μ4 hK4 h444 => ?_)
          have hF4 := hF3.of h444
          have hX4 := hK4.xc hT3 hX3
          have hk4 := hF4.2.2
          show am_G _ M_X6_readParallel _ 62 [some (.ref 44), some (.int (nI tr)), some (.int (nI lc)), some (.int (nI br)), some (.int (nI l)), some (.int (nI k)), some (.int (nI S.2.1))] [] (μ4, τ)
          refine am_run 3 (pc' := 69) (ls' := [some (.ref 44), some (.int (nI tr)), some (.int (nI lc)), some (.int (nI br)), some (.int (nI S.2.1)), some (.int (nI k + nI 1)), some (.int (nI S.2.1))]) (st' := []) (σ' := (μ4, τ)) rfl ?_
          refine am_ls (ls' := [some (.ref 44), some (.int (nI tr)), some (.int (nI lc)), some (.int (nI br)), some (.int (nI S.2.1)), some (.int (nI (k + 1))), some (.int (nI S.2.1))]) (by rw [nI_add]) ?_
          refine am_run 3 (pc' := 16) (ls' := [some (.ref 44), some (.int (nI tr)), some (.int (nI lc)), some (.int (nI br)), some (.int (nI S.2.1)), some (.int (nI (k + 1))), some (.int (nI S.2.1))]) (st' := [.int (nI 120), .int (nI (k + 1))]) (σ' := (μ4, τ)) rfl ?_
          refine am_ic (ty := 19) (tn := 72) rfl (by decide) rfl rfl (fun (h_1501 : nI (k + 1) < nI 120) => ?_) (fun (h_1501 : ¬ (nI (k + 1) < nI 120)) => ?_)
          · have h_1501 : k + 1 < 120 := (nI_ltI (by omega) (by omega)).mp h_1501
            refine am_run 2 (pc' := 22) (ls' := [some (.ref 44), some (.int (nI tr)), some (.int (nI lc)), some (.int (nI br)), some (.int (nI S.2.1)), some (.int (nI (k + 1))), some (.int (nI S.2.1))]) (st' := [.int (nI 124), .ref 44]) (σ' := (μ4, τ)) rfl ?_
            refine am_invv (y := 86) (b := 44) (as := [.int (nI 124)]) (rest := []) rfl rfl rfl rfl rfl rfl rfl (Nat.le_of_ble_eq_true rfl) ?_
            refine c_isNext_f (by omega) hT3 hX4 hF4 ?_
            show am_G _ M_X6_readParallel _ 25 [some (.ref 44), some (.int (nI tr)), some (.int (nI lc)), some (.int (nI br)), some (.int (nI S.2.1)), some (.int (nI (k + 1))), some (.int (nI S.2.1))] [.int (nI 0)] (μ4, τ)
            refine am_if (ty := 72) (tn := 28) rfl (by decide) rfl rfl (fun (h_1502 : nI 0 = 0) => ?_) (fun (h_1502 : ¬ (nI 0 = 0)) => ?_)
            rotate_left
            · exact absurd (by decide) h_1502
            refine am_run 1 (pc' := 74) (ls' := [some (.ref 44), some (.int (nI tr)), some (.int (nI lc)), some (.int (nI br)), some (.int (nI S.2.1)), some (.int (nI (k + 1))), some (.int (nI S.2.1))]) (st' := [.int (nI S.2.1)]) (σ' := (μ4, τ)) rfl ?_
            refine am_reti rfl rfl ?_
            exact hF μ4 _ _ _ (by show (if tk tx L (lk tx L S.1) = 124 then _ else _) = _; rw [if_pos en, hb]; show (match f tr lc _ with | .inl e => _ | .inr (S2, r) => _) = _; rw [e3]) ((((hK.tr hK1).tr hK2).tr hK3).tr hK4) hX4 hF4
          · have h_1501 : ¬ (k + 1 < 120) := fun z => h_1501 ((nI_ltI (by omega) (by omega)).mpr z)
            refine am_run 1 (pc' := 74) (ls' := [some (.ref 44), some (.int (nI tr)), some (.int (nI lc)), some (.int (nI br)), some (.int (nI S.2.1)), some (.int (nI (k + 1))), some (.int (nI S.2.1))]) (st' := [.int (nI S.2.1)]) (σ' := (μ4, τ)) rfl ?_
            refine am_reti rfl rfl ?_
            exact hF μ4 _ _ _ (by show (if tk tx L (lk tx L S.1) = 124 then _ else _) = _; rw [if_pos en, hb]; show (match f tr lc _ with | .inl e => _ | .inr (S2, r) => _) = _; rw [e3]) ((((hK.tr hK1).tr hK2).tr hK3).tr hK4) hX4 hF4
        · have hr3 : S.2.1 + 1 ≤ r3 := hr3
          show am_G _ M_X6_readParallel _ 59 [some (.ref 44), some (.int (nI tr)), some (.int (nI lc)), some (.int (nI br)), some (.int (nI l)), some (.int (nI k)), some (.int (nI S.2.1))] [.int (nI r3), .int (nI l), .int (nI S.2.1), .ref t] (μ3, τ)
          refine am_invv (y := 111) (b := t) (as := [.int (nI S.2.1), .int (nI l), .int (nI r3)]) (rest := []) rfl rfl rfl rfl rfl rfl (t3_kind hT3) (Nat.le_of_ble_eq_true rfl) ?_
          refine c_setOpsN (by omega) hT3 hC3 (st := S.2.1) (l := l) (r := r3) (by omega) (by omega) (by omega) hr3b (by omega) (fun μ4 hK4 h444 hC4 => ?_)
          have hX4 := hK4.xc hT3 hX3
          show am_G _ M_X6_readParallel _ 62 [some (.ref 44), some (.int (nI tr)), some (.int (nI lc)), some (.int (nI br)), some (.int (nI l)), some (.int (nI k)), some (.int (nI S.2.1))] [] (μ4, τ)
          refine am_run 3 (pc' := 69) (ls' := [some (.ref 44), some (.int (nI tr)), some (.int (nI lc)), some (.int (nI br)), some (.int (nI S.2.1)), some (.int (nI k + nI 1)), some (.int (nI S.2.1))]) (st' := []) (σ' := (μ4, τ)) rfl ?_
          refine am_ls (ls' := [some (.ref 44), some (.int (nI tr)), some (.int (nI lc)), some (.int (nI br)), some (.int (nI S.2.1)), some (.int (nI (k + 1))), some (.int (nI S.2.1))]) (by rw [nI_add]) ?_
          refine am_run 1 (pc' := 12) (ls' := [some (.ref 44), some (.int (nI tr)), some (.int (nI lc)), some (.int (nI br)), some (.int (nI S.2.1)), some (.int (nI (k + 1))), some (.int (nI S.2.1))]) (st' := []) (σ' := (μ4, τ)) rfl ?_
          have eg : p_lop tx L 124 f tr lc (g + 1) S l = p_lop tx L 124 f tr lc g (ps_ops S3 S.2.1 (l + 1) (r3 + 1)) S.2.1 := by show (if tk tx L (lk tx L S.1) = 124 then _ else _) = _; rw [if_pos en, hb]; show (match f tr lc _ with | .inl e => _ | .inr (S2, r) => _) = _; rw [e3]
          rw [eg] at hF hS
          exact c_readParallel_loop hd hT3 ht hN hlc htr g (k + 1) μ4 (ps_ops S3 S.2.1 (l + 1) (r3 + 1)) S.2.1 _ (by omega) ((((hK.tr hK1).tr hK2).tr hK3).tr hK4) hX4 hC4 (by omega) (by show S.2.1 < S3.2.1; omega) hF hS
    · show am_G _ M_X6_readParallel _ 25 [some (.ref 44), some (.int (nI tr)), some (.int (nI lc)), some (.int (nI br)), some (.int (nI l)), some (.int (nI k)), v6] [.int (nI 0)] (μ1, τ)
      refine am_if (ty := 72) (tn := 28) rfl (by decide) rfl rfl (fun (h_1251 : nI 0 = 0) => ?_) (fun (h_1251 : ¬ (nI 0 = 0)) => ?_)
      rotate_left
      · exact absurd (by decide) h_1251
      refine am_run 1 (pc' := 74) (ls' := [some (.ref 44), some (.int (nI tr)), some (.int (nI lc)), some (.int (nI br)), some (.int (nI l)), some (.int (nI k)), v6]) (st' := [.int (nI l)]) (σ' := (μ1, τ)) rfl ?_
      refine am_reti rfl rfl ?_
      exact hS μ1 (ps_at S (lk tx L S.1)) l (by show (if tk tx L (lk tx L S.1) = 124 then _ else _) = _; rw [if_neg en]) (hK.tr hK1) hX1 hC1 hl0 hl
set_option maxRecDepth 10000 in
set_option maxHeartbeats 2000000 in
theorem PCt.par {d : Nat} (hd : 5 ≤ d) {τ : Nat → Nat → Nat} {t L br m : Nat} {tx : Nat → Nat} {f : Nat → Nat → PS → RS} (hT3 : T3 t) (ht : τ 44 1 = t) (hN : PCt d τ t L tx 88 f br m) : PCt (d + 1) τ t L tx 87 (p_row tx L 124 f) br m := by
  intro μ S tr lc Q hX hC hlc htr hF hS
  refine am_enter' (M := M_X6_readParallel) rfl rfl rfl (by omega) (ls := [some (.ref 44), some (.int (nI tr)), some (.int (nI lc)), some (.int (nI br)), none, none, none]) rfl (fun d' hd' => ?_)
  refine am_run 4 (pc' := 4) (ls' := [some (.ref 44), some (.int (nI tr)), some (.int (nI lc)), some (.int (nI br)), none, none, none]) (st' := [.int (nI br), .int (nI lc), .int (nI tr), .ref 44]) (σ' := (μ, τ)) rfl ?_
  refine am_invv (y := 88) (b := 44) (as := [.int (nI tr), .int (nI lc), .int (nI br)]) (rest := []) rfl rfl rfl rfl rfl rfl rfl (Nat.le_of_ble_eq_true rfl) ?_
  obtain rfl : d = d' := by omega
  refine hN μ S tr lc _ hX hC hlc htr (fun μ1 v1 kk1 fp1 e1 hK1 hX1 hF1 => ?_) (fun μ1 S1 r1 e1 hK1 hX1 hC1 hr1 hr1b => ?_)
  · have hk1 := hF1.2.2
    show am_G _ M_X6_readParallel _ 7 [some (.ref 44), some (.int (nI tr)), some (.int (nI lc)), some (.int (nI br)), none, none, none] [.int v1] (μ1, τ)
    refine am_run 5 (pc' := 16) (ls' := [some (.ref 44), some (.int (nI tr)), some (.int (nI lc)), some (.int (nI br)), some (.int v1), some (.int (nI 0)), none]) (st' := [.int (nI 120), .int (nI 0)]) (σ' := (μ1, τ)) rfl ?_
    refine am_ic (ty := 19) (tn := 72) rfl (by decide) rfl rfl (fun (h_201 : nI 0 < nI 120) => ?_) (fun (h_201 : ¬ (nI 0 < nI 120)) => ?_)
    rotate_left
    · exact absurd (by decide) h_201
    refine am_run 2 (pc' := 22) (ls' := [some (.ref 44), some (.int (nI tr)), some (.int (nI lc)), some (.int (nI br)), some (.int v1), some (.int (nI 0)), none]) (st' := [.int (nI 124), .ref 44]) (σ' := (μ1, τ)) rfl ?_
    refine am_invv (y := 86) (b := 44) (as := [.int (nI 124)]) (rest := []) rfl rfl rfl rfl rfl rfl rfl (Nat.le_of_ble_eq_true rfl) ?_
    refine c_isNext_f (by omega) hT3 hX1 hF1 ?_
    show am_G _ M_X6_readParallel _ 25 [some (.ref 44), some (.int (nI tr)), some (.int (nI lc)), some (.int (nI br)), some (.int v1), some (.int (nI 0)), none] [.int (nI 0)] (μ1, τ)
    refine am_if (ty := 72) (tn := 28) rfl (by decide) rfl rfl (fun (h_202 : nI 0 = 0) => ?_) (fun (h_202 : ¬ (nI 0 = 0)) => ?_)
    rotate_left
    · exact absurd (by decide) h_202
    refine am_run 1 (pc' := 74) (ls' := [some (.ref 44), some (.int (nI tr)), some (.int (nI lc)), some (.int (nI br)), some (.int v1), some (.int (nI 0)), none]) (st' := [.int v1]) (σ' := (μ1, τ)) rfl ?_
    refine am_reti rfl rfl ?_
    exact hF μ1 _ kk1 fp1 (by unfold p_row; rw [e1]) hK1 hX1 hF1
  · have er : p_row tx L 124 f tr lc S = p_lop tx L 124 f tr lc 120 S1 r1 := by unfold p_row; rw [e1]
    rw [er] at hF hS
    show am_G _ M_X6_readParallel _ 7 [some (.ref 44), some (.int (nI tr)), some (.int (nI lc)), some (.int (nI br)), none, none, none] [.int (nI r1)] (μ1, τ)
    refine am_run 3 (pc' := 12) (ls' := [some (.ref 44), some (.int (nI tr)), some (.int (nI lc)), some (.int (nI br)), some (.int (nI r1)), some (.int (nI 0)), none]) (st' := []) (σ' := (μ1, τ)) rfl ?_
    exact c_readParallel_loop hd hT3 ht hN hlc htr 120 0 μ1 S1 r1 _ rfl hK1 hX1 hC1 hr1 hr1b hF hS
/-- readParallel with m brackets left -/
theorem PCt.lv {τ : Nat → Nat → Nat} {t L : Nat} {tx : Nat → Nat} (hT3 : T3 t) (ht : τ 44 1 = t) : ∀ (m br : Nat), br + m = 12 → PCt (4 * m + 11) τ t L tx 87 (p_lv tx L m) br m
  | 0, br, h => by
    have e : br = 12 := by omega
    subst e
    exact PCt.par (d := 10) (by decide) hT3 ht (PCt.seq (d := 9) (by decide) hT3 ht (PCt.part (d := 8) (by decide) hT3 ht (ECt.n (by decide) hT3)))
  | m + 1, br, h => by
    have ih := PCt.lv (L := L) (tx := tx) hT3 ht m (br + 1) (by omega)
    have h1 := ECt.s (d := 4 * m + 11) (by omega) hT3 (by omega) ih
    have h2 := PCt.part (d := 4 * m + 12) (by omega) hT3 ht h1
    have h3 := PCt.seq (d := 4 * m + 13) (by omega) hT3 ht h2
    have h4 := PCt.par (d := 4 * m + 14) (by omega) hT3 ht h3
    rw [show 4 * (m + 1) + 11 = 4 * m + 14 + 1 by omega]
    exact h4

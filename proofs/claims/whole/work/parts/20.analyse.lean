theorem oI_p {x : Nat} (h : 1 ≤ x) : oI x = nI (x - 1) := by rw [show x = (x - 1) + 1 by omega, oI_s]; rfl
set_option maxRecDepth 10000 in
set_option maxHeartbeats 2000000 in
theorem c_analyse {σ : am_M} {t n : Nat} {p : Pg} (hW : PW p n) (hR : TR σ t p n) : ∀ (f dep : Nat), f + dep = 61 → AN σ t p n f dep
  | 0, dep, hf => by
    intro d hd x s u P A Q hx hs hP hA hq
    cases x with
    | zero =>
      rw [oI_0]
      refine am_enter' (M := M_X0_analyse) rfl rfl rfl (by omega) (ls := [some (.ref t), some (.int (-1)), some (.int (nI s)), some (.int (nI u.toNat)), some (.int (nI (P + 256 * A))), some (.int (nI dep))]) rfl (fun d' hd' => ?_)
      refine am_run 2 (pc' := 2) (ls' := [some (.ref t), some (.int (-1)), some (.int (nI s)), some (.int (nI u.toNat)), some (.int (nI (P + 256 * A))), some (.int (nI dep))]) (st' := [.int (-1), .ref t]) (σ' := σ) rfl ?_
      refine am_invv (y := 106) (b := t) (as := [.int (-1)]) (rest := []) rfl rfl rfl rfl rfl rfl (TR_kind hR) (Nat.le_of_ble_eq_true rfl) ?_
      refine c_has0 (by omega) hR ?_
      show am_G _ M_X0_analyse _ 5 [some (.ref t), some (.int (-1)), some (.int (nI s)), some (.int (nI u.toNat)), some (.int (nI (P + 256 * A))), some (.int (nI dep))] [.int (nI 0)] σ
      refine am_if (ty := 15) (tn := 8) rfl (by decide) rfl rfl (fun (h_1 : nI 0 = 0) => ?_) (fun (h_1 : ¬ (nI 0 = 0)) => ?_)
      rotate_left
      · exact absurd (by decide) h_1
      refine am_run 1 (pc' := 18) (ls' := [some (.ref t), some (.int (-1)), some (.int (nI s)), some (.int (nI u.toNat)), some (.int (nI (P + 256 * A))), some (.int (nI dep))]) (st' := [.int (nI 256)]) (σ' := σ) rfl ?_
      refine am_invs (y := 8) (as := [.int (nI 256)]) (rest := []) rfl rfl rfl rfl rfl rfl (Nat.le_of_ble_eq_true rfl) ?_
      refine c_a_certainly (by omega) (m := 0) (k := 1) (by first | decide | omega | exact pow_lt_256 (by omega) | (exact or_lt8 (by omega) (by omega)) | (exact or_lt7 (by omega) (by omega)) | (exact mx_lt (by omega) (by omega)) | (exact ct_lt (by omega)) | (exact en_lt (by omega)) | (exact cl_lt (by omega)) | (exact or_lt7 (cl_lt (by omega)) (by omega)) | (exact or_lt8 (cl_lt (by omega)) (pow_lt_256 (by omega))) | (exact cl_lt (en_lt (by omega)))) (by first | decide | omega | exact pow_lt_256 (by omega) | (exact or_lt8 (by omega) (by omega)) | (exact or_lt7 (by omega) (by omega)) | (exact mx_lt (by omega) (by omega)) | (exact ct_lt (by omega)) | (exact en_lt (by omega)) | (exact cl_lt (by omega)) | (exact or_lt7 (cl_lt (by omega)) (by omega)) | (exact or_lt8 (cl_lt (by omega)) (pow_lt_256 (by omega))) | (exact cl_lt (en_lt (by omega)))) ?_
      show am_G _ M_X0_analyse _ 21 [some (.ref t), some (.int (-1)), some (.int (nI s)), some (.int (nI u.toNat)), some (.int (nI (P + 256 * A))), some (.int (nI dep))] [.int (nI (eC (0, 0, 1, 1)))] σ
      refine am_reti rfl rfl ?_
      exact hq _ rfl (ok_cd (by decide))
    | succ k =>
      rw [oI_s]
      have hk : k < n := by omega
      refine am_enter' (M := M_X0_analyse) rfl rfl rfl (by omega) (ls := [some (.ref t), some (.int (nI k)), some (.int (nI s)), some (.int (nI u.toNat)), some (.int (nI (P + 256 * A))), some (.int (nI dep))]) rfl (fun d' hd' => ?_)
      refine am_run 2 (pc' := 2) (ls' := [some (.ref t), some (.int (nI k)), some (.int (nI s)), some (.int (nI u.toNat)), some (.int (nI (P + 256 * A))), some (.int (nI dep))]) (st' := [.int (nI k), .ref t]) (σ' := σ) rfl ?_
      refine am_invv (y := 106) (b := t) (as := [.int (nI k)]) (rest := []) rfl rfl rfl rfl rfl rfl (TR_kind hR) (Nat.le_of_ble_eq_true rfl) ?_
      refine c_has (by omega) hW hR hk ?_
      show am_G _ M_X0_analyse _ 5 [some (.ref t), some (.int (nI k)), some (.int (nI s)), some (.int (nI u.toNat)), some (.int (nI (P + 256 * A))), some (.int (nI dep))] [.int (nI 1)] σ
      refine am_if (ty := 15) (tn := 8) rfl (by decide) rfl rfl (fun (h_1 : nI 1 = 0) => ?_) (fun (h_1 : ¬ (nI 1 = 0)) => ?_)
      · exact absurd h_1 (by decide)
      refine am_run 2 (pc' := 12) (ls' := [some (.ref t), some (.int (nI k)), some (.int (nI s)), some (.int (nI u.toNat)), some (.int (nI (P + 256 * A))), some (.int (nI dep))]) (st' := [.int (nI 60), .int (nI dep)]) (σ' := σ) rfl ?_
      refine am_ic (ty := 15) (tn := 22) rfl (by decide) rfl rfl (fun (h_2 : nI 60 < nI dep) => ?_) (fun (h_2 : ¬ (nI 60 < nI dep)) => ?_)
      rotate_left
      · have h_2 : ¬ (60 < dep) := fun z => h_2 ((nI_ltI (by omega) (by omega)).mpr z)
        omega
      have h_2 : 60 < dep := (nI_ltI (by omega) (by omega)).mp h_2
      refine am_run 1 (pc' := 18) (ls' := [some (.ref t), some (.int (nI k)), some (.int (nI s)), some (.int (nI u.toNat)), some (.int (nI (P + 256 * A))), some (.int (nI dep))]) (st' := [.int (nI 256)]) (σ' := σ) rfl ?_
      refine am_invs (y := 8) (as := [.int (nI 256)]) (rest := []) rfl rfl rfl rfl rfl rfl (Nat.le_of_ble_eq_true rfl) ?_
      refine c_a_certainly (by omega) (m := 0) (k := 1) (by first | decide | omega | exact pow_lt_256 (by omega) | (exact or_lt8 (by omega) (by omega)) | (exact or_lt7 (by omega) (by omega)) | (exact mx_lt (by omega) (by omega)) | (exact ct_lt (by omega)) | (exact en_lt (by omega)) | (exact cl_lt (by omega)) | (exact or_lt7 (cl_lt (by omega)) (by omega)) | (exact or_lt8 (cl_lt (by omega)) (pow_lt_256 (by omega))) | (exact cl_lt (en_lt (by omega)))) (by first | decide | omega | exact pow_lt_256 (by omega) | (exact or_lt8 (by omega) (by omega)) | (exact or_lt7 (by omega) (by omega)) | (exact mx_lt (by omega) (by omega)) | (exact ct_lt (by omega)) | (exact en_lt (by omega)) | (exact cl_lt (by omega)) | (exact or_lt7 (cl_lt (by omega)) (by omega)) | (exact or_lt8 (cl_lt (by omega)) (pow_lt_256 (by omega))) | (exact cl_lt (en_lt (by omega)))) ?_
      show am_G _ M_X0_analyse _ 21 [some (.ref t), some (.int (nI k)), some (.int (nI s)), some (.int (nI u.toNat)), some (.int (nI (P + 256 * A))), some (.int (nI dep))] [.int (nI (eC (0, 0, 1, 1)))] σ
      refine am_reti rfl rfl ?_
      exact hq _ rfl (ok_cd (by decide))
  | f + 1, dep, hf => by
    have ih := c_analyse hW hR f (dep + 1) (by omega)
    intro d hd x s u P A Q hx hs hP hA hq
    cases x with
    | zero =>
      rw [oI_0]
      refine am_enter' (M := M_X0_analyse) rfl rfl rfl (by omega) (ls := [some (.ref t), some (.int (-1)), some (.int (nI s)), some (.int (nI u.toNat)), some (.int (nI (P + 256 * A))), some (.int (nI dep))]) rfl (fun d' hd' => ?_)
      refine am_run 2 (pc' := 2) (ls' := [some (.ref t), some (.int (-1)), some (.int (nI s)), some (.int (nI u.toNat)), some (.int (nI (P + 256 * A))), some (.int (nI dep))]) (st' := [.int (-1), .ref t]) (σ' := σ) rfl ?_
      refine am_invv (y := 106) (b := t) (as := [.int (-1)]) (rest := []) rfl rfl rfl rfl rfl rfl (TR_kind hR) (Nat.le_of_ble_eq_true rfl) ?_
      refine c_has0 (by omega) hR ?_
      show am_G _ M_X0_analyse _ 5 [some (.ref t), some (.int (-1)), some (.int (nI s)), some (.int (nI u.toNat)), some (.int (nI (P + 256 * A))), some (.int (nI dep))] [.int (nI 0)] σ
      refine am_if (ty := 15) (tn := 8) rfl (by decide) rfl rfl (fun (h_1 : nI 0 = 0) => ?_) (fun (h_1 : ¬ (nI 0 = 0)) => ?_)
      rotate_left
      · exact absurd (by decide) h_1
      refine am_run 1 (pc' := 18) (ls' := [some (.ref t), some (.int (-1)), some (.int (nI s)), some (.int (nI u.toNat)), some (.int (nI (P + 256 * A))), some (.int (nI dep))]) (st' := [.int (nI 256)]) (σ' := σ) rfl ?_
      refine am_invs (y := 8) (as := [.int (nI 256)]) (rest := []) rfl rfl rfl rfl rfl rfl (Nat.le_of_ble_eq_true rfl) ?_
      refine c_a_certainly (by omega) (m := 0) (k := 1) (by first | decide | omega | exact pow_lt_256 (by omega) | (exact or_lt8 (by omega) (by omega)) | (exact or_lt7 (by omega) (by omega)) | (exact mx_lt (by omega) (by omega)) | (exact ct_lt (by omega)) | (exact en_lt (by omega)) | (exact cl_lt (by omega)) | (exact or_lt7 (cl_lt (by omega)) (by omega)) | (exact or_lt8 (cl_lt (by omega)) (pow_lt_256 (by omega))) | (exact cl_lt (en_lt (by omega)))) (by first | decide | omega | exact pow_lt_256 (by omega) | (exact or_lt8 (by omega) (by omega)) | (exact or_lt7 (by omega) (by omega)) | (exact mx_lt (by omega) (by omega)) | (exact ct_lt (by omega)) | (exact en_lt (by omega)) | (exact cl_lt (by omega)) | (exact or_lt7 (cl_lt (by omega)) (by omega)) | (exact or_lt8 (cl_lt (by omega)) (pow_lt_256 (by omega))) | (exact cl_lt (en_lt (by omega)))) ?_
      show am_G _ M_X0_analyse _ 21 [some (.ref t), some (.int (-1)), some (.int (nI s)), some (.int (nI u.toNat)), some (.int (nI (P + 256 * A))), some (.int (nI dep))] [.int (nI (eC (0, 0, 1, 1)))] σ
      refine am_reti rfl rfl ?_
      exact hq _ rfl (ok_cd (by decide))
    | succ k =>
      rw [oI_s]
      have hk : k < n := by omega
      obtain ⟨w0, w1, w2, w3, w4, w5, w6⟩ := hW.2 k hk
      refine am_enter' (M := M_X0_analyse) rfl rfl rfl (by omega) (ls := [some (.ref t), some (.int (nI k)), some (.int (nI s)), some (.int (nI u.toNat)), some (.int (nI (P + 256 * A))), some (.int (nI dep))]) rfl (fun d' hd' => ?_)
      refine am_run 2 (pc' := 2) (ls' := [some (.ref t), some (.int (nI k)), some (.int (nI s)), some (.int (nI u.toNat)), some (.int (nI (P + 256 * A))), some (.int (nI dep))]) (st' := [.int (nI k), .ref t]) (σ' := σ) rfl ?_
      refine am_invv (y := 106) (b := t) (as := [.int (nI k)]) (rest := []) rfl rfl rfl rfl rfl rfl (TR_kind hR) (Nat.le_of_ble_eq_true rfl) ?_
      refine c_has (by omega) hW hR hk ?_
      show am_G _ M_X0_analyse _ 5 [some (.ref t), some (.int (nI k)), some (.int (nI s)), some (.int (nI u.toNat)), some (.int (nI (P + 256 * A))), some (.int (nI dep))] [.int (nI 1)] σ
      refine am_if (ty := 15) (tn := 8) rfl (by decide) rfl rfl (fun (h_1 : nI 1 = 0) => ?_) (fun (h_1 : ¬ (nI 1 = 0)) => ?_)
      · exact absurd h_1 (by decide)
      refine am_run 2 (pc' := 12) (ls' := [some (.ref t), some (.int (nI k)), some (.int (nI s)), some (.int (nI u.toNat)), some (.int (nI (P + 256 * A))), some (.int (nI dep))]) (st' := [.int (nI 60), .int (nI dep)]) (σ' := σ) rfl ?_
      refine am_ic (ty := 15) (tn := 22) rfl (by decide) rfl rfl (fun (h_2 : nI 60 < nI dep) => ?_) (fun (h_2 : ¬ (nI 60 < nI dep)) => ?_)
      · have h_2 : 60 < dep := (nI_ltI (by omega) (by omega)).mp h_2
        omega
      have h_2 : ¬ (60 < dep) := fun z => h_2 ((nI_ltI (by omega) (by omega)).mpr z)
      refine am_run 2 (pc' := 24) (ls' := [some (.ref t), some (.int (nI k)), some (.int (nI s)), some (.int (nI u.toNat)), some (.int (nI (P + 256 * A))), some (.int (nI dep))]) (st' := [.int (nI k), .ref t]) (σ' := σ) rfl ?_
      refine am_invv (y := 112) (b := t) (as := [.int (nI k)]) (rest := []) rfl rfl rfl rfl rfl rfl (TR_kind hR) (Nat.le_of_ble_eq_true rfl) ?_
      refine c_tokenOf (by omega) hW hR hk ?_
      show am_G _ M_X0_analyse _ 27 [some (.ref t), some (.int (nI k)), some (.int (nI s)), some (.int (nI u.toNat)), some (.int (nI (P + 256 * A))), some (.int (nI dep))] [.int (nI (p 0 k))] σ
      refine am_lsw rfl rfl (L := [(33, 124), (36, 267), (38, 150), (42, 204), (46, 105), (59, 176), (63, 162), (64, 239), (94, 218), (120, 137), (124, 190), (126, 253)]) rfl ?_
      refine am_sw1 (k := nI 33) (tgt := 151) rfl (by decide) (by decide) rfl (fun (h_3 : nI (p 0 k) = nI 33) => ?_) (fun (h_3 : ¬ (nI (p 0 k) = nI 33)) => ?_)
      · have h_3 : p 0 k = 33 := (nI_eq (by omega) (by omega)).mp h_3
        have hg1 : 1 ≤ p 1 k := w5 (by rw [h_3]; decide)
        refine am_run 2 (pc' := 153) (ls' := [some (.ref t), some (.int (nI k)), some (.int (nI s)), some (.int (nI u.toNat)), some (.int (nI (P + 256 * A))), some (.int (nI dep))]) (st' := [.int (nI k), .ref t]) (σ' := σ) rfl ?_
        refine am_invv (y := 118) (b := t) (as := [.int (nI k)]) (rest := []) rfl rfl rfl rfl rfl rfl (TR_kind hR) (Nat.le_of_ble_eq_true rfl) ?_
        refine c_signalOf (by omega) hW hR hk (g := p 1 k - 1) (by omega) ?_
        show am_G _ M_X0_analyse _ 156 [some (.ref t), some (.int (nI k)), some (.int (nI s)), some (.int (nI u.toNat)), some (.int (nI (P + 256 * A))), some (.int (nI dep))] [.int (nI (2 ^ (p 1 k - 1)))] σ
        refine am_run 2 (pc' := 160) (ls' := [some (.ref t), some (.int (nI k)), some (.int (nI s)), some (.int (nI u.toNat)), some (.int (nI (P + 256 * A))), some (.int (nI dep))]) (st' := [.int (nI (2 ^ (p 1 k - 1)) ||| nI 256)]) (σ' := σ) rfl ?_
        refine am_top (v' := nI (2 ^ (p 1 k - 1) + 256 * 1)) ((pq_orI (a := 2 ^ (p 1 k - 1)) (b := 0) (c := 0) (d := 1) (by first | decide | omega | exact pow_lt_256 (by omega) | (exact or_lt8 (by omega) (by omega)) | (exact or_lt7 (by omega) (by omega)) | (exact mx_lt (by omega) (by omega)) | (exact ct_lt (by omega)) | (exact en_lt (by omega)) | (exact cl_lt (by omega)) | (exact or_lt7 (cl_lt (by omega)) (by omega)) | (exact or_lt8 (cl_lt (by omega)) (pow_lt_256 (by omega))) | (exact cl_lt (en_lt (by omega)))) (by first | decide | omega | exact pow_lt_256 (by omega) | (exact or_lt8 (by omega) (by omega)) | (exact or_lt7 (by omega) (by omega)) | (exact mx_lt (by omega) (by omega)) | (exact ct_lt (by omega)) | (exact en_lt (by omega)) | (exact cl_lt (by omega)) | (exact or_lt7 (cl_lt (by omega)) (by omega)) | (exact or_lt8 (cl_lt (by omega)) (pow_lt_256 (by omega))) | (exact cl_lt (en_lt (by omega))))).trans (by simp only [Nat.or_zero, Nat.zero_or])) ?_
        refine am_invs (y := 8) (as := [.int (nI (2 ^ (p 1 k - 1) + 256 * 1))]) (rest := []) rfl rfl rfl rfl rfl rfl (Nat.le_of_ble_eq_true rfl) ?_
        refine c_a_certainly (by omega) (m := 2 ^ (p 1 k - 1)) (k := 1) (by first | decide | omega | exact pow_lt_256 (by omega) | (exact or_lt8 (by omega) (by omega)) | (exact or_lt7 (by omega) (by omega)) | (exact mx_lt (by omega) (by omega)) | (exact ct_lt (by omega)) | (exact en_lt (by omega)) | (exact cl_lt (by omega)) | (exact or_lt7 (cl_lt (by omega)) (by omega)) | (exact or_lt8 (cl_lt (by omega)) (pow_lt_256 (by omega))) | (exact cl_lt (en_lt (by omega)))) (by first | decide | omega | exact pow_lt_256 (by omega) | (exact or_lt8 (by omega) (by omega)) | (exact or_lt7 (by omega) (by omega)) | (exact mx_lt (by omega) (by omega)) | (exact ct_lt (by omega)) | (exact en_lt (by omega)) | (exact cl_lt (by omega)) | (exact or_lt7 (cl_lt (by omega)) (by omega)) | (exact or_lt8 (cl_lt (by omega)) (pow_lt_256 (by omega))) | (exact cl_lt (en_lt (by omega)))) ?_
        show am_G _ M_X0_analyse _ 163 [some (.ref t), some (.int (nI k)), some (.int (nI s)), some (.int (nI u.toNat)), some (.int (nI (P + 256 * A))), some (.int (nI dep))] [.int (nI (eC (2 ^ (p 1 k - 1), 2 ^ (p 1 k - 1), 1, 1)))] σ
        refine am_reti rfl rfl ?_
        have e : an p (f + 1) (k + 1) s u P A = (2 ^ (p 1 k - 1), 2 ^ (p 1 k - 1), 1, 1) := by
          refine (anB_33 h_3).trans ?_
          first | rfl | (simp only [*, if_true, if_false, ne_eq, not_false_eq_true, not_true_eq_false, true_or, false_or, or_false, or_true, or_self, and_true, true_and, and_false, false_and, and_self, Bool.false_eq_true, Bool.true_eq_false, reduceIte, Bool.and_true, Bool.and_false, Bool.true_and, Bool.false_and]; done) | (simp only [*, if_true, if_false, ne_eq, not_false_eq_true, not_true_eq_false, true_or, false_or, or_false, or_true, or_self, and_true, true_and, and_false, false_and, and_self, Bool.false_eq_true, Bool.true_eq_false, reduceIte, Bool.and_true, Bool.and_false, Bool.true_and, Bool.false_and]; rfl)
        exact hq _ e (e ▸ an_ok hW (f + 1) (k + 1) s u P A (by omega))
      have h_3 : ¬ (p 0 k = 33) := fun z => h_3 ((nI_eq (by omega) (by omega)).mpr z)
      refine am_sw1 (k := nI 36) (tgt := 294) rfl (by decide) (by decide) rfl (fun (h_4 : nI (p 0 k) = nI 36) => ?_) (fun (h_4 : ¬ (nI (p 0 k) = nI 36)) => ?_)
      · have h_4 : p 0 k = 36 := (nI_eq (by omega) (by omega)).mp h_4
        refine am_run 8 (pc' := 304) (ls' := [some (.ref t), some (.int (nI k)), some (.int (nI s)), some (.int (nI u.toNat)), some (.int (nI (P + 256 * A))), some (.int (nI dep))]) (st' := [.int (nI dep + nI 1), .int (nI (P + 256 * A)), .int (nI u.toNat), .int (nI s), .int (nI k), .ref t]) (σ' := σ) rfl ?_
        refine am_top (v' := nI (dep + 1)) (nI_add _ _) ?_
        refine am_invs (y := 25) (as := [.ref t, .int (nI k), .int (nI s), .int (nI u.toNat), .int (nI (P + 256 * A)), .int (nI (dep + 1))]) (rest := []) rfl rfl rfl rfl rfl rfl (Nat.le_of_ble_eq_true rfl) ?_
        refine c_ofLocal hW hR ih (by omega) hk hs hP hA h_4 ?_
        show am_G _ M_X0_analyse _ 307 [some (.ref t), some (.int (nI k)), some (.int (nI s)), some (.int (nI u.toNat)), some (.int (nI (P + 256 * A))), some (.int (nI dep))] [.int (nI (eC (anB p (an p f) k s u P A)))] σ
        refine am_reti rfl rfl ?_
        exact hq _ rfl (an_ok hW (f + 1) (k + 1) s u P A (by omega))
      have h_4 : ¬ (p 0 k = 36) := fun z => h_4 ((nI_eq (by omega) (by omega)).mpr z)
      refine am_sw1 (k := nI 38) (tgt := 177) rfl (by decide) (by decide) rfl (fun (h_5 : nI (p 0 k) = nI 38) => ?_) (fun (h_5 : ¬ (nI (p 0 k) = nI 38)) => ?_)
      · have h_5 : p 0 k = 38 := (nI_eq (by omega) (by omega)).mp h_5
        have hg1 : 1 ≤ p 1 k := w5 (by rw [h_5]; decide)
        refine am_run 2 (pc' := 179) (ls' := [some (.ref t), some (.int (nI k)), some (.int (nI s)), some (.int (nI u.toNat)), some (.int (nI (P + 256 * A))), some (.int (nI dep))]) (st' := [.int (nI k), .ref t]) (σ' := σ) rfl ?_
        refine am_invv (y := 118) (b := t) (as := [.int (nI k)]) (rest := []) rfl rfl rfl rfl rfl rfl (TR_kind hR) (Nat.le_of_ble_eq_true rfl) ?_
        refine c_signalOf (by omega) hW hR hk (g := p 1 k - 1) (by omega) ?_
        show am_G _ M_X0_analyse _ 182 [some (.ref t), some (.int (nI k)), some (.int (nI s)), some (.int (nI u.toNat)), some (.int (nI (P + 256 * A))), some (.int (nI dep))] [.int (nI (2 ^ (p 1 k - 1)))] σ
        refine am_run 2 (pc' := 185) (ls' := [some (.ref t), some (.int (nI k)), some (.int (nI s)), some (.int (nI u.toNat)), some (.int (nI (P + 256 * A))), some (.int (nI dep))]) (st' := [.int (nI (P + 256 * A)), .int (nI s), .int (nI (2 ^ (p 1 k - 1)))]) (σ' := σ) rfl ?_
        refine am_invs (y := 12) (as := [.int (nI (2 ^ (p 1 k - 1))), .int (nI s), .int (nI (P + 256 * A))]) (rest := []) rfl rfl rfl rfl rfl rfl (Nat.le_of_ble_eq_true rfl) ?_
        refine am_enter' rfl rfl rfl (by omega) (ls := [some (.int (nI (2 ^ (p 1 k - 1)))), some (.int (nI s)), some (.int (nI (P + 256 * A)))]) rfl (fun d_6 hd_6 => ?_)
        refine am_run 2 (pc' := 3) (ls' := [some (.int (nI (2 ^ (p 1 k - 1)))), some (.int (nI s)), some (.int (nI (P + 256 * A)))]) (st' := [.int (nI 1048576), .int (nI s)]) (σ' := σ) rfl ?_
        refine am_ic (ty := 14) (tn := 6) rfl (by decide) rfl rfl (fun (h_7 : nI s = nI 1048576) => ?_) (fun (h_7 : ¬ (nI s = nI 1048576)) => ?_)
        · have h_7 : s = 1048576 := (nI_eq (by omega) (by omega)).mp h_7
          refine am_run 1 (pc' := 17) (ls' := [some (.int (nI (2 ^ (p 1 k - 1)))), some (.int (nI s)), some (.int (nI (P + 256 * A)))]) (st' := [.int (nI 512)]) (σ' := σ) rfl ?_
          refine am_invs (y := 8) (as := [.int (nI 512)]) (rest := []) rfl rfl rfl rfl rfl rfl (Nat.le_of_ble_eq_true rfl) ?_
          refine c_a_certainly (by omega) (m := 0) (k := 2) (by first | decide | omega | exact pow_lt_256 (by omega) | (exact or_lt8 (by omega) (by omega)) | (exact or_lt7 (by omega) (by omega)) | (exact mx_lt (by omega) (by omega)) | (exact ct_lt (by omega)) | (exact en_lt (by omega)) | (exact cl_lt (by omega)) | (exact or_lt7 (cl_lt (by omega)) (by omega)) | (exact or_lt8 (cl_lt (by omega)) (pow_lt_256 (by omega))) | (exact cl_lt (en_lt (by omega)))) (by first | decide | omega | exact pow_lt_256 (by omega) | (exact or_lt8 (by omega) (by omega)) | (exact or_lt7 (by omega) (by omega)) | (exact mx_lt (by omega) (by omega)) | (exact ct_lt (by omega)) | (exact en_lt (by omega)) | (exact cl_lt (by omega)) | (exact or_lt7 (cl_lt (by omega)) (by omega)) | (exact or_lt8 (cl_lt (by omega)) (pow_lt_256 (by omega))) | (exact cl_lt (en_lt (by omega)))) ?_
          show am_G _ M_X0_ofAwait _ 20 [some (.int (nI (2 ^ (p 1 k - 1)))), some (.int (nI s)), some (.int (nI (P + 256 * A)))] [.int (nI (eC (0, 0, 2, 2)))] σ
          refine am_reti rfl rfl ?_
          show am_G _ M_X0_analyse _ 188 [some (.ref t), some (.int (nI k)), some (.int (nI s)), some (.int (nI u.toNat)), some (.int (nI (P + 256 * A))), some (.int (nI dep))] [.int (nI (eC (0, 0, 2, 2)))] σ
          refine am_reti rfl rfl ?_
          have e : an p (f + 1) (k + 1) s u P A = (0, 0, 2, 2) := by
            refine (anB_38 h_5).trans ?_
            first | rfl | (simp only [*, if_true, if_false, ne_eq, not_false_eq_true, not_true_eq_false, true_or, false_or, or_false, or_true, or_self, and_true, true_and, and_false, false_and, and_self, Bool.false_eq_true, Bool.true_eq_false, reduceIte, Bool.and_true, Bool.and_false, Bool.true_and, Bool.false_and]; done) | (simp only [*, if_true, if_false, ne_eq, not_false_eq_true, not_true_eq_false, true_or, false_or, or_false, or_true, or_self, and_true, true_and, and_false, false_and, and_self, Bool.false_eq_true, Bool.true_eq_false, reduceIte, Bool.and_true, Bool.and_false, Bool.true_and, Bool.false_and]; rfl)
          exact hq _ e (e ▸ an_ok hW (f + 1) (k + 1) s u P A (by omega))
        · have h_7 : ¬ (s = 1048576) := fun z => h_7 ((nI_eq (by omega) (by omega)).mpr z)
          refine am_run 2 (pc' := 8) (ls' := [some (.int (nI (2 ^ (p 1 k - 1)))), some (.int (nI s)), some (.int (nI (P + 256 * A)))]) (st' := [.int (nI (P + 256 * A)), .int (nI (2 ^ (p 1 k - 1)))]) (σ' := σ) rfl ?_
          refine am_invs (y := 10) (as := [.int (nI (2 ^ (p 1 k - 1))), .int (nI (P + 256 * A))]) (rest := []) rfl rfl rfl rfl rfl rfl (Nat.le_of_ble_eq_true rfl) ?_
          refine c_a_isAbsent (by omega) (P := P) (A := A) (g := p 1 k - 1) hP hA (by omega) (fun hb_8 => ?_) (fun hb_8 => ?_)
          · show am_G _ M_X0_ofAwait _ 11 [some (.int (nI (2 ^ (p 1 k - 1)))), some (.int (nI s)), some (.int (nI (P + 256 * A)))] [.int (nI 1)] σ
            refine am_if (ty := 21) (tn := 14) rfl (by decide) rfl rfl (fun (h_9 : nI 1 = 0) => ?_) (fun (h_9 : ¬ (nI 1 = 0)) => ?_)
            · exact absurd h_9 (by decide)
            refine am_run 1 (pc' := 17) (ls' := [some (.int (nI (2 ^ (p 1 k - 1)))), some (.int (nI s)), some (.int (nI (P + 256 * A)))]) (st' := [.int (nI 512)]) (σ' := σ) rfl ?_
            refine am_invs (y := 8) (as := [.int (nI 512)]) (rest := []) rfl rfl rfl rfl rfl rfl (Nat.le_of_ble_eq_true rfl) ?_
            refine c_a_certainly (by omega) (m := 0) (k := 2) (by first | decide | omega | exact pow_lt_256 (by omega) | (exact or_lt8 (by omega) (by omega)) | (exact or_lt7 (by omega) (by omega)) | (exact mx_lt (by omega) (by omega)) | (exact ct_lt (by omega)) | (exact en_lt (by omega)) | (exact cl_lt (by omega)) | (exact or_lt7 (cl_lt (by omega)) (by omega)) | (exact or_lt8 (cl_lt (by omega)) (pow_lt_256 (by omega))) | (exact cl_lt (en_lt (by omega)))) (by first | decide | omega | exact pow_lt_256 (by omega) | (exact or_lt8 (by omega) (by omega)) | (exact or_lt7 (by omega) (by omega)) | (exact mx_lt (by omega) (by omega)) | (exact ct_lt (by omega)) | (exact en_lt (by omega)) | (exact cl_lt (by omega)) | (exact or_lt7 (cl_lt (by omega)) (by omega)) | (exact or_lt8 (cl_lt (by omega)) (pow_lt_256 (by omega))) | (exact cl_lt (en_lt (by omega)))) ?_
            show am_G _ M_X0_ofAwait _ 20 [some (.int (nI (2 ^ (p 1 k - 1)))), some (.int (nI s)), some (.int (nI (P + 256 * A)))] [.int (nI (eC (0, 0, 2, 2)))] σ
            refine am_reti rfl rfl ?_
            show am_G _ M_X0_analyse _ 188 [some (.ref t), some (.int (nI k)), some (.int (nI s)), some (.int (nI u.toNat)), some (.int (nI (P + 256 * A))), some (.int (nI dep))] [.int (nI (eC (0, 0, 2, 2)))] σ
            refine am_reti rfl rfl ?_
            have e : an p (f + 1) (k + 1) s u P A = (0, 0, 2, 2) := by
              refine (anB_38 h_5).trans ?_
              first | rfl | (simp only [*, if_true, if_false, ne_eq, not_false_eq_true, not_true_eq_false, true_or, false_or, or_false, or_true, or_self, and_true, true_and, and_false, false_and, and_self, Bool.false_eq_true, Bool.true_eq_false, reduceIte, Bool.and_true, Bool.and_false, Bool.true_and, Bool.false_and]; done) | (simp only [*, if_true, if_false, ne_eq, not_false_eq_true, not_true_eq_false, true_or, false_or, or_false, or_true, or_self, and_true, true_and, and_false, false_and, and_self, Bool.false_eq_true, Bool.true_eq_false, reduceIte, Bool.and_true, Bool.and_false, Bool.true_and, Bool.false_and]; rfl)
            exact hq _ e (e ▸ an_ok hW (f + 1) (k + 1) s u P A (by omega))
          · show am_G _ M_X0_ofAwait _ 11 [some (.int (nI (2 ^ (p 1 k - 1)))), some (.int (nI s)), some (.int (nI (P + 256 * A)))] [.int (nI 0)] σ
            refine am_if (ty := 21) (tn := 14) rfl (by decide) rfl rfl (fun (h_10 : nI 0 = 0) => ?_) (fun (h_10 : ¬ (nI 0 = 0)) => ?_)
            rotate_left
            · exact absurd (by decide) h_10
            refine am_run 2 (pc' := 23) (ls' := [some (.int (nI (2 ^ (p 1 k - 1)))), some (.int (nI s)), some (.int (nI (P + 256 * A)))]) (st' := [.int (nI (P + 256 * A)), .int (nI (2 ^ (p 1 k - 1)))]) (σ' := σ) rfl ?_
            refine am_invs (y := 9) (as := [.int (nI (2 ^ (p 1 k - 1))), .int (nI (P + 256 * A))]) (rest := []) rfl rfl rfl rfl rfl rfl (Nat.le_of_ble_eq_true rfl) ?_
            refine c_a_isPresent (by omega) (P := P) (A := A) (g := p 1 k - 1) hP hA (by omega) (fun hb_11 => ?_) (fun hb_11 => ?_)
            · show am_G _ M_X0_ofAwait _ 26 [some (.int (nI (2 ^ (p 1 k - 1)))), some (.int (nI s)), some (.int (nI (P + 256 * A)))] [.int (nI 1)] σ
              refine am_if (ty := 38) (tn := 29) rfl (by decide) rfl rfl (fun (h_12 : nI 1 = 0) => ?_) (fun (h_12 : ¬ (nI 1 = 0)) => ?_)
              · exact absurd h_12 (by decide)
              refine am_run 1 (pc' := 32) (ls' := [some (.int (nI (2 ^ (p 1 k - 1)))), some (.int (nI s)), some (.int (nI (P + 256 * A)))]) (st' := [.int (nI 256)]) (σ' := σ) rfl ?_
              refine am_invs (y := 8) (as := [.int (nI 256)]) (rest := []) rfl rfl rfl rfl rfl rfl (Nat.le_of_ble_eq_true rfl) ?_
              refine c_a_certainly (by omega) (m := 0) (k := 1) (by first | decide | omega | exact pow_lt_256 (by omega) | (exact or_lt8 (by omega) (by omega)) | (exact or_lt7 (by omega) (by omega)) | (exact mx_lt (by omega) (by omega)) | (exact ct_lt (by omega)) | (exact en_lt (by omega)) | (exact cl_lt (by omega)) | (exact or_lt7 (cl_lt (by omega)) (by omega)) | (exact or_lt8 (cl_lt (by omega)) (pow_lt_256 (by omega))) | (exact cl_lt (en_lt (by omega)))) (by first | decide | omega | exact pow_lt_256 (by omega) | (exact or_lt8 (by omega) (by omega)) | (exact or_lt7 (by omega) (by omega)) | (exact mx_lt (by omega) (by omega)) | (exact ct_lt (by omega)) | (exact en_lt (by omega)) | (exact cl_lt (by omega)) | (exact or_lt7 (cl_lt (by omega)) (by omega)) | (exact or_lt8 (cl_lt (by omega)) (pow_lt_256 (by omega))) | (exact cl_lt (en_lt (by omega)))) ?_
              show am_G _ M_X0_ofAwait _ 35 [some (.int (nI (2 ^ (p 1 k - 1)))), some (.int (nI s)), some (.int (nI (P + 256 * A)))] [.int (nI (eC (0, 0, 1, 1)))] σ
              refine am_run 1 (pc' := 45) (ls' := [some (.int (nI (2 ^ (p 1 k - 1)))), some (.int (nI s)), some (.int (nI (P + 256 * A)))]) (st' := [.int (nI (eC (0, 0, 1, 1)))]) (σ' := σ) rfl ?_
              refine am_reti rfl rfl ?_
              show am_G _ M_X0_analyse _ 188 [some (.ref t), some (.int (nI k)), some (.int (nI s)), some (.int (nI u.toNat)), some (.int (nI (P + 256 * A))), some (.int (nI dep))] [.int (nI (eC (0, 0, 1, 1)))] σ
              refine am_reti rfl rfl ?_
              have e : an p (f + 1) (k + 1) s u P A = (0, 0, 1, 1) := by
                refine (anB_38 h_5).trans ?_
                first | rfl | (simp only [*, if_true, if_false, ne_eq, not_false_eq_true, not_true_eq_false, true_or, false_or, or_false, or_true, or_self, and_true, true_and, and_false, false_and, and_self, Bool.false_eq_true, Bool.true_eq_false, reduceIte, Bool.and_true, Bool.and_false, Bool.true_and, Bool.false_and]; done) | (simp only [*, if_true, if_false, ne_eq, not_false_eq_true, not_true_eq_false, true_or, false_or, or_false, or_true, or_self, and_true, true_and, and_false, false_and, and_self, Bool.false_eq_true, Bool.true_eq_false, reduceIte, Bool.and_true, Bool.and_false, Bool.true_and, Bool.false_and]; rfl)
              exact hq _ e (e ▸ an_ok hW (f + 1) (k + 1) s u P A (by omega))
            · show am_G _ M_X0_ofAwait _ 26 [some (.int (nI (2 ^ (p 1 k - 1)))), some (.int (nI s)), some (.int (nI (P + 256 * A)))] [.int (nI 0)] σ
              refine am_if (ty := 38) (tn := 29) rfl (by decide) rfl rfl (fun (h_13 : nI 0 = 0) => ?_) (fun (h_13 : ¬ (nI 0 = 0)) => ?_)
              rotate_left
              · exact absurd (by decide) h_13
              refine am_run 2 (pc' := 42) (ls' := [some (.int (nI (2 ^ (p 1 k - 1)))), some (.int (nI s)), some (.int (nI (P + 256 * A)))]) (st' := [.int (nI 768), .int (nI 0)]) (σ' := σ) rfl ?_
              refine am_invs (y := 7) (as := [.int (nI 0), .int (nI 768)]) (rest := []) rfl rfl rfl rfl rfl rfl (Nat.le_of_ble_eq_true rfl) ?_
              refine c_a_result (by omega) (m := 0) (k := 0) (c := 0) (q := 3) (by first | decide | omega | exact pow_lt_256 (by omega) | (exact or_lt8 (by omega) (by omega)) | (exact or_lt7 (by omega) (by omega)) | (exact mx_lt (by omega) (by omega)) | (exact ct_lt (by omega)) | (exact en_lt (by omega)) | (exact cl_lt (by omega)) | (exact or_lt7 (cl_lt (by omega)) (by omega)) | (exact or_lt8 (cl_lt (by omega)) (pow_lt_256 (by omega))) | (exact cl_lt (en_lt (by omega)))) (by first | decide | omega | exact pow_lt_256 (by omega) | (exact or_lt8 (by omega) (by omega)) | (exact or_lt7 (by omega) (by omega)) | (exact mx_lt (by omega) (by omega)) | (exact ct_lt (by omega)) | (exact en_lt (by omega)) | (exact cl_lt (by omega)) | (exact or_lt7 (cl_lt (by omega)) (by omega)) | (exact or_lt8 (cl_lt (by omega)) (pow_lt_256 (by omega))) | (exact cl_lt (en_lt (by omega)))) ?_
              show am_G _ M_X0_ofAwait _ 45 [some (.int (nI (2 ^ (p 1 k - 1)))), some (.int (nI s)), some (.int (nI (P + 256 * A)))] [.int (nI (eC (0, 0, 0, 3)))] σ
              refine am_reti rfl rfl ?_
              show am_G _ M_X0_analyse _ 188 [some (.ref t), some (.int (nI k)), some (.int (nI s)), some (.int (nI u.toNat)), some (.int (nI (P + 256 * A))), some (.int (nI dep))] [.int (nI (eC (0, 0, 0, 3)))] σ
              refine am_reti rfl rfl ?_
              have e : an p (f + 1) (k + 1) s u P A = (0, 0, 0, 3) := by
                refine (anB_38 h_5).trans ?_
                first | rfl | (simp only [*, if_true, if_false, ne_eq, not_false_eq_true, not_true_eq_false, true_or, false_or, or_false, or_true, or_self, and_true, true_and, and_false, false_and, and_self, Bool.false_eq_true, Bool.true_eq_false, reduceIte, Bool.and_true, Bool.and_false, Bool.true_and, Bool.false_and]; done) | (simp only [*, if_true, if_false, ne_eq, not_false_eq_true, not_true_eq_false, true_or, false_or, or_false, or_true, or_self, and_true, true_and, and_false, false_and, and_self, Bool.false_eq_true, Bool.true_eq_false, reduceIte, Bool.and_true, Bool.and_false, Bool.true_and, Bool.false_and]; rfl)
              exact hq _ e (e ▸ an_ok hW (f + 1) (k + 1) s u P A (by omega))
      have h_5 : ¬ (p 0 k = 38) := fun z => h_5 ((nI_eq (by omega) (by omega)).mpr z)
      refine am_sw1 (k := nI 42) (tgt := 231) rfl (by decide) (by decide) rfl (fun (h_14 : nI (p 0 k) = nI 42) => ?_) (fun (h_14 : ¬ (nI (p 0 k) = nI 42)) => ?_)
      · have h_14 : p 0 k = 42 := (nI_eq (by omega) (by omega)).mp h_14
        refine am_run 8 (pc' := 241) (ls' := [some (.ref t), some (.int (nI k)), some (.int (nI s)), some (.int (nI u.toNat)), some (.int (nI (P + 256 * A))), some (.int (nI dep))]) (st' := [.int (nI dep + nI 1), .int (nI (P + 256 * A)), .int (nI u.toNat), .int (nI s), .int (nI k), .ref t]) (σ' := σ) rfl ?_
        refine am_top (v' := nI (dep + 1)) (nI_add _ _) ?_
        refine am_invs (y := 19) (as := [.ref t, .int (nI k), .int (nI s), .int (nI u.toNat), .int (nI (P + 256 * A)), .int (nI (dep + 1))]) (rest := []) rfl rfl rfl rfl rfl rfl (Nat.le_of_ble_eq_true rfl) ?_
        refine c_ofLoop hW hR ih (by omega) hk hs hP hA h_14 ?_
        show am_G _ M_X0_analyse _ 244 [some (.ref t), some (.int (nI k)), some (.int (nI s)), some (.int (nI u.toNat)), some (.int (nI (P + 256 * A))), some (.int (nI dep))] [.int (nI (eC (anB p (an p f) k s u P A)))] σ
        refine am_reti rfl rfl ?_
        exact hq _ rfl (an_ok hW (f + 1) (k + 1) s u P A (by omega))
      have h_14 : ¬ (p 0 k = 42) := fun z => h_14 ((nI_eq (by omega) (by omega)).mpr z)
      refine am_sw1 (k := nI 46) (tgt := 132) rfl (by decide) (by decide) rfl (fun (h_15 : nI (p 0 k) = nI 46) => ?_) (fun (h_15 : ¬ (nI (p 0 k) = nI 46)) => ?_)
      · have h_15 : p 0 k = 46 := (nI_eq (by omega) (by omega)).mp h_15
        refine am_run 2 (pc' := 135) (ls' := [some (.ref t), some (.int (nI k)), some (.int (nI s)), some (.int (nI u.toNat)), some (.int (nI (P + 256 * A))), some (.int (nI dep))]) (st' := [.int (nI 1048576), .int (nI s)]) (σ' := σ) rfl ?_
        refine am_ic (ty := 138) (tn := 144) rfl (by decide) rfl rfl (fun (h_16 : nI s = nI 1048576) => ?_) (fun (h_16 : ¬ (nI s = nI 1048576)) => ?_)
        · have h_16 : s = 1048576 := (nI_eq (by omega) (by omega)).mp h_16
          refine am_run 2 (pc' := 147) (ls' := [some (.ref t), some (.int (nI k)), some (.int (nI s)), some (.int (nI u.toNat)), some (.int (nI (P + 256 * A))), some (.int (nI dep))]) (st' := [.int (nI 512)]) (σ' := σ) rfl ?_
          refine am_invs (y := 8) (as := [.int (nI 512)]) (rest := []) rfl rfl rfl rfl rfl rfl (Nat.le_of_ble_eq_true rfl) ?_
          refine c_a_certainly (by omega) (m := 0) (k := 2) (by first | decide | omega | exact pow_lt_256 (by omega) | (exact or_lt8 (by omega) (by omega)) | (exact or_lt7 (by omega) (by omega)) | (exact mx_lt (by omega) (by omega)) | (exact ct_lt (by omega)) | (exact en_lt (by omega)) | (exact cl_lt (by omega)) | (exact or_lt7 (cl_lt (by omega)) (by omega)) | (exact or_lt8 (cl_lt (by omega)) (pow_lt_256 (by omega))) | (exact cl_lt (en_lt (by omega)))) (by first | decide | omega | exact pow_lt_256 (by omega) | (exact or_lt8 (by omega) (by omega)) | (exact or_lt7 (by omega) (by omega)) | (exact mx_lt (by omega) (by omega)) | (exact ct_lt (by omega)) | (exact en_lt (by omega)) | (exact cl_lt (by omega)) | (exact or_lt7 (cl_lt (by omega)) (by omega)) | (exact or_lt8 (cl_lt (by omega)) (pow_lt_256 (by omega))) | (exact cl_lt (en_lt (by omega)))) ?_
          show am_G _ M_X0_analyse _ 150 [some (.ref t), some (.int (nI k)), some (.int (nI s)), some (.int (nI u.toNat)), some (.int (nI (P + 256 * A))), some (.int (nI dep))] [.int (nI (eC (0, 0, 2, 2)))] σ
          refine am_reti rfl rfl ?_
          have e : an p (f + 1) (k + 1) s u P A = (0, 0, 2, 2) := by
            refine (anB_46 h_15).trans ?_
            first | rfl | (simp only [*, if_true, if_false, ne_eq, not_false_eq_true, not_true_eq_false, true_or, false_or, or_false, or_true, or_self, and_true, true_and, and_false, false_and, and_self, Bool.false_eq_true, Bool.true_eq_false, reduceIte, Bool.and_true, Bool.and_false, Bool.true_and, Bool.false_and]; done) | (simp only [*, if_true, if_false, ne_eq, not_false_eq_true, not_true_eq_false, true_or, false_or, or_false, or_true, or_self, and_true, true_and, and_false, false_and, and_self, Bool.false_eq_true, Bool.true_eq_false, reduceIte, Bool.and_true, Bool.and_false, Bool.true_and, Bool.false_and]; rfl)
          exact hq _ e (e ▸ an_ok hW (f + 1) (k + 1) s u P A (by omega))
        · have h_16 : ¬ (s = 1048576) := fun z => h_16 ((nI_eq (by omega) (by omega)).mpr z)
          refine am_run 1 (pc' := 147) (ls' := [some (.ref t), some (.int (nI k)), some (.int (nI s)), some (.int (nI u.toNat)), some (.int (nI (P + 256 * A))), some (.int (nI dep))]) (st' := [.int (nI 256)]) (σ' := σ) rfl ?_
          refine am_invs (y := 8) (as := [.int (nI 256)]) (rest := []) rfl rfl rfl rfl rfl rfl (Nat.le_of_ble_eq_true rfl) ?_
          refine c_a_certainly (by omega) (m := 0) (k := 1) (by first | decide | omega | exact pow_lt_256 (by omega) | (exact or_lt8 (by omega) (by omega)) | (exact or_lt7 (by omega) (by omega)) | (exact mx_lt (by omega) (by omega)) | (exact ct_lt (by omega)) | (exact en_lt (by omega)) | (exact cl_lt (by omega)) | (exact or_lt7 (cl_lt (by omega)) (by omega)) | (exact or_lt8 (cl_lt (by omega)) (pow_lt_256 (by omega))) | (exact cl_lt (en_lt (by omega)))) (by first | decide | omega | exact pow_lt_256 (by omega) | (exact or_lt8 (by omega) (by omega)) | (exact or_lt7 (by omega) (by omega)) | (exact mx_lt (by omega) (by omega)) | (exact ct_lt (by omega)) | (exact en_lt (by omega)) | (exact cl_lt (by omega)) | (exact or_lt7 (cl_lt (by omega)) (by omega)) | (exact or_lt8 (cl_lt (by omega)) (pow_lt_256 (by omega))) | (exact cl_lt (en_lt (by omega)))) ?_
          show am_G _ M_X0_analyse _ 150 [some (.ref t), some (.int (nI k)), some (.int (nI s)), some (.int (nI u.toNat)), some (.int (nI (P + 256 * A))), some (.int (nI dep))] [.int (nI (eC (0, 0, 1, 1)))] σ
          refine am_reti rfl rfl ?_
          have e : an p (f + 1) (k + 1) s u P A = (0, 0, 1, 1) := by
            refine (anB_46 h_15).trans ?_
            first | rfl | (simp only [*, if_true, if_false, ne_eq, not_false_eq_true, not_true_eq_false, true_or, false_or, or_false, or_true, or_self, and_true, true_and, and_false, false_and, and_self, Bool.false_eq_true, Bool.true_eq_false, reduceIte, Bool.and_true, Bool.and_false, Bool.true_and, Bool.false_and]; done) | (simp only [*, if_true, if_false, ne_eq, not_false_eq_true, not_true_eq_false, true_or, false_or, or_false, or_true, or_self, and_true, true_and, and_false, false_and, and_self, Bool.false_eq_true, Bool.true_eq_false, reduceIte, Bool.and_true, Bool.and_false, Bool.true_and, Bool.false_and]; rfl)
          exact hq _ e (e ▸ an_ok hW (f + 1) (k + 1) s u P A (by omega))
      have h_15 : ¬ (p 0 k = 46) := fun z => h_15 ((nI_eq (by omega) (by omega)).mpr z)
      refine am_sw1 (k := nI 59) (tgt := 203) rfl (by decide) (by decide) rfl (fun (h_17 : nI (p 0 k) = nI 59) => ?_) (fun (h_17 : ¬ (nI (p 0 k) = nI 59)) => ?_)
      · have h_17 : p 0 k = 59 := (nI_eq (by omega) (by omega)).mp h_17
        refine am_run 8 (pc' := 213) (ls' := [some (.ref t), some (.int (nI k)), some (.int (nI s)), some (.int (nI u.toNat)), some (.int (nI (P + 256 * A))), some (.int (nI dep))]) (st' := [.int (nI dep + nI 1), .int (nI (P + 256 * A)), .int (nI u.toNat), .int (nI s), .int (nI k), .ref t]) (σ' := σ) rfl ?_
        refine am_top (v' := nI (dep + 1)) (nI_add _ _) ?_
        refine am_invs (y := 14) (as := [.ref t, .int (nI k), .int (nI s), .int (nI u.toNat), .int (nI (P + 256 * A)), .int (nI (dep + 1))]) (rest := []) rfl rfl rfl rfl rfl rfl (Nat.le_of_ble_eq_true rfl) ?_
        refine c_ofSequence hW hR ih (by omega) hk hs hP hA h_17 ?_
        show am_G _ M_X0_analyse _ 216 [some (.ref t), some (.int (nI k)), some (.int (nI s)), some (.int (nI u.toNat)), some (.int (nI (P + 256 * A))), some (.int (nI dep))] [.int (nI (eC (anB p (an p f) k s u P A)))] σ
        refine am_reti rfl rfl ?_
        exact hq _ rfl (an_ok hW (f + 1) (k + 1) s u P A (by omega))
      have h_17 : ¬ (p 0 k = 59) := fun z => h_17 ((nI_eq (by omega) (by omega)).mpr z)
      refine am_sw1 (k := nI 63) (tgt := 189) rfl (by decide) (by decide) rfl (fun (h_18 : nI (p 0 k) = nI 63) => ?_) (fun (h_18 : ¬ (nI (p 0 k) = nI 63)) => ?_)
      · have h_18 : p 0 k = 63 := (nI_eq (by omega) (by omega)).mp h_18
        refine am_run 8 (pc' := 199) (ls' := [some (.ref t), some (.int (nI k)), some (.int (nI s)), some (.int (nI u.toNat)), some (.int (nI (P + 256 * A))), some (.int (nI dep))]) (st' := [.int (nI dep + nI 1), .int (nI (P + 256 * A)), .int (nI u.toNat), .int (nI s), .int (nI k), .ref t]) (σ' := σ) rfl ?_
        refine am_top (v' := nI (dep + 1)) (nI_add _ _) ?_
        refine am_invs (y := 13) (as := [.ref t, .int (nI k), .int (nI s), .int (nI u.toNat), .int (nI (P + 256 * A)), .int (nI (dep + 1))]) (rest := []) rfl rfl rfl rfl rfl rfl (Nat.le_of_ble_eq_true rfl) ?_
        refine c_ofChoice hW hR ih (by omega) hk hs hP hA h_18 ?_
        show am_G _ M_X0_analyse _ 202 [some (.ref t), some (.int (nI k)), some (.int (nI s)), some (.int (nI u.toNat)), some (.int (nI (P + 256 * A))), some (.int (nI dep))] [.int (nI (eC (anB p (an p f) k s u P A)))] σ
        refine am_reti rfl rfl ?_
        exact hq _ rfl (an_ok hW (f + 1) (k + 1) s u P A (by omega))
      have h_18 : ¬ (p 0 k = 63) := fun z => h_18 ((nI_eq (by omega) (by omega)).mpr z)
      refine am_sw1 (k := nI 64) (tgt := 266) rfl (by decide) (by decide) rfl (fun (h_19 : nI (p 0 k) = nI 64) => ?_) (fun (h_19 : ¬ (nI (p 0 k) = nI 64)) => ?_)
      · have h_19 : p 0 k = 64 := (nI_eq (by omega) (by omega)).mp h_19
        refine am_run 8 (pc' := 276) (ls' := [some (.ref t), some (.int (nI k)), some (.int (nI s)), some (.int (nI u.toNat)), some (.int (nI (P + 256 * A))), some (.int (nI dep))]) (st' := [.int (nI dep + nI 1), .int (nI (P + 256 * A)), .int (nI u.toNat), .int (nI s), .int (nI k), .ref t]) (σ' := σ) rfl ?_
        refine am_top (v' := nI (dep + 1)) (nI_add _ _) ?_
        refine am_invs (y := 22) (as := [.ref t, .int (nI k), .int (nI s), .int (nI u.toNat), .int (nI (P + 256 * A)), .int (nI (dep + 1))]) (rest := []) rfl rfl rfl rfl rfl rfl (Nat.le_of_ble_eq_true rfl) ?_
        refine c_ofAbort hW hR ih (by omega) hk hs hP hA h_19 ?_
        show am_G _ M_X0_analyse _ 279 [some (.ref t), some (.int (nI k)), some (.int (nI s)), some (.int (nI u.toNat)), some (.int (nI (P + 256 * A))), some (.int (nI dep))] [.int (nI (eC (anB p (an p f) k s u P A)))] σ
        refine am_reti rfl rfl ?_
        exact hq _ rfl (an_ok hW (f + 1) (k + 1) s u P A (by omega))
      have h_19 : ¬ (p 0 k = 64) := fun z => h_19 ((nI_eq (by omega) (by omega)).mpr z)
      refine am_sw1 (k := nI 94) (tgt := 245) rfl (by decide) (by decide) rfl (fun (h_20 : nI (p 0 k) = nI 94) => ?_) (fun (h_20 : ¬ (nI (p 0 k) = nI 94)) => ?_)
      · have h_20 : p 0 k = 94 := (nI_eq (by omega) (by omega)).mp h_20
        refine am_run 3 (pc' := 248) (ls' := [some (.ref t), some (.int (nI k)), some (.int (nI s)), some (.int (nI u.toNat)), some (.int (nI (P + 256 * A))), some (.int (nI dep))]) (st' := [.int (nI k), .ref t, .ref t]) (σ' := σ) rfl ?_
        refine am_invv (y := 115) (b := t) (as := [.int (nI k)]) (rest := [.ref t]) rfl rfl rfl rfl rfl rfl (TR_kind hR) (Nat.le_of_ble_eq_true rfl) ?_
        refine c_leftOf (by omega) hW hR hk ?_
        show am_G _ M_X0_analyse _ 251 [some (.ref t), some (.int (nI k)), some (.int (nI s)), some (.int (nI u.toNat)), some (.int (nI (P + 256 * A))), some (.int (nI dep))] [.int (oI (p 2 k)), .ref t] σ
        refine am_run 6 (pc' := 259) (ls' := [some (.ref t), some (.int (nI k)), some (.int (nI s)), some (.int (nI u.toNat)), some (.int (nI (P + 256 * A))), some (.int (nI dep))]) (st' := [.int (nI dep + nI 1), .int (nI (P + 256 * A)), .int (nI u.toNat), .int (nI s), .int (oI (p 2 k)), .ref t]) (σ' := σ) rfl ?_
        refine am_top (v' := nI (dep + 1)) (nI_add _ _) ?_
        refine am_invs (y := 11) (as := [.ref t, .int (oI (p 2 k)), .int (nI s), .int (nI u.toNat), .int (nI (P + 256 * A)), .int (nI (dep + 1))]) (rest := []) rfl rfl rfl rfl rfl rfl (Nat.le_of_ble_eq_true rfl) ?_
        refine ih _ (by omega) (p 2 k) s u P A _ w2 (by omega) hP hA (fun r21 hr21 ok21 => ?_)
        obtain ⟨ok21a, ok21b, ok21c, ok21d⟩ := id ok21
        show am_G _ M_X0_analyse _ 262 [some (.ref t), some (.int (nI k)), some (.int (nI s)), some (.int (nI u.toNat)), some (.int (nI (P + 256 * A))), some (.int (nI dep))] [.int (nI (eC r21))] σ
        refine am_invs (y := 20) (as := [.int (nI (eC r21))]) (rest := []) rfl rfl rfl rfl rfl rfl (Nat.le_of_ble_eq_true rfl) ?_
        refine c_a_ofTrap (by omega) ok21 ?_
        show am_G _ M_X0_analyse _ 265 [some (.ref t), some (.int (nI k)), some (.int (nI s)), some (.int (nI u.toNat)), some (.int (nI (P + 256 * A))), some (.int (nI dep))] [.int (nI (eC (r_trap r21)))] σ
        refine am_reti rfl rfl ?_
        have e : an p (f + 1) (k + 1) s u P A = (r_trap r21) := by
          refine (anB_94 h_20).trans ?_
          first | rfl | (simp only [*, if_true, if_false, ne_eq, not_false_eq_true, not_true_eq_false, true_or, false_or, or_false, or_true, or_self, and_true, true_and, and_false, false_and, and_self, Bool.false_eq_true, Bool.true_eq_false, reduceIte, Bool.and_true, Bool.and_false, Bool.true_and, Bool.false_and]; done) | (simp only [*, if_true, if_false, ne_eq, not_false_eq_true, not_true_eq_false, true_or, false_or, or_false, or_true, or_self, and_true, true_and, and_false, false_and, and_self, Bool.false_eq_true, Bool.true_eq_false, reduceIte, Bool.and_true, Bool.and_false, Bool.true_and, Bool.false_and]; rfl)
        exact hq _ e (e ▸ an_ok hW (f + 1) (k + 1) s u P A (by omega))
      have h_20 : ¬ (p 0 k = 94) := fun z => h_20 ((nI_eq (by omega) (by omega)).mpr z)
      refine am_sw1 (k := nI 120) (tgt := 164) rfl (by decide) (by decide) rfl (fun (h_22 : nI (p 0 k) = nI 120) => ?_) (fun (h_22 : ¬ (nI (p 0 k) = nI 120)) => ?_)
      · have h_22 : p 0 k = 120 := (nI_eq (by omega) (by omega)).mp h_22
        have hg1 := w6 h_22
        have hg2 : 2 ^ (p 1 k - 1) ≤ 2 ^ 4 := Nat.pow_le_pow_right (by decide) (by omega)
        refine am_run 3 (pc' := 169) (ls' := [some (.ref t), some (.int (nI k)), some (.int (nI s)), some (.int (nI u.toNat)), some (.int (nI (P + 256 * A))), some (.int (nI dep))]) (st' := [.int (nI k), .ref t, .int (nI 1024)]) (σ' := σ) rfl ?_
        refine am_invv (y := 113) (b := t) (as := [.int (nI k)]) (rest := [.int (nI 1024)]) rfl rfl rfl rfl rfl rfl (TR_kind hR) (Nat.le_of_ble_eq_true rfl) ?_
        refine c_detailOf (by omega) hW hR hk ?_
        show am_G _ M_X0_analyse _ 172 [some (.ref t), some (.int (nI k)), some (.int (nI s)), some (.int (nI u.toNat)), some (.int (nI (P + 256 * A))), some (.int (nI dep))] [.int (oI (p 1 k)), .int (nI 1024)] σ
        refine am_top (v' := nI (p 1 k - 1)) (oI_p hg1.1) ?_
        refine am_run 1 (pc' := 173) (ls' := [some (.ref t), some (.int (nI k)), some (.int (nI s)), some (.int (nI u.toNat)), some (.int (nI (P + 256 * A))), some (.int (nI dep))]) (st' := [.int ((nI 1024) <<< ((nI (p 1 k - 1)) &&& 31))]) (σ' := σ) rfl ?_
        refine am_top (v' := nI (0 + 256 * (4 * 2 ^ (p 1 k - 1)))) (by rw [nx_shl _ (by omega)]; congr 1; omega) ?_
        refine am_invs (y := 8) (as := [.int (nI (0 + 256 * (4 * 2 ^ (p 1 k - 1))))]) (rest := []) rfl rfl rfl rfl rfl rfl (Nat.le_of_ble_eq_true rfl) ?_
        refine c_a_certainly (by omega) (m := 0) (k := (4 * 2 ^ (p 1 k - 1))) (by first | decide | omega | exact pow_lt_256 (by omega) | (exact or_lt8 (by omega) (by omega)) | (exact or_lt7 (by omega) (by omega)) | (exact mx_lt (by omega) (by omega)) | (exact ct_lt (by omega)) | (exact en_lt (by omega)) | (exact cl_lt (by omega)) | (exact or_lt7 (cl_lt (by omega)) (by omega)) | (exact or_lt8 (cl_lt (by omega)) (pow_lt_256 (by omega))) | (exact cl_lt (en_lt (by omega)))) (by first | decide | omega | exact pow_lt_256 (by omega) | (exact or_lt8 (by omega) (by omega)) | (exact or_lt7 (by omega) (by omega)) | (exact mx_lt (by omega) (by omega)) | (exact ct_lt (by omega)) | (exact en_lt (by omega)) | (exact cl_lt (by omega)) | (exact or_lt7 (cl_lt (by omega)) (by omega)) | (exact or_lt8 (cl_lt (by omega)) (pow_lt_256 (by omega))) | (exact cl_lt (en_lt (by omega)))) ?_
        show am_G _ M_X0_analyse _ 176 [some (.ref t), some (.int (nI k)), some (.int (nI s)), some (.int (nI u.toNat)), some (.int (nI (P + 256 * A))), some (.int (nI dep))] [.int (nI (eC (0, 0, (4 * 2 ^ (p 1 k - 1)), (4 * 2 ^ (p 1 k - 1)))))] σ
        refine am_reti rfl rfl ?_
        have e : an p (f + 1) (k + 1) s u P A = (0, 0, (4 * 2 ^ (p 1 k - 1)), (4 * 2 ^ (p 1 k - 1))) := by
          refine (anB_120 h_22).trans ?_
          first | rfl | (simp only [*, if_true, if_false, ne_eq, not_false_eq_true, not_true_eq_false, true_or, false_or, or_false, or_true, or_self, and_true, true_and, and_false, false_and, and_self, Bool.false_eq_true, Bool.true_eq_false, reduceIte, Bool.and_true, Bool.and_false, Bool.true_and, Bool.false_and]; done) | (simp only [*, if_true, if_false, ne_eq, not_false_eq_true, not_true_eq_false, true_or, false_or, or_false, or_true, or_self, and_true, true_and, and_false, false_and, and_self, Bool.false_eq_true, Bool.true_eq_false, reduceIte, Bool.and_true, Bool.and_false, Bool.true_and, Bool.false_and]; rfl)
        exact hq _ e (e ▸ an_ok hW (f + 1) (k + 1) s u P A (by omega))
      have h_22 : ¬ (p 0 k = 120) := fun z => h_22 ((nI_eq (by omega) (by omega)).mpr z)
      refine am_sw1 (k := nI 124) (tgt := 217) rfl (by decide) (by decide) rfl (fun (h_23 : nI (p 0 k) = nI 124) => ?_) (fun (h_23 : ¬ (nI (p 0 k) = nI 124)) => ?_)
      · have h_23 : p 0 k = 124 := (nI_eq (by omega) (by omega)).mp h_23
        refine am_run 8 (pc' := 227) (ls' := [some (.ref t), some (.int (nI k)), some (.int (nI s)), some (.int (nI u.toNat)), some (.int (nI (P + 256 * A))), some (.int (nI dep))]) (st' := [.int (nI dep + nI 1), .int (nI (P + 256 * A)), .int (nI u.toNat), .int (nI s), .int (nI k), .ref t]) (σ' := σ) rfl ?_
        refine am_top (v' := nI (dep + 1)) (nI_add _ _) ?_
        refine am_invs (y := 16) (as := [.ref t, .int (nI k), .int (nI s), .int (nI u.toNat), .int (nI (P + 256 * A)), .int (nI (dep + 1))]) (rest := []) rfl rfl rfl rfl rfl rfl (Nat.le_of_ble_eq_true rfl) ?_
        refine c_ofParallel hW hR ih (by omega) hk hs hP hA h_23 ?_
        show am_G _ M_X0_analyse _ 230 [some (.ref t), some (.int (nI k)), some (.int (nI s)), some (.int (nI u.toNat)), some (.int (nI (P + 256 * A))), some (.int (nI dep))] [.int (nI (eC (anB p (an p f) k s u P A)))] σ
        refine am_reti rfl rfl ?_
        exact hq _ rfl (an_ok hW (f + 1) (k + 1) s u P A (by omega))
      have h_23 : ¬ (p 0 k = 124) := fun z => h_23 ((nI_eq (by omega) (by omega)).mpr z)
      refine am_sw1 (k := nI 126) (tgt := 280) rfl (by decide) (by decide) rfl (fun (h_24 : nI (p 0 k) = nI 126) => ?_) (fun (h_24 : ¬ (nI (p 0 k) = nI 126)) => ?_)
      · have h_24 : p 0 k = 126 := (nI_eq (by omega) (by omega)).mp h_24
        refine am_run 8 (pc' := 290) (ls' := [some (.ref t), some (.int (nI k)), some (.int (nI s)), some (.int (nI u.toNat)), some (.int (nI (P + 256 * A))), some (.int (nI dep))]) (st' := [.int (nI dep + nI 1), .int (nI (P + 256 * A)), .int (nI u.toNat), .int (nI s), .int (nI k), .ref t]) (σ' := σ) rfl ?_
        refine am_top (v' := nI (dep + 1)) (nI_add _ _) ?_
        refine am_invs (y := 23) (as := [.ref t, .int (nI k), .int (nI s), .int (nI u.toNat), .int (nI (P + 256 * A)), .int (nI (dep + 1))]) (rest := []) rfl rfl rfl rfl rfl rfl (Nat.le_of_ble_eq_true rfl) ?_
        refine c_ofWeakAbort hW hR ih (by omega) hk hs hP hA h_24 ?_
        show am_G _ M_X0_analyse _ 293 [some (.ref t), some (.int (nI k)), some (.int (nI s)), some (.int (nI u.toNat)), some (.int (nI (P + 256 * A))), some (.int (nI dep))] [.int (nI (eC (anB p (an p f) k s u P A)))] σ
        refine am_reti rfl rfl ?_
        exact hq _ rfl (an_ok hW (f + 1) (k + 1) s u P A (by omega))
      have h_24 : ¬ (p 0 k = 126) := fun z => h_24 ((nI_eq (by omega) (by omega)).mpr z)
      refine am_sw0 (tgt := 308) (by decide) rfl ?_
      refine am_run 1 (pc' := 311) (ls' := [some (.ref t), some (.int (nI k)), some (.int (nI s)), some (.int (nI u.toNat)), some (.int (nI (P + 256 * A))), some (.int (nI dep))]) (st' := [.int (nI 256)]) (σ' := σ) rfl ?_
      refine am_invs (y := 8) (as := [.int (nI 256)]) (rest := []) rfl rfl rfl rfl rfl rfl (Nat.le_of_ble_eq_true rfl) ?_
      refine c_a_certainly (by omega) (m := 0) (k := 1) (by first | decide | omega | exact pow_lt_256 (by omega) | (exact or_lt8 (by omega) (by omega)) | (exact or_lt7 (by omega) (by omega)) | (exact mx_lt (by omega) (by omega)) | (exact ct_lt (by omega)) | (exact en_lt (by omega)) | (exact cl_lt (by omega)) | (exact or_lt7 (cl_lt (by omega)) (by omega)) | (exact or_lt8 (cl_lt (by omega)) (pow_lt_256 (by omega))) | (exact cl_lt (en_lt (by omega)))) (by first | decide | omega | exact pow_lt_256 (by omega) | (exact or_lt8 (by omega) (by omega)) | (exact or_lt7 (by omega) (by omega)) | (exact mx_lt (by omega) (by omega)) | (exact ct_lt (by omega)) | (exact en_lt (by omega)) | (exact cl_lt (by omega)) | (exact or_lt7 (cl_lt (by omega)) (by omega)) | (exact or_lt8 (cl_lt (by omega)) (pow_lt_256 (by omega))) | (exact cl_lt (en_lt (by omega)))) ?_
      show am_G _ M_X0_analyse _ 314 [some (.ref t), some (.int (nI k)), some (.int (nI s)), some (.int (nI u.toNat)), some (.int (nI (P + 256 * A))), some (.int (nI dep))] [.int (nI (eC (0, 0, 1, 1)))] σ
      refine am_reti rfl rfl ?_
      have e : an p (f + 1) (k + 1) s u P A = (0, 0, 1, 1) := anB_z (by omega) (by omega) (by omega) (by omega) (by omega) (by omega) (by omega) (by omega) (by omega) (by omega) (by omega) (by omega)
      exact hq _ e (e ▸ an_ok hW (f + 1) (k + 1) s u P A (by omega))

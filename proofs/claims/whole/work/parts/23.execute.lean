set_option maxRecDepth 10000 in
set_option maxHeartbeats 4000000 in
theorem c_execute {σ : am_M} {t n : Nat} {p : Pg} (hW : PW p n) (hR : TR σ t p n) : ∀ (f dep : Nat), f + dep = 61 → EX σ t p n f dep
  | 0, dep, hf => by
    intro d hd x s P Q hx hs hP hqn hqs
    cases x with
    | zero =>
      rw [oI_0]
      refine am_enter' (M := M_X2_execute) rfl rfl rfl (by omega) (ls := [some (.ref t), some (.int (-1)), some (.int (nI s)), some (.int (nI P)), some (.int (nI dep)), none]) rfl (fun d' hd' => ?_)
      refine am_run 2 (pc' := 2) (ls' := [some (.ref t), some (.int (-1)), some (.int (nI s)), some (.int (nI P)), some (.int (nI dep)), none]) (st' := [.int (-1), .ref t]) (σ' := σ) rfl ?_
      refine am_invv (y := 106) (b := t) (as := [.int (-1)]) (rest := []) rfl rfl rfl rfl rfl rfl (TR_kind hR) (Nat.le_of_ble_eq_true rfl) ?_
      refine c_has0 (by omega) hR ?_
      show am_G _ M_X2_execute _ 5 [some (.ref t), some (.int (-1)), some (.int (nI s)), some (.int (nI P)), some (.int (nI dep)), none] [.int (nI 0)] σ
      refine am_if (ty := 15) (tn := 8) rfl (by decide) rfl rfl (fun (h_1 : nI 0 = 0) => ?_) (fun (h_1 : ¬ (nI 0 = 0)) => ?_)
      rotate_left
      · exact absurd (by decide) h_1
      refine am_run 2 (pc' := 17) (ls' := [some (.ref t), some (.int (-1)), some (.int (nI s)), some (.int (nI P)), some (.int (nI dep)), none]) (st' := [.int (nI 0), .int (nI 0)]) (σ' := σ) rfl ?_
      refine am_invs (y := 40) (as := [.int (nI 0), .int (nI 0)]) (rest := []) rfl rfl rfl rfl rfl rfl (Nat.le_of_ble_eq_true rfl) ?_
      refine c_x_completion (by omega) (c := 0) (q := 0) (by decide) (by first | omega | decide | exact or_lt20 (by omega) (by omega)) ?_
      show am_G _ M_X2_execute _ 20 [some (.ref t), some (.int (-1)), some (.int (nI s)), some (.int (nI P)), some (.int (nI dep)), none] [.int (nI (0 * 1048576 + 0))] σ
      refine am_reti rfl rfl ?_
      exact hqs 0 0 rfl (by decide) (by decide) (Or.inr rfl)
    | succ k =>
      rw [oI_s]
      have hk : k < n := by omega
      refine am_enter' (M := M_X2_execute) rfl rfl rfl (by omega) (ls := [some (.ref t), some (.int (nI k)), some (.int (nI s)), some (.int (nI P)), some (.int (nI dep)), none]) rfl (fun d' hd' => ?_)
      refine am_run 2 (pc' := 2) (ls' := [some (.ref t), some (.int (nI k)), some (.int (nI s)), some (.int (nI P)), some (.int (nI dep)), none]) (st' := [.int (nI k), .ref t]) (σ' := σ) rfl ?_
      refine am_invv (y := 106) (b := t) (as := [.int (nI k)]) (rest := []) rfl rfl rfl rfl rfl rfl (TR_kind hR) (Nat.le_of_ble_eq_true rfl) ?_
      refine c_has (by omega) hW hR hk ?_
      show am_G _ M_X2_execute _ 5 [some (.ref t), some (.int (nI k)), some (.int (nI s)), some (.int (nI P)), some (.int (nI dep)), none] [.int (nI 1)] σ
      refine am_if (ty := 15) (tn := 8) rfl (by decide) rfl rfl (fun (h_1 : nI 1 = 0) => ?_) (fun (h_1 : ¬ (nI 1 = 0)) => ?_)
      · exact absurd h_1 (by decide)
      refine am_run 2 (pc' := 12) (ls' := [some (.ref t), some (.int (nI k)), some (.int (nI s)), some (.int (nI P)), some (.int (nI dep)), none]) (st' := [.int (nI 60), .int (nI dep)]) (σ' := σ) rfl ?_
      refine am_ic (ty := 15) (tn := 21) rfl (by decide) rfl rfl (fun (h_2 : nI 60 < nI dep) => ?_) (fun (h_2 : ¬ (nI 60 < nI dep)) => ?_)
      rotate_left
      · have h_2 : ¬ (60 < dep) := fun z => h_2 ((nI_ltI (by omega) (by omega)).mpr z)
        omega
      have h_2 : 60 < dep := (nI_ltI (by omega) (by omega)).mp h_2
      refine am_run 2 (pc' := 17) (ls' := [some (.ref t), some (.int (nI k)), some (.int (nI s)), some (.int (nI P)), some (.int (nI dep)), none]) (st' := [.int (nI 0), .int (nI 0)]) (σ' := σ) rfl ?_
      refine am_invs (y := 40) (as := [.int (nI 0), .int (nI 0)]) (rest := []) rfl rfl rfl rfl rfl rfl (Nat.le_of_ble_eq_true rfl) ?_
      refine c_x_completion (by omega) (c := 0) (q := 0) (by decide) (by first | omega | decide | exact or_lt20 (by omega) (by omega)) ?_
      show am_G _ M_X2_execute _ 20 [some (.ref t), some (.int (nI k)), some (.int (nI s)), some (.int (nI P)), some (.int (nI dep)), none] [.int (nI (0 * 1048576 + 0))] σ
      refine am_reti rfl rfl ?_
      exact hqs 0 0 rfl (by decide) (by decide) (Or.inr rfl)
  | f + 1, dep, hf => by
    have ih := c_execute hW hR f (dep + 1) (by omega)
    have ihA := c_analyse hW hR f (dep + 1) (by omega)
    intro d hd x s P Q hx hs hP hqn hqs
    cases x with
    | zero =>
      rw [oI_0]
      refine am_enter' (M := M_X2_execute) rfl rfl rfl (by omega) (ls := [some (.ref t), some (.int (-1)), some (.int (nI s)), some (.int (nI P)), some (.int (nI dep)), none]) rfl (fun d' hd' => ?_)
      refine am_run 2 (pc' := 2) (ls' := [some (.ref t), some (.int (-1)), some (.int (nI s)), some (.int (nI P)), some (.int (nI dep)), none]) (st' := [.int (-1), .ref t]) (σ' := σ) rfl ?_
      refine am_invv (y := 106) (b := t) (as := [.int (-1)]) (rest := []) rfl rfl rfl rfl rfl rfl (TR_kind hR) (Nat.le_of_ble_eq_true rfl) ?_
      refine c_has0 (by omega) hR ?_
      show am_G _ M_X2_execute _ 5 [some (.ref t), some (.int (-1)), some (.int (nI s)), some (.int (nI P)), some (.int (nI dep)), none] [.int (nI 0)] σ
      refine am_if (ty := 15) (tn := 8) rfl (by decide) rfl rfl (fun (h_1 : nI 0 = 0) => ?_) (fun (h_1 : ¬ (nI 0 = 0)) => ?_)
      rotate_left
      · exact absurd (by decide) h_1
      refine am_run 2 (pc' := 17) (ls' := [some (.ref t), some (.int (-1)), some (.int (nI s)), some (.int (nI P)), some (.int (nI dep)), none]) (st' := [.int (nI 0), .int (nI 0)]) (σ' := σ) rfl ?_
      refine am_invs (y := 40) (as := [.int (nI 0), .int (nI 0)]) (rest := []) rfl rfl rfl rfl rfl rfl (Nat.le_of_ble_eq_true rfl) ?_
      refine c_x_completion (by omega) (c := 0) (q := 0) (by decide) (by first | omega | decide | exact or_lt20 (by omega) (by omega)) ?_
      show am_G _ M_X2_execute _ 20 [some (.ref t), some (.int (-1)), some (.int (nI s)), some (.int (nI P)), some (.int (nI dep)), none] [.int (nI (0 * 1048576 + 0))] σ
      refine am_reti rfl rfl ?_
      exact hqs 0 0 rfl (by decide) (by decide) (Or.inr rfl)
    | succ k =>
      rw [oI_s]
      have hk : k < n := by omega
      obtain ⟨w0, w1, w2, w3, w4, w5, w6⟩ := hW.2 k hk
      refine am_enter' (M := M_X2_execute) rfl rfl rfl (by omega) (ls := [some (.ref t), some (.int (nI k)), some (.int (nI s)), some (.int (nI P)), some (.int (nI dep)), none]) rfl (fun d' hd' => ?_)
      refine am_run 2 (pc' := 2) (ls' := [some (.ref t), some (.int (nI k)), some (.int (nI s)), some (.int (nI P)), some (.int (nI dep)), none]) (st' := [.int (nI k), .ref t]) (σ' := σ) rfl ?_
      refine am_invv (y := 106) (b := t) (as := [.int (nI k)]) (rest := []) rfl rfl rfl rfl rfl rfl (TR_kind hR) (Nat.le_of_ble_eq_true rfl) ?_
      refine c_has (by omega) hW hR hk ?_
      show am_G _ M_X2_execute _ 5 [some (.ref t), some (.int (nI k)), some (.int (nI s)), some (.int (nI P)), some (.int (nI dep)), none] [.int (nI 1)] σ
      refine am_if (ty := 15) (tn := 8) rfl (by decide) rfl rfl (fun (h_1 : nI 1 = 0) => ?_) (fun (h_1 : ¬ (nI 1 = 0)) => ?_)
      · exact absurd h_1 (by decide)
      refine am_run 2 (pc' := 12) (ls' := [some (.ref t), some (.int (nI k)), some (.int (nI s)), some (.int (nI P)), some (.int (nI dep)), none]) (st' := [.int (nI 60), .int (nI dep)]) (σ' := σ) rfl ?_
      refine am_ic (ty := 15) (tn := 21) rfl (by decide) rfl rfl (fun (h_2 : nI 60 < nI dep) => ?_) (fun (h_2 : ¬ (nI 60 < nI dep)) => ?_)
      · have h_2 : 60 < dep := (nI_ltI (by omega) (by omega)).mp h_2
        omega
      have h_2 : ¬ (60 < dep) := fun z => h_2 ((nI_ltI (by omega) (by omega)).mpr z)
      refine am_run 2 (pc' := 23) (ls' := [some (.ref t), some (.int (nI k)), some (.int (nI s)), some (.int (nI P)), some (.int (nI dep)), none]) (st' := [.int (nI k), .ref t]) (σ' := σ) rfl ?_
      refine am_invv (y := 112) (b := t) (as := [.int (nI k)]) (rest := []) rfl rfl rfl rfl rfl rfl (TR_kind hR) (Nat.le_of_ble_eq_true rfl) ?_
      refine c_tokenOf (by omega) hW hR hk ?_
      show am_G _ M_X2_execute _ 26 [some (.ref t), some (.int (nI k)), some (.int (nI s)), some (.int (nI P)), some (.int (nI dep)), none] [.int (nI (p 0 k))] σ
      refine am_lsw rfl rfl (L := [(36, 255), (38, 130), (42, 208), (46, 98), (59, 184), (63, 172), (64, 243), (94, 224), (120, 118), (124, 196), (126, 243)]) rfl ?_
      refine am_sw1 (k := nI 36) (tgt := 281) rfl (by decide) (by decide) rfl (fun (h_3 : nI (p 0 k) = nI 36) => ?_) (fun (h_3 : ¬ (nI (p 0 k) = nI 36)) => ?_)
      · have h_3 : p 0 k = 36 := (nI_eq (by omega) (by omega)).mp h_3
        refine am_run 7 (pc' := 289) (ls' := [some (.ref t), some (.int (nI k)), some (.int (nI s)), some (.int (nI P)), some (.int (nI dep)), none]) (st' := [.int (nI dep + nI 1), .int (nI P), .int (nI s), .int (nI k), .ref t]) (σ' := σ) rfl ?_
        refine am_top (v' := nI (dep + 1)) (nI_add _ _) ?_
        refine am_invs (y := 49) (as := [.ref t, .int (nI k), .int (nI s), .int (nI P), .int (nI (dep + 1))]) (rest := []) rfl rfl rfl rfl rfl rfl (Nat.le_of_ble_eq_true rfl) ?_
        refine c_x_ofLocal hW hR ihA ih (by omega) hk hs hP h_3 (fun he4 => ?_) (fun c4 q4 he4 => ?_)
        · replace hqn := hqn he4
          show am_G _ M_X2_execute _ 292 [some (.ref t), some (.int (nI k)), some (.int (nI s)), some (.int (nI P)), some (.int (nI dep)), none] [.int (-1)] σ
          refine am_reti rfl rfl ?_
          exact hqn
        · replace hqs := hqs _ _ he4 (ex_ok hW (f + 1) (k + 1) s P hx _ _ he4).1 (ex_ok hW (f + 1) (k + 1) s P hx _ _ he4).2.1 (ex_ok hW (f + 1) (k + 1) s P hx _ _ he4).2.2
          show am_G _ M_X2_execute _ 292 [some (.ref t), some (.int (nI k)), some (.int (nI s)), some (.int (nI P)), some (.int (nI dep)), none] [.int (nI (c4 * 1048576 + q4))] σ
          refine am_reti rfl rfl ?_
          exact hqs
      have h_3 : ¬ (p 0 k = 36) := fun z => h_3 ((nI_eq (by omega) (by omega)).mpr z)
      refine am_sw1 (k := nI 38) (tgt := 156) rfl (by decide) (by decide) rfl (fun (h_5 : nI (p 0 k) = nI 38) => ?_) (fun (h_5 : ¬ (nI (p 0 k) = nI 38)) => ?_)
      · have h_5 : p 0 k = 38 := (nI_eq (by omega) (by omega)).mp h_5
        have hg1 : 1 ≤ p 1 k := w5 (by rw [h_5]; decide)
        refine am_run 2 (pc' := 159) (ls' := [some (.ref t), some (.int (nI k)), some (.int (nI s)), some (.int (nI P)), some (.int (nI dep)), none]) (st' := [.int (nI 1048576), .int (nI s)]) (σ' := σ) rfl ?_
        refine am_ic (ty := 176) (tn := 162) rfl (by decide) rfl rfl (fun (h_6 : nI s = nI 1048576) => ?_) (fun (h_6 : ¬ (nI s = nI 1048576)) => ?_)
        · have h_6 : s = 1048576 := (nI_eq (by omega) (by omega)).mp h_6
          refine am_run 3 (pc' := 181) (ls' := [some (.ref t), some (.int (nI k)), some (.int (nI s)), some (.int (nI P)), some (.int (nI dep)), some (.int (nI 0))]) (st' := [.int (nI 0)]) (σ' := σ) rfl ?_
          refine am_if (ty := 188) (tn := 184) rfl (by decide) rfl rfl (fun (h_7 : nI 0 = 0) => ?_) (fun (h_7 : ¬ (nI 0 = 0)) => ?_)
          rotate_left
          · exact absurd (by decide) h_7
          refine am_run 3 (pc' := 191) (ls' := [some (.ref t), some (.int (nI k)), some (.int (nI s)), some (.int (nI P)), some (.int (nI dep)), some (.int (nI 0))]) (st' := [.int (nI k), .ref t, .int (nI 1)]) (σ' := σ) rfl ?_
          refine am_invv (y := 117) (b := t) (as := [.int (nI k)]) (rest := [.int (nI 1)]) rfl rfl rfl rfl rfl rfl (TR_kind hR) (Nat.le_of_ble_eq_true rfl) ?_
          refine c_pausesOf (by omega) hW hR hk ?_
          show am_G _ M_X2_execute _ 194 [some (.ref t), some (.int (nI k)), some (.int (nI s)), some (.int (nI P)), some (.int (nI dep)), some (.int (nI 0))] [.int (nI (p 4 k)), .int (nI 1)] σ
          refine am_invs (y := 40) (as := [.int (nI 1), .int (nI (p 4 k))]) (rest := []) rfl rfl rfl rfl rfl rfl (Nat.le_of_ble_eq_true rfl) ?_
          refine c_x_completion (by omega) (c := 1) (q := p 4 k) (by decide) (by first | omega | decide | exact or_lt20 (by omega) (by omega)) ?_
          show am_G _ M_X2_execute _ 197 [some (.ref t), some (.int (nI k)), some (.int (nI s)), some (.int (nI P)), some (.int (nI dep)), some (.int (nI 0))] [.int (nI (1 * 1048576 + p 4 k))] σ
          refine am_reti rfl rfl ?_
          have e : ex p (f + 1) (k + 1) s P = some (1, p 4 k) := by
            refine (exB_38 h_5).trans ?_
            first | rfl | (simp only [*, if_true, if_false, ne_eq, not_false_eq_true, not_true_eq_false, true_or, false_or, or_false, or_true, or_self, and_true, true_and, and_false, false_and, and_self, Bool.false_eq_true, Bool.true_eq_false, reduceIte, Bool.and_true, Bool.and_false, Bool.true_and, Bool.false_and, x_seq, x_par, x_trap, x_weak, Option.map_some, Option.map_none, Option.some.injEq, cpl, reduceCtorEq, Nat.max_def]; done) | (simp only [*, if_true, if_false, ne_eq, not_false_eq_true, not_true_eq_false, true_or, false_or, or_false, or_true, or_self, and_true, true_and, and_false, false_and, and_self, Bool.false_eq_true, Bool.true_eq_false, reduceIte, Bool.and_true, Bool.and_false, Bool.true_and, Bool.false_and, x_seq, x_par, x_trap, x_weak, Option.map_some, Option.map_none, Option.some.injEq, cpl, reduceCtorEq, Nat.max_def]; rfl) | (simp only [*, if_true, if_false, ne_eq, not_false_eq_true, not_true_eq_false, true_or, false_or, or_false, or_true, or_self, and_true, true_and, and_false, false_and, and_self, Bool.false_eq_true, Bool.true_eq_false, reduceIte, Bool.and_true, Bool.and_false, Bool.true_and, Bool.false_and, x_seq, x_par, x_trap, x_weak, Option.map_some, Option.map_none, Option.some.injEq, cpl, reduceCtorEq, Nat.max_def]; simp)
          have e2 := ex_ok hW (f + 1) (k + 1) s P hx _ _ e
          exact hqs _ _ e e2.1 e2.2.1 e2.2.2
        · have h_6 : ¬ (s = 1048576) := fun z => h_6 ((nI_eq (by omega) (by omega)).mpr z)
          refine am_run 3 (pc' := 165) (ls' := [some (.ref t), some (.int (nI k)), some (.int (nI s)), some (.int (nI P)), some (.int (nI dep)), none]) (st' := [.int (nI k), .ref t, .int (nI P)]) (σ' := σ) rfl ?_
          refine am_invv (y := 118) (b := t) (as := [.int (nI k)]) (rest := [.int (nI P)]) rfl rfl rfl rfl rfl rfl (TR_kind hR) (Nat.le_of_ble_eq_true rfl) ?_
          refine c_signalOf (by omega) hW hR hk (g := p 1 k - 1) (by omega) ?_
          show am_G _ M_X2_execute _ 168 [some (.ref t), some (.int (nI k)), some (.int (nI s)), some (.int (nI P)), some (.int (nI dep)), none] [.int (nI (2 ^ (p 1 k - 1))), .int (nI P)] σ
          refine am_run 1 (pc' := 169) (ls' := [some (.ref t), some (.int (nI k)), some (.int (nI s)), some (.int (nI P)), some (.int (nI dep)), none]) (st' := [.int (nI P &&& nI (2 ^ (p 1 k - 1)))]) (σ' := σ) rfl ?_
          refine am_if (ty := 176) (tn := 172) rfl (by decide) rfl rfl (fun (h_8 : nI P &&& nI (2 ^ (p 1 k - 1)) = 0) => ?_) (fun (h_8 : ¬ (nI P &&& nI (2 ^ (p 1 k - 1)) = 0)) => ?_)
          · have h_8 : P.testBit (p 1 k - 1) = false := (nx_has (a := P) (s := p 1 k - 1) (by omega) (by omega)).mp h_8
            refine am_run 3 (pc' := 181) (ls' := [some (.ref t), some (.int (nI k)), some (.int (nI s)), some (.int (nI P)), some (.int (nI dep)), some (.int (nI 0))]) (st' := [.int (nI 0)]) (σ' := σ) rfl ?_
            refine am_if (ty := 188) (tn := 184) rfl (by decide) rfl rfl (fun (h_9 : nI 0 = 0) => ?_) (fun (h_9 : ¬ (nI 0 = 0)) => ?_)
            rotate_left
            · exact absurd (by decide) h_9
            refine am_run 3 (pc' := 191) (ls' := [some (.ref t), some (.int (nI k)), some (.int (nI s)), some (.int (nI P)), some (.int (nI dep)), some (.int (nI 0))]) (st' := [.int (nI k), .ref t, .int (nI 1)]) (σ' := σ) rfl ?_
            refine am_invv (y := 117) (b := t) (as := [.int (nI k)]) (rest := [.int (nI 1)]) rfl rfl rfl rfl rfl rfl (TR_kind hR) (Nat.le_of_ble_eq_true rfl) ?_
            refine c_pausesOf (by omega) hW hR hk ?_
            show am_G _ M_X2_execute _ 194 [some (.ref t), some (.int (nI k)), some (.int (nI s)), some (.int (nI P)), some (.int (nI dep)), some (.int (nI 0))] [.int (nI (p 4 k)), .int (nI 1)] σ
            refine am_invs (y := 40) (as := [.int (nI 1), .int (nI (p 4 k))]) (rest := []) rfl rfl rfl rfl rfl rfl (Nat.le_of_ble_eq_true rfl) ?_
            refine c_x_completion (by omega) (c := 1) (q := p 4 k) (by decide) (by first | omega | decide | exact or_lt20 (by omega) (by omega)) ?_
            show am_G _ M_X2_execute _ 197 [some (.ref t), some (.int (nI k)), some (.int (nI s)), some (.int (nI P)), some (.int (nI dep)), some (.int (nI 0))] [.int (nI (1 * 1048576 + p 4 k))] σ
            refine am_reti rfl rfl ?_
            have e : ex p (f + 1) (k + 1) s P = some (1, p 4 k) := by
              refine (exB_38 h_5).trans ?_
              first | rfl | (simp only [*, if_true, if_false, ne_eq, not_false_eq_true, not_true_eq_false, true_or, false_or, or_false, or_true, or_self, and_true, true_and, and_false, false_and, and_self, Bool.false_eq_true, Bool.true_eq_false, reduceIte, Bool.and_true, Bool.and_false, Bool.true_and, Bool.false_and, x_seq, x_par, x_trap, x_weak, Option.map_some, Option.map_none, Option.some.injEq, cpl, reduceCtorEq, Nat.max_def]; done) | (simp only [*, if_true, if_false, ne_eq, not_false_eq_true, not_true_eq_false, true_or, false_or, or_false, or_true, or_self, and_true, true_and, and_false, false_and, and_self, Bool.false_eq_true, Bool.true_eq_false, reduceIte, Bool.and_true, Bool.and_false, Bool.true_and, Bool.false_and, x_seq, x_par, x_trap, x_weak, Option.map_some, Option.map_none, Option.some.injEq, cpl, reduceCtorEq, Nat.max_def]; rfl) | (simp only [*, if_true, if_false, ne_eq, not_false_eq_true, not_true_eq_false, true_or, false_or, or_false, or_true, or_self, and_true, true_and, and_false, false_and, and_self, Bool.false_eq_true, Bool.true_eq_false, reduceIte, Bool.and_true, Bool.and_false, Bool.true_and, Bool.false_and, x_seq, x_par, x_trap, x_weak, Option.map_some, Option.map_none, Option.some.injEq, cpl, reduceCtorEq, Nat.max_def]; simp)
            have e2 := ex_ok hW (f + 1) (k + 1) s P hx _ _ e
            exact hqs _ _ e e2.1 e2.2.1 e2.2.2
          · have h_8 : P.testBit (p 1 k - 1) = true := by simpa using fun z => h_8 ((nx_has (a := P) (s := p 1 k - 1) (by omega) (by omega)).mpr z)
            refine am_run 4 (pc' := 181) (ls' := [some (.ref t), some (.int (nI k)), some (.int (nI s)), some (.int (nI P)), some (.int (nI dep)), some (.int (nI 1))]) (st' := [.int (nI 1)]) (σ' := σ) rfl ?_
            refine am_if (ty := 188) (tn := 184) rfl (by decide) rfl rfl (fun (h_10 : nI 1 = 0) => ?_) (fun (h_10 : ¬ (nI 1 = 0)) => ?_)
            · exact absurd h_10 (by decide)
            refine am_run 4 (pc' := 191) (ls' := [some (.ref t), some (.int (nI k)), some (.int (nI s)), some (.int (nI P)), some (.int (nI dep)), some (.int (nI 1))]) (st' := [.int (nI k), .ref t, .int (nI 0)]) (σ' := σ) rfl ?_
            refine am_invv (y := 117) (b := t) (as := [.int (nI k)]) (rest := [.int (nI 0)]) rfl rfl rfl rfl rfl rfl (TR_kind hR) (Nat.le_of_ble_eq_true rfl) ?_
            refine c_pausesOf (by omega) hW hR hk ?_
            show am_G _ M_X2_execute _ 194 [some (.ref t), some (.int (nI k)), some (.int (nI s)), some (.int (nI P)), some (.int (nI dep)), some (.int (nI 1))] [.int (nI (p 4 k)), .int (nI 0)] σ
            refine am_invs (y := 40) (as := [.int (nI 0), .int (nI (p 4 k))]) (rest := []) rfl rfl rfl rfl rfl rfl (Nat.le_of_ble_eq_true rfl) ?_
            refine c_x_completion (by omega) (c := 0) (q := p 4 k) (by decide) (by first | omega | decide | exact or_lt20 (by omega) (by omega)) ?_
            show am_G _ M_X2_execute _ 197 [some (.ref t), some (.int (nI k)), some (.int (nI s)), some (.int (nI P)), some (.int (nI dep)), some (.int (nI 1))] [.int (nI (0 * 1048576 + 0))] σ
            refine am_reti rfl rfl ?_
            have e : ex p (f + 1) (k + 1) s P = some (0, 0) := by
              refine (exB_38 h_5).trans ?_
              first | rfl | (simp only [*, if_true, if_false, ne_eq, not_false_eq_true, not_true_eq_false, true_or, false_or, or_false, or_true, or_self, and_true, true_and, and_false, false_and, and_self, Bool.false_eq_true, Bool.true_eq_false, reduceIte, Bool.and_true, Bool.and_false, Bool.true_and, Bool.false_and, x_seq, x_par, x_trap, x_weak, Option.map_some, Option.map_none, Option.some.injEq, cpl, reduceCtorEq, Nat.max_def]; done) | (simp only [*, if_true, if_false, ne_eq, not_false_eq_true, not_true_eq_false, true_or, false_or, or_false, or_true, or_self, and_true, true_and, and_false, false_and, and_self, Bool.false_eq_true, Bool.true_eq_false, reduceIte, Bool.and_true, Bool.and_false, Bool.true_and, Bool.false_and, x_seq, x_par, x_trap, x_weak, Option.map_some, Option.map_none, Option.some.injEq, cpl, reduceCtorEq, Nat.max_def]; rfl) | (simp only [*, if_true, if_false, ne_eq, not_false_eq_true, not_true_eq_false, true_or, false_or, or_false, or_true, or_self, and_true, true_and, and_false, false_and, and_self, Bool.false_eq_true, Bool.true_eq_false, reduceIte, Bool.and_true, Bool.and_false, Bool.true_and, Bool.false_and, x_seq, x_par, x_trap, x_weak, Option.map_some, Option.map_none, Option.some.injEq, cpl, reduceCtorEq, Nat.max_def]; simp)
            have e2 := ex_ok hW (f + 1) (k + 1) s P hx _ _ e
            exact hqs _ _ e e2.1 e2.2.1 e2.2.2
      have h_5 : ¬ (p 0 k = 38) := fun z => h_5 ((nI_eq (by omega) (by omega)).mpr z)
      refine am_sw1 (k := nI 42) (tgt := 234) rfl (by decide) (by decide) rfl (fun (h_11 : nI (p 0 k) = nI 42) => ?_) (fun (h_11 : ¬ (nI (p 0 k) = nI 42)) => ?_)
      · have h_11 : p 0 k = 42 := (nI_eq (by omega) (by omega)).mp h_11
        refine am_run 3 (pc' := 237) (ls' := [some (.ref t), some (.int (nI k)), some (.int (nI s)), some (.int (nI P)), some (.int (nI dep)), none]) (st' := [.int (nI k), .ref t, .ref t]) (σ' := σ) rfl ?_
        refine am_invv (y := 115) (b := t) (as := [.int (nI k)]) (rest := [.ref t]) rfl rfl rfl rfl rfl rfl (TR_kind hR) (Nat.le_of_ble_eq_true rfl) ?_
        refine c_leftOf (by omega) hW hR hk ?_
        show am_G _ M_X2_execute _ 240 [some (.ref t), some (.int (nI k)), some (.int (nI s)), some (.int (nI P)), some (.int (nI dep)), none] [.int (oI (p 2 k)), .ref t] σ
        refine am_run 5 (pc' := 246) (ls' := [some (.ref t), some (.int (nI k)), some (.int (nI s)), some (.int (nI P)), some (.int (nI dep)), none]) (st' := [.int (nI dep + nI 1), .int (nI P), .int (nI s), .int (oI (p 2 k)), .ref t]) (σ' := σ) rfl ?_
        refine am_top (v' := nI (dep + 1)) (nI_add _ _) ?_
        refine am_invs (y := 46) (as := [.ref t, .int (oI (p 2 k)), .int (nI s), .int (nI P), .int (nI (dep + 1))]) (rest := []) rfl rfl rfl rfl rfl rfl (Nat.le_of_ble_eq_true rfl) ?_
        refine c_x_ofLoop hW hR ih (by omega) w2 hs hP (fun he12 => ?_) (fun c12 q12 he12 => ?_)
        · replace hqn := hqn ((exB_42 (F := ex p f) (G := an p f) (s := s) (P := P) h_11).trans he12)
          show am_G _ M_X2_execute _ 249 [some (.ref t), some (.int (nI k)), some (.int (nI s)), some (.int (nI P)), some (.int (nI dep)), none] [.int (-1)] σ
          refine am_reti rfl rfl ?_
          exact hqn
        · have he12 := ((exB_42 (F := ex p f) (G := an p f) (s := s) (P := P) h_11).trans he12)
          replace hqs := hqs _ _ he12 (ex_ok hW (f + 1) (k + 1) s P hx _ _ he12).1 (ex_ok hW (f + 1) (k + 1) s P hx _ _ he12).2.1 (ex_ok hW (f + 1) (k + 1) s P hx _ _ he12).2.2
          show am_G _ M_X2_execute _ 249 [some (.ref t), some (.int (nI k)), some (.int (nI s)), some (.int (nI P)), some (.int (nI dep)), none] [.int (nI (c12 * 1048576 + q12))] σ
          refine am_reti rfl rfl ?_
          exact hqs
      have h_11 : ¬ (p 0 k = 42) := fun z => h_11 ((nI_eq (by omega) (by omega)).mpr z)
      refine am_sw1 (k := nI 46) (tgt := 124) rfl (by decide) (by decide) rfl (fun (h_13 : nI (p 0 k) = nI 46) => ?_) (fun (h_13 : ¬ (nI (p 0 k) = nI 46)) => ?_)
      · have h_13 : p 0 k = 46 := (nI_eq (by omega) (by omega)).mp h_13
        refine am_run 2 (pc' := 127) (ls' := [some (.ref t), some (.int (nI k)), some (.int (nI s)), some (.int (nI P)), some (.int (nI dep)), none]) (st' := [.int (nI 1048576), .int (nI s)]) (σ' := σ) rfl ?_
        refine am_ic (ty := 130) (tn := 134) rfl (by decide) rfl rfl (fun (h_14 : nI s = nI 1048576) => ?_) (fun (h_14 : ¬ (nI s = nI 1048576)) => ?_)
        · have h_14 : s = 1048576 := (nI_eq (by omega) (by omega)).mp h_14
          refine am_run 4 (pc' := 137) (ls' := [some (.ref t), some (.int (nI k)), some (.int (nI s)), some (.int (nI P)), some (.int (nI dep)), none]) (st' := [.int (nI k), .ref t, .int (nI 1)]) (σ' := σ) rfl ?_
          refine am_invv (y := 117) (b := t) (as := [.int (nI k)]) (rest := [.int (nI 1)]) rfl rfl rfl rfl rfl rfl (TR_kind hR) (Nat.le_of_ble_eq_true rfl) ?_
          refine c_pausesOf (by omega) hW hR hk ?_
          show am_G _ M_X2_execute _ 140 [some (.ref t), some (.int (nI k)), some (.int (nI s)), some (.int (nI P)), some (.int (nI dep)), none] [.int (nI (p 4 k)), .int (nI 1)] σ
          refine am_invs (y := 40) (as := [.int (nI 1), .int (nI (p 4 k))]) (rest := []) rfl rfl rfl rfl rfl rfl (Nat.le_of_ble_eq_true rfl) ?_
          refine c_x_completion (by omega) (c := 1) (q := p 4 k) (by decide) (by first | omega | decide | exact or_lt20 (by omega) (by omega)) ?_
          show am_G _ M_X2_execute _ 143 [some (.ref t), some (.int (nI k)), some (.int (nI s)), some (.int (nI P)), some (.int (nI dep)), none] [.int (nI (1 * 1048576 + p 4 k))] σ
          refine am_reti rfl rfl ?_
          have e : ex p (f + 1) (k + 1) s P = some (1, p 4 k) := by
            refine (exB_46 h_13).trans ?_
            first | rfl | (simp only [*, if_true, if_false, ne_eq, not_false_eq_true, not_true_eq_false, true_or, false_or, or_false, or_true, or_self, and_true, true_and, and_false, false_and, and_self, Bool.false_eq_true, Bool.true_eq_false, reduceIte, Bool.and_true, Bool.and_false, Bool.true_and, Bool.false_and, x_seq, x_par, x_trap, x_weak, Option.map_some, Option.map_none, Option.some.injEq, cpl, reduceCtorEq, Nat.max_def]; done) | (simp only [*, if_true, if_false, ne_eq, not_false_eq_true, not_true_eq_false, true_or, false_or, or_false, or_true, or_self, and_true, true_and, and_false, false_and, and_self, Bool.false_eq_true, Bool.true_eq_false, reduceIte, Bool.and_true, Bool.and_false, Bool.true_and, Bool.false_and, x_seq, x_par, x_trap, x_weak, Option.map_some, Option.map_none, Option.some.injEq, cpl, reduceCtorEq, Nat.max_def]; rfl) | (simp only [*, if_true, if_false, ne_eq, not_false_eq_true, not_true_eq_false, true_or, false_or, or_false, or_true, or_self, and_true, true_and, and_false, false_and, and_self, Bool.false_eq_true, Bool.true_eq_false, reduceIte, Bool.and_true, Bool.and_false, Bool.true_and, Bool.false_and, x_seq, x_par, x_trap, x_weak, Option.map_some, Option.map_none, Option.some.injEq, cpl, reduceCtorEq, Nat.max_def]; simp)
          have e2 := ex_ok hW (f + 1) (k + 1) s P hx _ _ e
          exact hqs _ _ e e2.1 e2.2.1 e2.2.2
        · have h_14 : ¬ (s = 1048576) := fun z => h_14 ((nI_eq (by omega) (by omega)).mpr z)
          refine am_run 3 (pc' := 137) (ls' := [some (.ref t), some (.int (nI k)), some (.int (nI s)), some (.int (nI P)), some (.int (nI dep)), none]) (st' := [.int (nI k), .ref t, .int (nI 0)]) (σ' := σ) rfl ?_
          refine am_invv (y := 117) (b := t) (as := [.int (nI k)]) (rest := [.int (nI 0)]) rfl rfl rfl rfl rfl rfl (TR_kind hR) (Nat.le_of_ble_eq_true rfl) ?_
          refine c_pausesOf (by omega) hW hR hk ?_
          show am_G _ M_X2_execute _ 140 [some (.ref t), some (.int (nI k)), some (.int (nI s)), some (.int (nI P)), some (.int (nI dep)), none] [.int (nI (p 4 k)), .int (nI 0)] σ
          refine am_invs (y := 40) (as := [.int (nI 0), .int (nI (p 4 k))]) (rest := []) rfl rfl rfl rfl rfl rfl (Nat.le_of_ble_eq_true rfl) ?_
          refine c_x_completion (by omega) (c := 0) (q := p 4 k) (by decide) (by first | omega | decide | exact or_lt20 (by omega) (by omega)) ?_
          show am_G _ M_X2_execute _ 143 [some (.ref t), some (.int (nI k)), some (.int (nI s)), some (.int (nI P)), some (.int (nI dep)), none] [.int (nI (0 * 1048576 + 0))] σ
          refine am_reti rfl rfl ?_
          have e : ex p (f + 1) (k + 1) s P = some (0, 0) := by
            refine (exB_46 h_13).trans ?_
            first | rfl | (simp only [*, if_true, if_false, ne_eq, not_false_eq_true, not_true_eq_false, true_or, false_or, or_false, or_true, or_self, and_true, true_and, and_false, false_and, and_self, Bool.false_eq_true, Bool.true_eq_false, reduceIte, Bool.and_true, Bool.and_false, Bool.true_and, Bool.false_and, x_seq, x_par, x_trap, x_weak, Option.map_some, Option.map_none, Option.some.injEq, cpl, reduceCtorEq, Nat.max_def]; done) | (simp only [*, if_true, if_false, ne_eq, not_false_eq_true, not_true_eq_false, true_or, false_or, or_false, or_true, or_self, and_true, true_and, and_false, false_and, and_self, Bool.false_eq_true, Bool.true_eq_false, reduceIte, Bool.and_true, Bool.and_false, Bool.true_and, Bool.false_and, x_seq, x_par, x_trap, x_weak, Option.map_some, Option.map_none, Option.some.injEq, cpl, reduceCtorEq, Nat.max_def]; rfl) | (simp only [*, if_true, if_false, ne_eq, not_false_eq_true, not_true_eq_false, true_or, false_or, or_false, or_true, or_self, and_true, true_and, and_false, false_and, and_self, Bool.false_eq_true, Bool.true_eq_false, reduceIte, Bool.and_true, Bool.and_false, Bool.true_and, Bool.false_and, x_seq, x_par, x_trap, x_weak, Option.map_some, Option.map_none, Option.some.injEq, cpl, reduceCtorEq, Nat.max_def]; simp)
          have e2 := ex_ok hW (f + 1) (k + 1) s P hx _ _ e
          exact hqs _ _ e e2.1 e2.2.1 e2.2.2
      have h_13 : ¬ (p 0 k = 46) := fun z => h_13 ((nI_eq (by omega) (by omega)).mpr z)
      refine am_sw1 (k := nI 59) (tgt := 210) rfl (by decide) (by decide) rfl (fun (h_15 : nI (p 0 k) = nI 59) => ?_) (fun (h_15 : ¬ (nI (p 0 k) = nI 59)) => ?_)
      · have h_15 : p 0 k = 59 := (nI_eq (by omega) (by omega)).mp h_15
        refine am_run 7 (pc' := 218) (ls' := [some (.ref t), some (.int (nI k)), some (.int (nI s)), some (.int (nI P)), some (.int (nI dep)), none]) (st' := [.int (nI dep + nI 1), .int (nI P), .int (nI s), .int (nI k), .ref t]) (σ' := σ) rfl ?_
        refine am_top (v' := nI (dep + 1)) (nI_add _ _) ?_
        refine am_invs (y := 43) (as := [.ref t, .int (nI k), .int (nI s), .int (nI P), .int (nI (dep + 1))]) (rest := []) rfl rfl rfl rfl rfl rfl (Nat.le_of_ble_eq_true rfl) ?_
        refine c_x_ofSequence hW hR ihA ih (by omega) hk hs hP h_15 (fun he16 => ?_) (fun c16 q16 he16 => ?_)
        · replace hqn := hqn he16
          show am_G _ M_X2_execute _ 221 [some (.ref t), some (.int (nI k)), some (.int (nI s)), some (.int (nI P)), some (.int (nI dep)), none] [.int (-1)] σ
          refine am_reti rfl rfl ?_
          exact hqn
        · replace hqs := hqs _ _ he16 (ex_ok hW (f + 1) (k + 1) s P hx _ _ he16).1 (ex_ok hW (f + 1) (k + 1) s P hx _ _ he16).2.1 (ex_ok hW (f + 1) (k + 1) s P hx _ _ he16).2.2
          show am_G _ M_X2_execute _ 221 [some (.ref t), some (.int (nI k)), some (.int (nI s)), some (.int (nI P)), some (.int (nI dep)), none] [.int (nI (c16 * 1048576 + q16))] σ
          refine am_reti rfl rfl ?_
          exact hqs
      have h_15 : ¬ (p 0 k = 59) := fun z => h_15 ((nI_eq (by omega) (by omega)).mpr z)
      refine am_sw1 (k := nI 63) (tgt := 198) rfl (by decide) (by decide) rfl (fun (h_17 : nI (p 0 k) = nI 63) => ?_) (fun (h_17 : ¬ (nI (p 0 k) = nI 63)) => ?_)
      · have h_17 : p 0 k = 63 := (nI_eq (by omega) (by omega)).mp h_17
        refine am_run 7 (pc' := 206) (ls' := [some (.ref t), some (.int (nI k)), some (.int (nI s)), some (.int (nI P)), some (.int (nI dep)), none]) (st' := [.int (nI dep + nI 1), .int (nI P), .int (nI s), .int (nI k), .ref t]) (σ' := σ) rfl ?_
        refine am_top (v' := nI (dep + 1)) (nI_add _ _) ?_
        refine am_invs (y := 42) (as := [.ref t, .int (nI k), .int (nI s), .int (nI P), .int (nI (dep + 1))]) (rest := []) rfl rfl rfl rfl rfl rfl (Nat.le_of_ble_eq_true rfl) ?_
        refine c_x_ofChoice hW hR ihA ih (by omega) hk hs hP h_17 (fun he18 => ?_) (fun c18 q18 he18 => ?_)
        · replace hqn := hqn he18
          show am_G _ M_X2_execute _ 209 [some (.ref t), some (.int (nI k)), some (.int (nI s)), some (.int (nI P)), some (.int (nI dep)), none] [.int (-1)] σ
          refine am_reti rfl rfl ?_
          exact hqn
        · replace hqs := hqs _ _ he18 (ex_ok hW (f + 1) (k + 1) s P hx _ _ he18).1 (ex_ok hW (f + 1) (k + 1) s P hx _ _ he18).2.1 (ex_ok hW (f + 1) (k + 1) s P hx _ _ he18).2.2
          show am_G _ M_X2_execute _ 209 [some (.ref t), some (.int (nI k)), some (.int (nI s)), some (.int (nI P)), some (.int (nI dep)), none] [.int (nI (c18 * 1048576 + q18))] σ
          refine am_reti rfl rfl ?_
          exact hqs
      have h_17 : ¬ (p 0 k = 63) := fun z => h_17 ((nI_eq (by omega) (by omega)).mpr z)
      refine am_sw1 (k := nI 64) (tgt := 269) rfl (by decide) (by decide) rfl (fun (h_19 : nI (p 0 k) = nI 64) => ?_) (fun (h_19 : ¬ (nI (p 0 k) = nI 64)) => ?_)
      · have h_19 : p 0 k = 64 := (nI_eq (by omega) (by omega)).mp h_19
        refine am_run 7 (pc' := 277) (ls' := [some (.ref t), some (.int (nI k)), some (.int (nI s)), some (.int (nI P)), some (.int (nI dep)), none]) (st' := [.int (nI dep + nI 1), .int (nI P), .int (nI s), .int (nI k), .ref t]) (σ' := σ) rfl ?_
        refine am_top (v' := nI (dep + 1)) (nI_add _ _) ?_
        refine am_invs (y := 48) (as := [.ref t, .int (nI k), .int (nI s), .int (nI P), .int (nI (dep + 1))]) (rest := []) rfl rfl rfl rfl rfl rfl (Nat.le_of_ble_eq_true rfl) ?_
        refine c_x_ofAbortA hW hR ihA ih (by omega) hk hs hP h_19 (fun he20 => ?_) (fun c20 q20 he20 => ?_)
        · replace hqn := hqn he20
          show am_G _ M_X2_execute _ 280 [some (.ref t), some (.int (nI k)), some (.int (nI s)), some (.int (nI P)), some (.int (nI dep)), none] [.int (-1)] σ
          refine am_reti rfl rfl ?_
          exact hqn
        · replace hqs := hqs _ _ he20 (ex_ok hW (f + 1) (k + 1) s P hx _ _ he20).1 (ex_ok hW (f + 1) (k + 1) s P hx _ _ he20).2.1 (ex_ok hW (f + 1) (k + 1) s P hx _ _ he20).2.2
          show am_G _ M_X2_execute _ 280 [some (.ref t), some (.int (nI k)), some (.int (nI s)), some (.int (nI P)), some (.int (nI dep)), none] [.int (nI (c20 * 1048576 + q20))] σ
          refine am_reti rfl rfl ?_
          exact hqs
      have h_19 : ¬ (p 0 k = 64) := fun z => h_19 ((nI_eq (by omega) (by omega)).mpr z)
      refine am_sw1 (k := nI 94) (tgt := 250) rfl (by decide) (by decide) rfl (fun (h_21 : nI (p 0 k) = nI 94) => ?_) (fun (h_21 : ¬ (nI (p 0 k) = nI 94)) => ?_)
      · have h_21 : p 0 k = 94 := (nI_eq (by omega) (by omega)).mp h_21
        refine am_run 3 (pc' := 253) (ls' := [some (.ref t), some (.int (nI k)), some (.int (nI s)), some (.int (nI P)), some (.int (nI dep)), none]) (st' := [.int (nI k), .ref t, .ref t]) (σ' := σ) rfl ?_
        refine am_invv (y := 115) (b := t) (as := [.int (nI k)]) (rest := [.ref t]) rfl rfl rfl rfl rfl rfl (TR_kind hR) (Nat.le_of_ble_eq_true rfl) ?_
        refine c_leftOf (by omega) hW hR hk ?_
        show am_G _ M_X2_execute _ 256 [some (.ref t), some (.int (nI k)), some (.int (nI s)), some (.int (nI P)), some (.int (nI dep)), none] [.int (oI (p 2 k)), .ref t] σ
        refine am_run 5 (pc' := 262) (ls' := [some (.ref t), some (.int (nI k)), some (.int (nI s)), some (.int (nI P)), some (.int (nI dep)), none]) (st' := [.int (nI dep + nI 1), .int (nI P), .int (nI s), .int (oI (p 2 k)), .ref t]) (σ' := σ) rfl ?_
        refine am_top (v' := nI (dep + 1)) (nI_add _ _) ?_
        refine am_invs (y := 41) (as := [.ref t, .int (oI (p 2 k)), .int (nI s), .int (nI P), .int (nI (dep + 1))]) (rest := []) rfl rfl rfl rfl rfl rfl (Nat.le_of_ble_eq_true rfl) ?_
        refine ih _ (by omega) (p 2 k) s P _ w2 hs hP (fun he22 => ?_) (fun c22 q22 he22 hc22 hq22 hz22 => ?_)
        · have heT := he22
          show am_G _ M_X2_execute _ 265 [some (.ref t), some (.int (nI k)), some (.int (nI s)), some (.int (nI P)), some (.int (nI dep)), none] [.int (-1)] σ
          refine am_invs (y := 47) (as := [.int (-1)]) (rest := []) rfl rfl rfl rfl rfl rfl (Nat.le_of_ble_eq_true rfl) ?_
          refine c_x_ofTrapN (by omega) ?_
          replace hqn := hqn ((exB_94 h_21).trans (by rw [heT]; rfl))
          show am_G _ M_X2_execute _ 268 [some (.ref t), some (.int (nI k)), some (.int (nI s)), some (.int (nI P)), some (.int (nI dep)), none] [.int (-1)] σ
          refine am_reti rfl rfl ?_
          exact hqn
        · have heT := he22
          show am_G _ M_X2_execute _ 265 [some (.ref t), some (.int (nI k)), some (.int (nI s)), some (.int (nI P)), some (.int (nI dep)), none] [.int (nI (c22 * 1048576 + q22))] σ
          refine am_invs (y := 47) (as := [.int (nI (c22 * 1048576 + q22))]) (rest := []) rfl rfl rfl rfl rfl rfl (Nat.le_of_ble_eq_true rfl) ?_
          refine c_x_ofTrap (by omega) (c := c22) (q := q22) (by omega) (by omega) (fun c23 q23 he23 => ?_)
          have he23 := (exB_94 (F := ex p f) (G := an p f) (s := s) (P := P) h_21).trans ((congrArg x_trap heT).trans he23)
          replace hqs := hqs _ _ he23 (ex_ok hW (f + 1) (k + 1) s P hx _ _ he23).1 (ex_ok hW (f + 1) (k + 1) s P hx _ _ he23).2.1 (ex_ok hW (f + 1) (k + 1) s P hx _ _ he23).2.2
          show am_G _ M_X2_execute _ 268 [some (.ref t), some (.int (nI k)), some (.int (nI s)), some (.int (nI P)), some (.int (nI dep)), none] [.int (nI (c23 * 1048576 + q23))] σ
          refine am_reti rfl rfl ?_
          exact hqs
      have h_21 : ¬ (p 0 k = 94) := fun z => h_21 ((nI_eq (by omega) (by omega)).mpr z)
      refine am_sw1 (k := nI 120) (tgt := 144) rfl (by decide) (by decide) rfl (fun (h_24 : nI (p 0 k) = nI 120) => ?_) (fun (h_24 : ¬ (nI (p 0 k) = nI 120)) => ?_)
      · have h_24 : p 0 k = 120 := (nI_eq (by omega) (by omega)).mp h_24
        have hg1 := w6 h_24
        refine am_run 3 (pc' := 147) (ls' := [some (.ref t), some (.int (nI k)), some (.int (nI s)), some (.int (nI P)), some (.int (nI dep)), none]) (st' := [.int (nI k), .ref t, .int (nI 2)]) (σ' := σ) rfl ?_
        refine am_invv (y := 113) (b := t) (as := [.int (nI k)]) (rest := [.int (nI 2)]) rfl rfl rfl rfl rfl rfl (TR_kind hR) (Nat.le_of_ble_eq_true rfl) ?_
        refine c_detailOf (by omega) hW hR hk ?_
        show am_G _ M_X2_execute _ 150 [some (.ref t), some (.int (nI k)), some (.int (nI s)), some (.int (nI P)), some (.int (nI dep)), none] [.int (oI (p 1 k)), .int (nI 2)] σ
        refine am_top (v' := nI (p 1 k - 1)) (oI_p hg1.1) ?_
        refine am_run 1 (pc' := 151) (ls' := [some (.ref t), some (.int (nI k)), some (.int (nI s)), some (.int (nI P)), some (.int (nI dep)), none]) (st' := [.int (nI 2 + nI (p 1 k - 1))]) (σ' := σ) rfl ?_
        refine am_top (v' := nI (2 + (p 1 k - 1))) (nI_add _ _) ?_
        refine am_run 1 (pc' := 152) (ls' := [some (.ref t), some (.int (nI k)), some (.int (nI s)), some (.int (nI P)), some (.int (nI dep)), none]) (st' := [.int (nI 0), .int (nI (2 + (p 1 k - 1)))]) (σ' := σ) rfl ?_
        refine am_invs (y := 40) (as := [.int (nI (2 + (p 1 k - 1))), .int (nI 0)]) (rest := []) rfl rfl rfl rfl rfl rfl (Nat.le_of_ble_eq_true rfl) ?_
        refine c_x_completion (by omega) (c := 2 + (p 1 k - 1)) (q := 0) (by first | omega | decide | exact or_lt20 (by omega) (by omega)) (by first | omega | decide | exact or_lt20 (by omega) (by omega)) ?_
        show am_G _ M_X2_execute _ 155 [some (.ref t), some (.int (nI k)), some (.int (nI s)), some (.int (nI P)), some (.int (nI dep)), none] [.int (nI ((2 + (p 1 k - 1)) * 1048576 + (if 2 + (p 1 k - 1) = 1 then 0 else 0)))] σ
        refine am_reti rfl rfl ?_
        have e : ex p (f + 1) (k + 1) s P = some ((2 + (p 1 k - 1)), (if 2 + (p 1 k - 1) = 1 then 0 else 0)) := by
          refine (exB_120 h_24).trans ?_
          first | rfl | (simp only [*, if_true, if_false, ne_eq, not_false_eq_true, not_true_eq_false, true_or, false_or, or_false, or_true, or_self, and_true, true_and, and_false, false_and, and_self, Bool.false_eq_true, Bool.true_eq_false, reduceIte, Bool.and_true, Bool.and_false, Bool.true_and, Bool.false_and, x_seq, x_par, x_trap, x_weak, Option.map_some, Option.map_none, Option.some.injEq, cpl, reduceCtorEq, Nat.max_def]; done) | (simp only [*, if_true, if_false, ne_eq, not_false_eq_true, not_true_eq_false, true_or, false_or, or_false, or_true, or_self, and_true, true_and, and_false, false_and, and_self, Bool.false_eq_true, Bool.true_eq_false, reduceIte, Bool.and_true, Bool.and_false, Bool.true_and, Bool.false_and, x_seq, x_par, x_trap, x_weak, Option.map_some, Option.map_none, Option.some.injEq, cpl, reduceCtorEq, Nat.max_def]; rfl) | (simp only [*, if_true, if_false, ne_eq, not_false_eq_true, not_true_eq_false, true_or, false_or, or_false, or_true, or_self, and_true, true_and, and_false, false_and, and_self, Bool.false_eq_true, Bool.true_eq_false, reduceIte, Bool.and_true, Bool.and_false, Bool.true_and, Bool.false_and, x_seq, x_par, x_trap, x_weak, Option.map_some, Option.map_none, Option.some.injEq, cpl, reduceCtorEq, Nat.max_def]; simp)
        have e2 := ex_ok hW (f + 1) (k + 1) s P hx _ _ e
        exact hqs _ _ e e2.1 e2.2.1 e2.2.2
      have h_24 : ¬ (p 0 k = 120) := fun z => h_24 ((nI_eq (by omega) (by omega)).mpr z)
      refine am_sw1 (k := nI 124) (tgt := 222) rfl (by decide) (by decide) rfl (fun (h_25 : nI (p 0 k) = nI 124) => ?_) (fun (h_25 : ¬ (nI (p 0 k) = nI 124)) => ?_)
      · have h_25 : p 0 k = 124 := (nI_eq (by omega) (by omega)).mp h_25
        refine am_run 7 (pc' := 230) (ls' := [some (.ref t), some (.int (nI k)), some (.int (nI s)), some (.int (nI P)), some (.int (nI dep)), none]) (st' := [.int (nI dep + nI 1), .int (nI P), .int (nI s), .int (nI k), .ref t]) (σ' := σ) rfl ?_
        refine am_top (v' := nI (dep + 1)) (nI_add _ _) ?_
        refine am_invs (y := 44) (as := [.ref t, .int (nI k), .int (nI s), .int (nI P), .int (nI (dep + 1))]) (rest := []) rfl rfl rfl rfl rfl rfl (Nat.le_of_ble_eq_true rfl) ?_
        refine c_x_ofParallel hW hR ihA ih (by omega) hk hs hP h_25 (fun he26 => ?_) (fun c26 q26 he26 => ?_)
        · replace hqn := hqn he26
          show am_G _ M_X2_execute _ 233 [some (.ref t), some (.int (nI k)), some (.int (nI s)), some (.int (nI P)), some (.int (nI dep)), none] [.int (-1)] σ
          refine am_reti rfl rfl ?_
          exact hqn
        · replace hqs := hqs _ _ he26 (ex_ok hW (f + 1) (k + 1) s P hx _ _ he26).1 (ex_ok hW (f + 1) (k + 1) s P hx _ _ he26).2.1 (ex_ok hW (f + 1) (k + 1) s P hx _ _ he26).2.2
          show am_G _ M_X2_execute _ 233 [some (.ref t), some (.int (nI k)), some (.int (nI s)), some (.int (nI P)), some (.int (nI dep)), none] [.int (nI (c26 * 1048576 + q26))] σ
          refine am_reti rfl rfl ?_
          exact hqs
      have h_25 : ¬ (p 0 k = 124) := fun z => h_25 ((nI_eq (by omega) (by omega)).mpr z)
      refine am_sw1 (k := nI 126) (tgt := 269) rfl (by decide) (by decide) rfl (fun (h_27 : nI (p 0 k) = nI 126) => ?_) (fun (h_27 : ¬ (nI (p 0 k) = nI 126)) => ?_)
      · have h_27 : p 0 k = 126 := (nI_eq (by omega) (by omega)).mp h_27
        refine am_run 7 (pc' := 277) (ls' := [some (.ref t), some (.int (nI k)), some (.int (nI s)), some (.int (nI P)), some (.int (nI dep)), none]) (st' := [.int (nI dep + nI 1), .int (nI P), .int (nI s), .int (nI k), .ref t]) (σ' := σ) rfl ?_
        refine am_top (v' := nI (dep + 1)) (nI_add _ _) ?_
        refine am_invs (y := 48) (as := [.ref t, .int (nI k), .int (nI s), .int (nI P), .int (nI (dep + 1))]) (rest := []) rfl rfl rfl rfl rfl rfl (Nat.le_of_ble_eq_true rfl) ?_
        refine c_x_ofAbortW hW hR ihA ih (by omega) hk hs hP h_27 (fun he28 => ?_) (fun c28 q28 he28 => ?_)
        · replace hqn := hqn he28
          show am_G _ M_X2_execute _ 280 [some (.ref t), some (.int (nI k)), some (.int (nI s)), some (.int (nI P)), some (.int (nI dep)), none] [.int (-1)] σ
          refine am_reti rfl rfl ?_
          exact hqn
        · replace hqs := hqs _ _ he28 (ex_ok hW (f + 1) (k + 1) s P hx _ _ he28).1 (ex_ok hW (f + 1) (k + 1) s P hx _ _ he28).2.1 (ex_ok hW (f + 1) (k + 1) s P hx _ _ he28).2.2
          show am_G _ M_X2_execute _ 280 [some (.ref t), some (.int (nI k)), some (.int (nI s)), some (.int (nI P)), some (.int (nI dep)), none] [.int (nI (c28 * 1048576 + q28))] σ
          refine am_reti rfl rfl ?_
          exact hqs
      have h_27 : ¬ (p 0 k = 126) := fun z => h_27 ((nI_eq (by omega) (by omega)).mpr z)
      refine am_sw0 (tgt := 293) (by decide) rfl ?_
      refine am_run 2 (pc' := 295) (ls' := [some (.ref t), some (.int (nI k)), some (.int (nI s)), some (.int (nI P)), some (.int (nI dep)), none]) (st' := [.int (nI 0), .int (nI 0)]) (σ' := σ) rfl ?_
      refine am_invs (y := 40) (as := [.int (nI 0), .int (nI 0)]) (rest := []) rfl rfl rfl rfl rfl rfl (Nat.le_of_ble_eq_true rfl) ?_
      refine c_x_completion (by omega) (c := 0) (q := 0) (by decide) (by first | omega | decide | exact or_lt20 (by omega) (by omega)) ?_
      show am_G _ M_X2_execute _ 298 [some (.ref t), some (.int (nI k)), some (.int (nI s)), some (.int (nI P)), some (.int (nI dep)), none] [.int (nI (0 * 1048576 + 0))] σ
      refine am_reti rfl rfl ?_
      have e : ex p (f + 1) (k + 1) s P = some (0, 0) := by
        refine (exB_z (by omega) (by omega) (by omega) (by omega) (by omega) (by omega) (by omega) (by omega) (by omega) (by omega) (by omega)).trans ?_
        first | rfl | (simp only [*, if_true, if_false, ne_eq, not_false_eq_true, not_true_eq_false, true_or, false_or, or_false, or_true, or_self, and_true, true_and, and_false, false_and, and_self, Bool.false_eq_true, Bool.true_eq_false, reduceIte, Bool.and_true, Bool.and_false, Bool.true_and, Bool.false_and, x_seq, x_par, x_trap, x_weak, Option.map_some, Option.map_none, Option.some.injEq, cpl, reduceCtorEq, Nat.max_def]; done) | (simp only [*, if_true, if_false, ne_eq, not_false_eq_true, not_true_eq_false, true_or, false_or, or_false, or_true, or_self, and_true, true_and, and_false, false_and, and_self, Bool.false_eq_true, Bool.true_eq_false, reduceIte, Bool.and_true, Bool.and_false, Bool.true_and, Bool.false_and, x_seq, x_par, x_trap, x_weak, Option.map_some, Option.map_none, Option.some.injEq, cpl, reduceCtorEq, Nat.max_def]; rfl) | (simp only [*, if_true, if_false, ne_eq, not_false_eq_true, not_true_eq_false, true_or, false_or, or_false, or_true, or_self, and_true, true_and, and_false, false_and, and_self, Bool.false_eq_true, Bool.true_eq_false, reduceIte, Bool.and_true, Bool.and_false, Bool.true_and, Bool.false_and, x_seq, x_par, x_trap, x_weak, Option.map_some, Option.map_none, Option.some.injEq, cpl, reduceCtorEq, Nat.max_def]; simp)
      have e2 := ex_ok hW (f + 1) (k + 1) s P hx _ _ e
      exact hqs _ _ e e2.1 e2.2.1 e2.2.2

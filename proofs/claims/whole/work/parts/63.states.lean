/-- the reference's chart that is drawn -/
def CN (σ : am_M) (n wd : Nat) (tl ld : Nat → Nat) : Prop := 1 ≤ n ∧ n ≤ 100 ∧ wd ≤ 8 ∧ σ.1 0 49 = nI n ∧ ∀ a b, a < n → b < wd → σ.1 35 (8 * a + b) = oI (tl (8 * a + b)) ∧ tl (8 * a + b) ≤ 256 ∧ σ.1 34 (8 * a + b) = oI (ld (8 * a + b)) ∧ ld (8 * a + b) ≤ n ∧ (tl (8 * a + b) = 0 ↔ ld (8 * a + b) = 0)
theorem CN.keep {σ σ' : am_M} {n wd : Nat} {tl ld : Nat → Nat} (h : CN σ n wd tl ld) (h0 : σ'.1 0 = σ.1 0) (h4 : σ'.1 34 = σ.1 34) (h5 : σ'.1 35 = σ.1 35) : CN σ' n wd tl ld := by
  unfold CN
  rw [h0, h4, h5]
  exact h
theorem CM.cn {σ : am_M} {wd : Nat} {T : C5} (h : CM σ wd T.1 0 T) (h49 : σ.1 0 49 = nI T.1) (h1 : 1 ≤ T.1) (hl : T.1 ≤ 100) : CN σ T.1 wd T.2.2.1 T.2.2.2.1 := ⟨h1, hl, h.1, h49, fun a b ha hb => h.2.2.2 a b ⟨hb, Or.inl ha⟩⟩
theorem CX.ce {σ : am_M} {wd : Nat} {T : C5} (h : CX σ wd T.1 0 T) (h4 : σ.1 83 4 = nI T.1) (hl : T.1 ≤ 100) : CE σ.1 T.1 wd T.2.2.1 T.2.2.2.1 := ⟨hl, h.1, h4, h.2.1, fun a b ha hb => h.2.2.2.2 a b ⟨hb, Or.inl ha⟩⟩
theorem KX.tr {σ0 σ σ' : am_M} (h : KX σ0 σ) (h' : KX σ σ') : KX σ0 σ' := ⟨fun c a => (h'.1 c a).trans (h.1 c a), fun c a => (h'.2.1 c a).trans (h.2.1 c a), fun g => h'.2.2 (h.2.2 g)⟩
theorem KY.tr {σ0 σ σ' : am_M} (h : KY σ0 σ) (h' : KY σ σ') : KY σ0 σ' := ⟨fun c a => (h'.1 c a).trans (h.1 c a), fun k a => (h'.2.1 k a).trans (h.2.1 k a), h'.2.2.trans h.2.2⟩
set_option maxRecDepth 10000 in
set_option maxHeartbeats 2000000 in
theorem c_isLike_loop {d : Nat} {σ : am_M} {n wd : Nat} {tl ld G : Nat → Nat} (hC : CN σ n wd tl ld) (hG : ∀ x, x < n → σ.1 37 x = nI (G x) ∧ G x ≤ 100) {a b : Nat} (ha : a < n) (hb : b < n) {Q : am_Q} (h1 : alb G tl ld wd a b = true → Q (some (.int (nI 1))) σ) (h0 : alb G tl ld wd a b = false → Q (some (.int (nI 0))) σ) (hab : G a = G b) : ∀ (m i : Nat) (v6 v7 : Option Value), i + m = wd → alc G tl ld a b i = true → am_G d M_X10_isLike Q 25 [some (.ref 0), some (.int (nI a)), some (.int (nI b)), some (.int (nI wd)), some (.int (nI 1)), some (.int (nI i)), v6, v7] [] σ
  | 0, i, v6, v7, hm, hi => by
    obtain ⟨c0, c1, c2, c4, c6⟩ := id hC
    have e : i = wd := by omega
    subst e
    refine am_run 2 (pc' := 28) (ls' := [some (.ref 0), some (.int (nI a)), some (.int (nI b)), some (.int (nI i)), some (.int (nI 1)), some (.int (nI i)), v6, v7]) (st' := [.int (nI i), .int (nI i)]) (σ' := σ) rfl ?_
    refine am_ic (ty := 31) (tn := 139) rfl (by decide) rfl rfl (fun (h_1 : nI i < nI i) => ?_) (fun (h_1 : ¬ (nI i < nI i)) => ?_)
    · have h_1 : i < i := (nI_ltI (by omega) (by omega)).mp h_1
      omega
    have h_1 : ¬ (i < i) := fun z => h_1 ((nI_ltI (by omega) (by omega)).mpr z)
    refine am_run 1 (pc' := 141) (ls' := [some (.ref 0), some (.int (nI a)), some (.int (nI b)), some (.int (nI i)), some (.int (nI 1)), some (.int (nI i)), v6, v7]) (st' := [.int (nI 1)]) (σ' := σ) rfl ?_
    refine am_retz rfl rfl (by decide) ?_
    exact h1 (by unfold alb; simp [hab, hi])
  | m + 1, i, v6, v7, hm, hi => by
    obtain ⟨c0, c1, c2, c4, c6⟩ := id hC
    obtain ⟨a1, a2, a3, a4, a5⟩ := c6 a i ha (by omega)
    obtain ⟨e1, e2, e3, e4, e5⟩ := c6 b i hb (by omega)
    have hs : alc G tl ld a b (i + 1) = (tl (8 * a + i) == tl (8 * b + i) && (tl (8 * a + i) == 0 || G (ld (8 * a + i) - 1) == G (ld (8 * b + i) - 1))) := by
      show (alc G tl ld a b i && _) = _
      rw [hi, Bool.true_and]
    by_cases ee : tl (8 * a + i) = tl (8 * b + i)
    · by_cases ez : tl (8 * a + i) = 0
      · skip
        refine am_run 2 (pc' := 28) (ls' := [some (.ref 0), some (.int (nI a)), some (.int (nI b)), some (.int (nI wd)), some (.int (nI 1)), some (.int (nI i)), v6, v7]) (st' := [.int (nI wd), .int (nI i)]) (σ' := σ) rfl ?_
        refine am_ic (ty := 31) (tn := 139) rfl (by decide) rfl rfl (fun (h_1 : nI i < nI wd) => ?_) (fun (h_1 : ¬ (nI i < nI wd)) => ?_)
        rotate_left
        · have h_1 : ¬ (i < wd) := fun z => h_1 ((nI_ltI (by omega) (by omega)).mpr z)
          omega
        have h_1 : i < wd := (nI_ltI (by omega) (by omega)).mp h_1
        refine am_run 1 (pc' := 33) (ls' := [some (.ref 0), some (.int (nI a)), some (.int (nI b)), some (.int (nI wd)), some (.int (nI 1)), some (.int (nI i)), v6, v7]) (st' := [.int (nI 1)]) (σ' := σ) rfl ?_
        refine am_if (ty := 139) (tn := 36) rfl (by decide) rfl rfl (fun (h_2 : nI 1 = 0) => ?_) (fun (h_2 : ¬ (nI 1 = 0)) => ?_)
        · exact absurd h_2 (by decide)
        refine am_run 5 (pc' := 44) (ls' := [some (.ref 0), some (.int (nI a)), some (.int (nI b)), some (.int (nI wd)), some (.int (nI 1)), some (.int (nI i)), v6, v7]) (st' := [.int (nI 8 * nI a), .ref 34]) (σ' := σ) rfl ?_
        refine am_top (v' := nI (8 * a)) (am_nmul _ _) ?_
        refine am_run 2 (pc' := 47) (ls' := [some (.ref 0), some (.int (nI a)), some (.int (nI b)), some (.int (nI wd)), some (.int (nI 1)), some (.int (nI i)), v6, v7]) (st' := [.int (nI (8 * a) + nI i), .ref 34]) (σ' := σ) rfl ?_
        refine am_top (v' := nI (8 * a + i)) (nI_add _ _) ?_
        refine am_ialdN (n := 808) (v := -1) rfl rfl rfl (by omega) (by rw [a3, show ld (8 * a + i) = 0 by omega, oI_0]) (by decide) ?_
        refine am_run 6 (pc' := 58) (ls' := [some (.ref 0), some (.int (nI a)), some (.int (nI b)), some (.int (nI wd)), some (.int (nI 1)), some (.int (nI i)), some (.int (-1)), v7]) (st' := [.int (nI 8 * nI b), .ref 34]) (σ' := σ) rfl ?_
        refine am_top (v' := nI (8 * b)) (am_nmul _ _) ?_
        refine am_run 2 (pc' := 61) (ls' := [some (.ref 0), some (.int (nI a)), some (.int (nI b)), some (.int (nI wd)), some (.int (nI 1)), some (.int (nI i)), some (.int (-1)), v7]) (st' := [.int (nI (8 * b) + nI i), .ref 34]) (σ' := σ) rfl ?_
        refine am_top (v' := nI (8 * b + i)) (nI_add _ _) ?_
        refine am_ialdN (n := 808) (v := -1) rfl rfl rfl (by omega) (by rw [e3, show ld (8 * b + i) = 0 by omega, oI_0]) (by decide) ?_
        refine am_run 6 (pc' := 72) (ls' := [some (.ref 0), some (.int (nI a)), some (.int (nI b)), some (.int (nI wd)), some (.int (nI 1)), some (.int (nI i)), some (.int (-1)), some (.int (-1))]) (st' := [.int (nI 8 * nI a), .ref 35]) (σ' := σ) rfl ?_
        refine am_top (v' := nI (8 * a)) (am_nmul _ _) ?_
        refine am_run 2 (pc' := 75) (ls' := [some (.ref 0), some (.int (nI a)), some (.int (nI b)), some (.int (nI wd)), some (.int (nI 1)), some (.int (nI i)), some (.int (-1)), some (.int (-1))]) (st' := [.int (nI (8 * a) + nI i), .ref 35]) (σ' := σ) rfl ?_
        refine am_top (v' := nI (8 * a + i)) (nI_add _ _) ?_
        refine am_ialdN (n := 808) (v := oI (tl (8 * a + i))) rfl rfl rfl (by omega) a1 (by decide) ?_
        refine am_run 5 (pc' := 84) (ls' := [some (.ref 0), some (.int (nI a)), some (.int (nI b)), some (.int (nI wd)), some (.int (nI 1)), some (.int (nI i)), some (.int (-1)), some (.int (-1))]) (st' := [.int (nI 8 * nI b), .ref 35, .int (oI (tl (8 * a + i)))]) (σ' := σ) rfl ?_
        refine am_top (v' := nI (8 * b)) (am_nmul _ _) ?_
        refine am_run 2 (pc' := 87) (ls' := [some (.ref 0), some (.int (nI a)), some (.int (nI b)), some (.int (nI wd)), some (.int (nI 1)), some (.int (nI i)), some (.int (-1)), some (.int (-1))]) (st' := [.int (nI (8 * b) + nI i), .ref 35, .int (oI (tl (8 * a + i)))]) (σ' := σ) rfl ?_
        refine am_top (v' := nI (8 * b + i)) (nI_add _ _) ?_
        refine am_ialdN (n := 808) (v := oI (tl (8 * b + i))) rfl rfl rfl (by omega) e1 (by decide) ?_
        refine am_ic (ty := 91) (tn := 95) rfl (by decide) rfl rfl (fun (h_3 : oI (tl (8 * a + i)) = oI (tl (8 * b + i))) => ?_) (fun (h_3 : ¬ (oI (tl (8 * a + i)) = oI (tl (8 * b + i)))) => ?_)
        rotate_left
        · exact absurd (by rw [ee]) h_3
        refine am_run 4 (pc' := 100) (ls' := [some (.ref 0), some (.int (nI a)), some (.int (nI b)), some (.int (nI wd)), some (.int (nI 1)), some (.int (nI i)), some (.int (-1)), some (.int (-1))]) (st' := [.int (nI 1)]) (σ' := σ) rfl ?_
        refine am_if (ty := 130) (tn := 103) rfl (by decide) rfl rfl (fun (h_4 : nI 1 = 0) => ?_) (fun (h_4 : ¬ (nI 1 = 0)) => ?_)
        · exact absurd h_4 (by decide)
        refine am_run 2 (pc' := 106) (ls' := [some (.ref 0), some (.int (nI a)), some (.int (nI b)), some (.int (nI wd)), some (.int (nI 1)), some (.int (nI i)), some (.int (-1)), some (.int (-1))]) (st' := [.int (-1), .int (-1)]) (σ' := σ) rfl ?_
        refine am_ic (ty := 126) (tn := 109) rfl (by decide) rfl rfl (fun (h_5 : -1 = -1) => ?_) (fun (h_5 : ¬ (-1 = -1)) => ?_)
        rotate_left
        · exact absurd (by decide) h_5
        refine am_run 4 (pc' := 136) (ls' := [some (.ref 0), some (.int (nI a)), some (.int (nI b)), some (.int (nI wd)), some (.int (nI 1)), some (.int (nI i + nI 1)), some (.int (-1)), some (.int (-1))]) (st' := []) (σ' := σ) rfl ?_
        refine am_ls (ls' := [some (.ref 0), some (.int (nI a)), some (.int (nI b)), some (.int (nI wd)), some (.int (nI 1)), some (.int (nI (i + 1))), some (.int (-1)), some (.int (-1))]) (by rw [nI_add]) ?_
        refine am_run 1 (pc' := 25) (ls' := [some (.ref 0), some (.int (nI a)), some (.int (nI b)), some (.int (nI wd)), some (.int (nI 1)), some (.int (nI (i + 1))), some (.int (-1)), some (.int (-1))]) (st' := []) (σ' := σ) rfl ?_
        exact c_isLike_loop hC hG ha hb h1 h0 hab m (i + 1) _ _ (by omega) (by rw [hs]; simp [← ee, ez])
      · have g1 := (hG (ld (8 * a + i) - 1) (by omega)).2
        have g2 := (hG (ld (8 * b + i) - 1) (by omega)).2
        by_cases eg : G (ld (8 * a + i) - 1) = G (ld (8 * b + i) - 1)
        · skip
          refine am_run 2 (pc' := 28) (ls' := [some (.ref 0), some (.int (nI a)), some (.int (nI b)), some (.int (nI wd)), some (.int (nI 1)), some (.int (nI i)), v6, v7]) (st' := [.int (nI wd), .int (nI i)]) (σ' := σ) rfl ?_
          refine am_ic (ty := 31) (tn := 139) rfl (by decide) rfl rfl (fun (h_1 : nI i < nI wd) => ?_) (fun (h_1 : ¬ (nI i < nI wd)) => ?_)
          rotate_left
          · have h_1 : ¬ (i < wd) := fun z => h_1 ((nI_ltI (by omega) (by omega)).mpr z)
            omega
          have h_1 : i < wd := (nI_ltI (by omega) (by omega)).mp h_1
          refine am_run 1 (pc' := 33) (ls' := [some (.ref 0), some (.int (nI a)), some (.int (nI b)), some (.int (nI wd)), some (.int (nI 1)), some (.int (nI i)), v6, v7]) (st' := [.int (nI 1)]) (σ' := σ) rfl ?_
          refine am_if (ty := 139) (tn := 36) rfl (by decide) rfl rfl (fun (h_2 : nI 1 = 0) => ?_) (fun (h_2 : ¬ (nI 1 = 0)) => ?_)
          · exact absurd h_2 (by decide)
          refine am_run 5 (pc' := 44) (ls' := [some (.ref 0), some (.int (nI a)), some (.int (nI b)), some (.int (nI wd)), some (.int (nI 1)), some (.int (nI i)), v6, v7]) (st' := [.int (nI 8 * nI a), .ref 34]) (σ' := σ) rfl ?_
          refine am_top (v' := nI (8 * a)) (am_nmul _ _) ?_
          refine am_run 2 (pc' := 47) (ls' := [some (.ref 0), some (.int (nI a)), some (.int (nI b)), some (.int (nI wd)), some (.int (nI 1)), some (.int (nI i)), v6, v7]) (st' := [.int (nI (8 * a) + nI i), .ref 34]) (σ' := σ) rfl ?_
          refine am_top (v' := nI (8 * a + i)) (nI_add _ _) ?_
          refine am_ialdN (n := 808) (v := nI (ld (8 * a + i) - 1)) rfl rfl rfl (by omega) (by rw [a3, oI_m (by omega)]) (by decide) ?_
          refine am_run 6 (pc' := 58) (ls' := [some (.ref 0), some (.int (nI a)), some (.int (nI b)), some (.int (nI wd)), some (.int (nI 1)), some (.int (nI i)), some (.int (nI (ld (8 * a + i) - 1))), v7]) (st' := [.int (nI 8 * nI b), .ref 34]) (σ' := σ) rfl ?_
          refine am_top (v' := nI (8 * b)) (am_nmul _ _) ?_
          refine am_run 2 (pc' := 61) (ls' := [some (.ref 0), some (.int (nI a)), some (.int (nI b)), some (.int (nI wd)), some (.int (nI 1)), some (.int (nI i)), some (.int (nI (ld (8 * a + i) - 1))), v7]) (st' := [.int (nI (8 * b) + nI i), .ref 34]) (σ' := σ) rfl ?_
          refine am_top (v' := nI (8 * b + i)) (nI_add _ _) ?_
          refine am_ialdN (n := 808) (v := nI (ld (8 * b + i) - 1)) rfl rfl rfl (by omega) (by rw [e3, oI_m (by omega)]) (by decide) ?_
          refine am_run 6 (pc' := 72) (ls' := [some (.ref 0), some (.int (nI a)), some (.int (nI b)), some (.int (nI wd)), some (.int (nI 1)), some (.int (nI i)), some (.int (nI (ld (8 * a + i) - 1))), some (.int (nI (ld (8 * b + i) - 1)))]) (st' := [.int (nI 8 * nI a), .ref 35]) (σ' := σ) rfl ?_
          refine am_top (v' := nI (8 * a)) (am_nmul _ _) ?_
          refine am_run 2 (pc' := 75) (ls' := [some (.ref 0), some (.int (nI a)), some (.int (nI b)), some (.int (nI wd)), some (.int (nI 1)), some (.int (nI i)), some (.int (nI (ld (8 * a + i) - 1))), some (.int (nI (ld (8 * b + i) - 1)))]) (st' := [.int (nI (8 * a) + nI i), .ref 35]) (σ' := σ) rfl ?_
          refine am_top (v' := nI (8 * a + i)) (nI_add _ _) ?_
          refine am_ialdN (n := 808) (v := oI (tl (8 * a + i))) rfl rfl rfl (by omega) a1 (by decide) ?_
          refine am_run 5 (pc' := 84) (ls' := [some (.ref 0), some (.int (nI a)), some (.int (nI b)), some (.int (nI wd)), some (.int (nI 1)), some (.int (nI i)), some (.int (nI (ld (8 * a + i) - 1))), some (.int (nI (ld (8 * b + i) - 1)))]) (st' := [.int (nI 8 * nI b), .ref 35, .int (oI (tl (8 * a + i)))]) (σ' := σ) rfl ?_
          refine am_top (v' := nI (8 * b)) (am_nmul _ _) ?_
          refine am_run 2 (pc' := 87) (ls' := [some (.ref 0), some (.int (nI a)), some (.int (nI b)), some (.int (nI wd)), some (.int (nI 1)), some (.int (nI i)), some (.int (nI (ld (8 * a + i) - 1))), some (.int (nI (ld (8 * b + i) - 1)))]) (st' := [.int (nI (8 * b) + nI i), .ref 35, .int (oI (tl (8 * a + i)))]) (σ' := σ) rfl ?_
          refine am_top (v' := nI (8 * b + i)) (nI_add _ _) ?_
          refine am_ialdN (n := 808) (v := oI (tl (8 * b + i))) rfl rfl rfl (by omega) e1 (by decide) ?_
          refine am_ic (ty := 91) (tn := 95) rfl (by decide) rfl rfl (fun (h_3 : oI (tl (8 * a + i)) = oI (tl (8 * b + i))) => ?_) (fun (h_3 : ¬ (oI (tl (8 * a + i)) = oI (tl (8 * b + i)))) => ?_)
          rotate_left
          · exact absurd (by rw [ee]) h_3
          refine am_run 4 (pc' := 100) (ls' := [some (.ref 0), some (.int (nI a)), some (.int (nI b)), some (.int (nI wd)), some (.int (nI 1)), some (.int (nI i)), some (.int (nI (ld (8 * a + i) - 1))), some (.int (nI (ld (8 * b + i) - 1)))]) (st' := [.int (nI 1)]) (σ' := σ) rfl ?_
          refine am_if (ty := 130) (tn := 103) rfl (by decide) rfl rfl (fun (h_4 : nI 1 = 0) => ?_) (fun (h_4 : ¬ (nI 1 = 0)) => ?_)
          · exact absurd h_4 (by decide)
          refine am_run 2 (pc' := 106) (ls' := [some (.ref 0), some (.int (nI a)), some (.int (nI b)), some (.int (nI wd)), some (.int (nI 1)), some (.int (nI i)), some (.int (nI (ld (8 * a + i) - 1))), some (.int (nI (ld (8 * b + i) - 1)))]) (st' := [.int (-1), .int (nI (ld (8 * a + i) - 1))]) (σ' := σ) rfl ?_
          refine am_ic (ty := 126) (tn := 109) rfl (by decide) rfl rfl (fun (h_5 : nI (ld (8 * a + i) - 1) = -1) => ?_) (fun (h_5 : ¬ (nI (ld (8 * a + i) - 1) = -1)) => ?_)
          · exact absurd h_5 (am_nm1 (by omega))
          refine am_run 3 (pc' := 115) (ls' := [some (.ref 0), some (.int (nI a)), some (.int (nI b)), some (.int (nI wd)), some (.int (nI 1)), some (.int (nI i)), some (.int (nI (ld (8 * a + i) - 1))), some (.int (nI (ld (8 * b + i) - 1)))]) (st' := [.int (nI (ld (8 * a + i) - 1)), .ref 37]) (σ' := σ) rfl ?_
          refine am_ialdN (n := 101) (v := nI (G (ld (8 * a + i) - 1))) rfl rfl rfl (by omega) (hG (ld (8 * a + i) - 1) (by omega)).1 (by decide) ?_
          refine am_run 3 (pc' := 122) (ls' := [some (.ref 0), some (.int (nI a)), some (.int (nI b)), some (.int (nI wd)), some (.int (nI 1)), some (.int (nI i)), some (.int (nI (ld (8 * a + i) - 1))), some (.int (nI (ld (8 * b + i) - 1)))]) (st' := [.int (nI (ld (8 * b + i) - 1)), .ref 37, .int (nI (G (ld (8 * a + i) - 1)))]) (σ' := σ) rfl ?_
          refine am_ialdN (n := 101) (v := nI (G (ld (8 * b + i) - 1))) rfl rfl rfl (by omega) (hG (ld (8 * b + i) - 1) (by omega)).1 (by decide) ?_
          refine am_ic (ty := 126) (tn := 130) rfl (by decide) rfl rfl (fun (h_6 : nI (G (ld (8 * a + i) - 1)) = nI (G (ld (8 * b + i) - 1))) => ?_) (fun (h_6 : ¬ (nI (G (ld (8 * a + i) - 1)) = nI (G (ld (8 * b + i) - 1)))) => ?_)
          rotate_left
          · have h_6 : ¬ (G (ld (8 * a + i) - 1) = G (ld (8 * b + i) - 1)) := fun z => h_6 ((nI_eq (by omega) (by omega)).mpr z)
            omega
          have h_6 : G (ld (8 * a + i) - 1) = G (ld (8 * b + i) - 1) := (nI_eq (by omega) (by omega)).mp h_6
          refine am_run 4 (pc' := 136) (ls' := [some (.ref 0), some (.int (nI a)), some (.int (nI b)), some (.int (nI wd)), some (.int (nI 1)), some (.int (nI i + nI 1)), some (.int (nI (ld (8 * a + i) - 1))), some (.int (nI (ld (8 * b + i) - 1)))]) (st' := []) (σ' := σ) rfl ?_
          refine am_ls (ls' := [some (.ref 0), some (.int (nI a)), some (.int (nI b)), some (.int (nI wd)), some (.int (nI 1)), some (.int (nI (i + 1))), some (.int (nI (ld (8 * a + i) - 1))), some (.int (nI (ld (8 * b + i) - 1)))]) (by rw [nI_add]) ?_
          refine am_run 1 (pc' := 25) (ls' := [some (.ref 0), some (.int (nI a)), some (.int (nI b)), some (.int (nI wd)), some (.int (nI 1)), some (.int (nI (i + 1))), some (.int (nI (ld (8 * a + i) - 1))), some (.int (nI (ld (8 * b + i) - 1)))]) (st' := []) (σ' := σ) rfl ?_
          exact c_isLike_loop hC hG ha hb h1 h0 hab m (i + 1) _ _ (by omega) (by rw [hs]; simp [ee, eg])
        · skip
          refine am_run 2 (pc' := 28) (ls' := [some (.ref 0), some (.int (nI a)), some (.int (nI b)), some (.int (nI wd)), some (.int (nI 1)), some (.int (nI i)), v6, v7]) (st' := [.int (nI wd), .int (nI i)]) (σ' := σ) rfl ?_
          refine am_ic (ty := 31) (tn := 139) rfl (by decide) rfl rfl (fun (h_1 : nI i < nI wd) => ?_) (fun (h_1 : ¬ (nI i < nI wd)) => ?_)
          rotate_left
          · have h_1 : ¬ (i < wd) := fun z => h_1 ((nI_ltI (by omega) (by omega)).mpr z)
            omega
          have h_1 : i < wd := (nI_ltI (by omega) (by omega)).mp h_1
          refine am_run 1 (pc' := 33) (ls' := [some (.ref 0), some (.int (nI a)), some (.int (nI b)), some (.int (nI wd)), some (.int (nI 1)), some (.int (nI i)), v6, v7]) (st' := [.int (nI 1)]) (σ' := σ) rfl ?_
          refine am_if (ty := 139) (tn := 36) rfl (by decide) rfl rfl (fun (h_2 : nI 1 = 0) => ?_) (fun (h_2 : ¬ (nI 1 = 0)) => ?_)
          · exact absurd h_2 (by decide)
          refine am_run 5 (pc' := 44) (ls' := [some (.ref 0), some (.int (nI a)), some (.int (nI b)), some (.int (nI wd)), some (.int (nI 1)), some (.int (nI i)), v6, v7]) (st' := [.int (nI 8 * nI a), .ref 34]) (σ' := σ) rfl ?_
          refine am_top (v' := nI (8 * a)) (am_nmul _ _) ?_
          refine am_run 2 (pc' := 47) (ls' := [some (.ref 0), some (.int (nI a)), some (.int (nI b)), some (.int (nI wd)), some (.int (nI 1)), some (.int (nI i)), v6, v7]) (st' := [.int (nI (8 * a) + nI i), .ref 34]) (σ' := σ) rfl ?_
          refine am_top (v' := nI (8 * a + i)) (nI_add _ _) ?_
          refine am_ialdN (n := 808) (v := nI (ld (8 * a + i) - 1)) rfl rfl rfl (by omega) (by rw [a3, oI_m (by omega)]) (by decide) ?_
          refine am_run 6 (pc' := 58) (ls' := [some (.ref 0), some (.int (nI a)), some (.int (nI b)), some (.int (nI wd)), some (.int (nI 1)), some (.int (nI i)), some (.int (nI (ld (8 * a + i) - 1))), v7]) (st' := [.int (nI 8 * nI b), .ref 34]) (σ' := σ) rfl ?_
          refine am_top (v' := nI (8 * b)) (am_nmul _ _) ?_
          refine am_run 2 (pc' := 61) (ls' := [some (.ref 0), some (.int (nI a)), some (.int (nI b)), some (.int (nI wd)), some (.int (nI 1)), some (.int (nI i)), some (.int (nI (ld (8 * a + i) - 1))), v7]) (st' := [.int (nI (8 * b) + nI i), .ref 34]) (σ' := σ) rfl ?_
          refine am_top (v' := nI (8 * b + i)) (nI_add _ _) ?_
          refine am_ialdN (n := 808) (v := nI (ld (8 * b + i) - 1)) rfl rfl rfl (by omega) (by rw [e3, oI_m (by omega)]) (by decide) ?_
          refine am_run 6 (pc' := 72) (ls' := [some (.ref 0), some (.int (nI a)), some (.int (nI b)), some (.int (nI wd)), some (.int (nI 1)), some (.int (nI i)), some (.int (nI (ld (8 * a + i) - 1))), some (.int (nI (ld (8 * b + i) - 1)))]) (st' := [.int (nI 8 * nI a), .ref 35]) (σ' := σ) rfl ?_
          refine am_top (v' := nI (8 * a)) (am_nmul _ _) ?_
          refine am_run 2 (pc' := 75) (ls' := [some (.ref 0), some (.int (nI a)), some (.int (nI b)), some (.int (nI wd)), some (.int (nI 1)), some (.int (nI i)), some (.int (nI (ld (8 * a + i) - 1))), some (.int (nI (ld (8 * b + i) - 1)))]) (st' := [.int (nI (8 * a) + nI i), .ref 35]) (σ' := σ) rfl ?_
          refine am_top (v' := nI (8 * a + i)) (nI_add _ _) ?_
          refine am_ialdN (n := 808) (v := oI (tl (8 * a + i))) rfl rfl rfl (by omega) a1 (by decide) ?_
          refine am_run 5 (pc' := 84) (ls' := [some (.ref 0), some (.int (nI a)), some (.int (nI b)), some (.int (nI wd)), some (.int (nI 1)), some (.int (nI i)), some (.int (nI (ld (8 * a + i) - 1))), some (.int (nI (ld (8 * b + i) - 1)))]) (st' := [.int (nI 8 * nI b), .ref 35, .int (oI (tl (8 * a + i)))]) (σ' := σ) rfl ?_
          refine am_top (v' := nI (8 * b)) (am_nmul _ _) ?_
          refine am_run 2 (pc' := 87) (ls' := [some (.ref 0), some (.int (nI a)), some (.int (nI b)), some (.int (nI wd)), some (.int (nI 1)), some (.int (nI i)), some (.int (nI (ld (8 * a + i) - 1))), some (.int (nI (ld (8 * b + i) - 1)))]) (st' := [.int (nI (8 * b) + nI i), .ref 35, .int (oI (tl (8 * a + i)))]) (σ' := σ) rfl ?_
          refine am_top (v' := nI (8 * b + i)) (nI_add _ _) ?_
          refine am_ialdN (n := 808) (v := oI (tl (8 * b + i))) rfl rfl rfl (by omega) e1 (by decide) ?_
          refine am_ic (ty := 91) (tn := 95) rfl (by decide) rfl rfl (fun (h_3 : oI (tl (8 * a + i)) = oI (tl (8 * b + i))) => ?_) (fun (h_3 : ¬ (oI (tl (8 * a + i)) = oI (tl (8 * b + i)))) => ?_)
          rotate_left
          · exact absurd (by rw [ee]) h_3
          refine am_run 4 (pc' := 100) (ls' := [some (.ref 0), some (.int (nI a)), some (.int (nI b)), some (.int (nI wd)), some (.int (nI 1)), some (.int (nI i)), some (.int (nI (ld (8 * a + i) - 1))), some (.int (nI (ld (8 * b + i) - 1)))]) (st' := [.int (nI 1)]) (σ' := σ) rfl ?_
          refine am_if (ty := 130) (tn := 103) rfl (by decide) rfl rfl (fun (h_4 : nI 1 = 0) => ?_) (fun (h_4 : ¬ (nI 1 = 0)) => ?_)
          · exact absurd h_4 (by decide)
          refine am_run 2 (pc' := 106) (ls' := [some (.ref 0), some (.int (nI a)), some (.int (nI b)), some (.int (nI wd)), some (.int (nI 1)), some (.int (nI i)), some (.int (nI (ld (8 * a + i) - 1))), some (.int (nI (ld (8 * b + i) - 1)))]) (st' := [.int (-1), .int (nI (ld (8 * a + i) - 1))]) (σ' := σ) rfl ?_
          refine am_ic (ty := 126) (tn := 109) rfl (by decide) rfl rfl (fun (h_5 : nI (ld (8 * a + i) - 1) = -1) => ?_) (fun (h_5 : ¬ (nI (ld (8 * a + i) - 1) = -1)) => ?_)
          · exact absurd h_5 (am_nm1 (by omega))
          refine am_run 3 (pc' := 115) (ls' := [some (.ref 0), some (.int (nI a)), some (.int (nI b)), some (.int (nI wd)), some (.int (nI 1)), some (.int (nI i)), some (.int (nI (ld (8 * a + i) - 1))), some (.int (nI (ld (8 * b + i) - 1)))]) (st' := [.int (nI (ld (8 * a + i) - 1)), .ref 37]) (σ' := σ) rfl ?_
          refine am_ialdN (n := 101) (v := nI (G (ld (8 * a + i) - 1))) rfl rfl rfl (by omega) (hG (ld (8 * a + i) - 1) (by omega)).1 (by decide) ?_
          refine am_run 3 (pc' := 122) (ls' := [some (.ref 0), some (.int (nI a)), some (.int (nI b)), some (.int (nI wd)), some (.int (nI 1)), some (.int (nI i)), some (.int (nI (ld (8 * a + i) - 1))), some (.int (nI (ld (8 * b + i) - 1)))]) (st' := [.int (nI (ld (8 * b + i) - 1)), .ref 37, .int (nI (G (ld (8 * a + i) - 1)))]) (σ' := σ) rfl ?_
          refine am_ialdN (n := 101) (v := nI (G (ld (8 * b + i) - 1))) rfl rfl rfl (by omega) (hG (ld (8 * b + i) - 1) (by omega)).1 (by decide) ?_
          refine am_ic (ty := 126) (tn := 130) rfl (by decide) rfl rfl (fun (h_6 : nI (G (ld (8 * a + i) - 1)) = nI (G (ld (8 * b + i) - 1))) => ?_) (fun (h_6 : ¬ (nI (G (ld (8 * a + i) - 1)) = nI (G (ld (8 * b + i) - 1)))) => ?_)
          · have h_6 : G (ld (8 * a + i) - 1) = G (ld (8 * b + i) - 1) := (nI_eq (by omega) (by omega)).mp h_6
            omega
          have h_6 : ¬ (G (ld (8 * a + i) - 1) = G (ld (8 * b + i) - 1)) := fun z => h_6 ((nI_eq (by omega) (by omega)).mpr z)
          refine am_run 3 (pc' := 136) (ls' := [some (.ref 0), some (.int (nI a)), some (.int (nI b)), some (.int (nI wd)), some (.int (nI 0)), some (.int (nI i + nI 1)), some (.int (nI (ld (8 * a + i) - 1))), some (.int (nI (ld (8 * b + i) - 1)))]) (st' := []) (σ' := σ) rfl ?_
          refine am_ls (ls' := [some (.ref 0), some (.int (nI a)), some (.int (nI b)), some (.int (nI wd)), some (.int (nI 0)), some (.int (nI (i + 1))), some (.int (nI (ld (8 * a + i) - 1))), some (.int (nI (ld (8 * b + i) - 1)))]) (by rw [nI_add]) ?_
          refine am_run 1 (pc' := 25) (ls' := [some (.ref 0), some (.int (nI a)), some (.int (nI b)), some (.int (nI wd)), some (.int (nI 0)), some (.int (nI (i + 1))), some (.int (nI (ld (8 * a + i) - 1))), some (.int (nI (ld (8 * b + i) - 1)))]) (st' := []) (σ' := σ) rfl ?_
          refine am_run 2 (pc' := 28) (ls' := [some (.ref 0), some (.int (nI a)), some (.int (nI b)), some (.int (nI wd)), some (.int (nI 0)), some (.int (nI (i + 1))), some (.int (nI (ld (8 * a + i) - 1))), some (.int (nI (ld (8 * b + i) - 1)))]) (st' := [.int (nI wd), .int (nI (i + 1))]) (σ' := σ) rfl ?_
          refine am_ic (ty := 31) (tn := 139) rfl (by decide) rfl rfl (fun (h_501 : nI (i + 1) < nI wd) => ?_) (fun (h_501 : ¬ (nI (i + 1) < nI wd)) => ?_)
          · have h_501 : i + 1 < wd := (nI_ltI (by omega) (by omega)).mp h_501
            refine am_run 1 (pc' := 33) (ls' := [some (.ref 0), some (.int (nI a)), some (.int (nI b)), some (.int (nI wd)), some (.int (nI 0)), some (.int (nI (i + 1))), some (.int (nI (ld (8 * a + i) - 1))), some (.int (nI (ld (8 * b + i) - 1)))]) (st' := [.int (nI 0)]) (σ' := σ) rfl ?_
            refine am_if (ty := 139) (tn := 36) rfl (by decide) rfl rfl (fun (h_502 : nI 0 = 0) => ?_) (fun (h_502 : ¬ (nI 0 = 0)) => ?_)
            rotate_left
            · exact absurd (by decide) h_502
            refine am_run 1 (pc' := 141) (ls' := [some (.ref 0), some (.int (nI a)), some (.int (nI b)), some (.int (nI wd)), some (.int (nI 0)), some (.int (nI (i + 1))), some (.int (nI (ld (8 * a + i) - 1))), some (.int (nI (ld (8 * b + i) - 1)))]) (st' := [.int (nI 0)]) (σ' := σ) rfl ?_
            refine am_retz rfl rfl (by decide) ?_
            have hf : alc G tl ld a b (i + 1) = false := by rw [hs]; simp [ee, eg, show ¬ tl (8 * b + i) = 0 by omega]
            have hf2 := alc_f hf m
            rw [show i + 1 + m = wd by omega] at hf2
            exact h0 (by unfold alb; simp [hf2])
          · have h_501 : ¬ (i + 1 < wd) := fun z => h_501 ((nI_ltI (by omega) (by omega)).mpr z)
            refine am_run 1 (pc' := 141) (ls' := [some (.ref 0), some (.int (nI a)), some (.int (nI b)), some (.int (nI wd)), some (.int (nI 0)), some (.int (nI (i + 1))), some (.int (nI (ld (8 * a + i) - 1))), some (.int (nI (ld (8 * b + i) - 1)))]) (st' := [.int (nI 0)]) (σ' := σ) rfl ?_
            refine am_retz rfl rfl (by decide) ?_
            have hf : alc G tl ld a b (i + 1) = false := by rw [hs]; simp [ee, eg, show ¬ tl (8 * b + i) = 0 by omega]
            have hf2 := alc_f hf m
            rw [show i + 1 + m = wd by omega] at hf2
            exact h0 (by unfold alb; simp [hf2])
    · skip
      refine am_run 2 (pc' := 28) (ls' := [some (.ref 0), some (.int (nI a)), some (.int (nI b)), some (.int (nI wd)), some (.int (nI 1)), some (.int (nI i)), v6, v7]) (st' := [.int (nI wd), .int (nI i)]) (σ' := σ) rfl ?_
      refine am_ic (ty := 31) (tn := 139) rfl (by decide) rfl rfl (fun (h_1 : nI i < nI wd) => ?_) (fun (h_1 : ¬ (nI i < nI wd)) => ?_)
      rotate_left
      · have h_1 : ¬ (i < wd) := fun z => h_1 ((nI_ltI (by omega) (by omega)).mpr z)
        omega
      have h_1 : i < wd := (nI_ltI (by omega) (by omega)).mp h_1
      refine am_run 1 (pc' := 33) (ls' := [some (.ref 0), some (.int (nI a)), some (.int (nI b)), some (.int (nI wd)), some (.int (nI 1)), some (.int (nI i)), v6, v7]) (st' := [.int (nI 1)]) (σ' := σ) rfl ?_
      refine am_if (ty := 139) (tn := 36) rfl (by decide) rfl rfl (fun (h_2 : nI 1 = 0) => ?_) (fun (h_2 : ¬ (nI 1 = 0)) => ?_)
      · exact absurd h_2 (by decide)
      refine am_run 5 (pc' := 44) (ls' := [some (.ref 0), some (.int (nI a)), some (.int (nI b)), some (.int (nI wd)), some (.int (nI 1)), some (.int (nI i)), v6, v7]) (st' := [.int (nI 8 * nI a), .ref 34]) (σ' := σ) rfl ?_
      refine am_top (v' := nI (8 * a)) (am_nmul _ _) ?_
      refine am_run 2 (pc' := 47) (ls' := [some (.ref 0), some (.int (nI a)), some (.int (nI b)), some (.int (nI wd)), some (.int (nI 1)), some (.int (nI i)), v6, v7]) (st' := [.int (nI (8 * a) + nI i), .ref 34]) (σ' := σ) rfl ?_
      refine am_top (v' := nI (8 * a + i)) (nI_add _ _) ?_
      refine am_ialdN (n := 808) (v := oI (ld (8 * a + i))) rfl rfl rfl (by omega) a3 (by decide) ?_
      refine am_run 6 (pc' := 58) (ls' := [some (.ref 0), some (.int (nI a)), some (.int (nI b)), some (.int (nI wd)), some (.int (nI 1)), some (.int (nI i)), some (.int (oI (ld (8 * a + i)))), v7]) (st' := [.int (nI 8 * nI b), .ref 34]) (σ' := σ) rfl ?_
      refine am_top (v' := nI (8 * b)) (am_nmul _ _) ?_
      refine am_run 2 (pc' := 61) (ls' := [some (.ref 0), some (.int (nI a)), some (.int (nI b)), some (.int (nI wd)), some (.int (nI 1)), some (.int (nI i)), some (.int (oI (ld (8 * a + i)))), v7]) (st' := [.int (nI (8 * b) + nI i), .ref 34]) (σ' := σ) rfl ?_
      refine am_top (v' := nI (8 * b + i)) (nI_add _ _) ?_
      refine am_ialdN (n := 808) (v := oI (ld (8 * b + i))) rfl rfl rfl (by omega) e3 (by decide) ?_
      refine am_run 6 (pc' := 72) (ls' := [some (.ref 0), some (.int (nI a)), some (.int (nI b)), some (.int (nI wd)), some (.int (nI 1)), some (.int (nI i)), some (.int (oI (ld (8 * a + i)))), some (.int (oI (ld (8 * b + i))))]) (st' := [.int (nI 8 * nI a), .ref 35]) (σ' := σ) rfl ?_
      refine am_top (v' := nI (8 * a)) (am_nmul _ _) ?_
      refine am_run 2 (pc' := 75) (ls' := [some (.ref 0), some (.int (nI a)), some (.int (nI b)), some (.int (nI wd)), some (.int (nI 1)), some (.int (nI i)), some (.int (oI (ld (8 * a + i)))), some (.int (oI (ld (8 * b + i))))]) (st' := [.int (nI (8 * a) + nI i), .ref 35]) (σ' := σ) rfl ?_
      refine am_top (v' := nI (8 * a + i)) (nI_add _ _) ?_
      refine am_ialdN (n := 808) (v := oI (tl (8 * a + i))) rfl rfl rfl (by omega) a1 (by decide) ?_
      refine am_run 5 (pc' := 84) (ls' := [some (.ref 0), some (.int (nI a)), some (.int (nI b)), some (.int (nI wd)), some (.int (nI 1)), some (.int (nI i)), some (.int (oI (ld (8 * a + i)))), some (.int (oI (ld (8 * b + i))))]) (st' := [.int (nI 8 * nI b), .ref 35, .int (oI (tl (8 * a + i)))]) (σ' := σ) rfl ?_
      refine am_top (v' := nI (8 * b)) (am_nmul _ _) ?_
      refine am_run 2 (pc' := 87) (ls' := [some (.ref 0), some (.int (nI a)), some (.int (nI b)), some (.int (nI wd)), some (.int (nI 1)), some (.int (nI i)), some (.int (oI (ld (8 * a + i)))), some (.int (oI (ld (8 * b + i))))]) (st' := [.int (nI (8 * b) + nI i), .ref 35, .int (oI (tl (8 * a + i)))]) (σ' := σ) rfl ?_
      refine am_top (v' := nI (8 * b + i)) (nI_add _ _) ?_
      refine am_ialdN (n := 808) (v := oI (tl (8 * b + i))) rfl rfl rfl (by omega) e1 (by decide) ?_
      refine am_ic (ty := 91) (tn := 95) rfl (by decide) rfl rfl (fun (h_3 : oI (tl (8 * a + i)) = oI (tl (8 * b + i))) => ?_) (fun (h_3 : ¬ (oI (tl (8 * a + i)) = oI (tl (8 * b + i)))) => ?_)
      · exact absurd (oI_inj (by omega) (by omega) h_3) ee
      refine am_run 3 (pc' := 100) (ls' := [some (.ref 0), some (.int (nI a)), some (.int (nI b)), some (.int (nI wd)), some (.int (nI 0)), some (.int (nI i)), some (.int (oI (ld (8 * a + i)))), some (.int (oI (ld (8 * b + i))))]) (st' := [.int (nI 0)]) (σ' := σ) rfl ?_
      refine am_if (ty := 130) (tn := 103) rfl (by decide) rfl rfl (fun (h_4 : nI 0 = 0) => ?_) (fun (h_4 : ¬ (nI 0 = 0)) => ?_)
      rotate_left
      · exact absurd (by decide) h_4
      refine am_run 3 (pc' := 136) (ls' := [some (.ref 0), some (.int (nI a)), some (.int (nI b)), some (.int (nI wd)), some (.int (nI 0)), some (.int (nI i + nI 1)), some (.int (oI (ld (8 * a + i)))), some (.int (oI (ld (8 * b + i))))]) (st' := []) (σ' := σ) rfl ?_
      refine am_ls (ls' := [some (.ref 0), some (.int (nI a)), some (.int (nI b)), some (.int (nI wd)), some (.int (nI 0)), some (.int (nI (i + 1))), some (.int (oI (ld (8 * a + i)))), some (.int (oI (ld (8 * b + i))))]) (by rw [nI_add]) ?_
      refine am_run 1 (pc' := 25) (ls' := [some (.ref 0), some (.int (nI a)), some (.int (nI b)), some (.int (nI wd)), some (.int (nI 0)), some (.int (nI (i + 1))), some (.int (oI (ld (8 * a + i)))), some (.int (oI (ld (8 * b + i))))]) (st' := []) (σ' := σ) rfl ?_
      refine am_run 2 (pc' := 28) (ls' := [some (.ref 0), some (.int (nI a)), some (.int (nI b)), some (.int (nI wd)), some (.int (nI 0)), some (.int (nI (i + 1))), some (.int (oI (ld (8 * a + i)))), some (.int (oI (ld (8 * b + i))))]) (st' := [.int (nI wd), .int (nI (i + 1))]) (σ' := σ) rfl ?_
      refine am_ic (ty := 31) (tn := 139) rfl (by decide) rfl rfl (fun (h_501 : nI (i + 1) < nI wd) => ?_) (fun (h_501 : ¬ (nI (i + 1) < nI wd)) => ?_)
      · have h_501 : i + 1 < wd := (nI_ltI (by omega) (by omega)).mp h_501
        refine am_run 1 (pc' := 33) (ls' := [some (.ref 0), some (.int (nI a)), some (.int (nI b)), some (.int (nI wd)), some (.int (nI 0)), some (.int (nI (i + 1))), some (.int (oI (ld (8 * a + i)))), some (.int (oI (ld (8 * b + i))))]) (st' := [.int (nI 0)]) (σ' := σ) rfl ?_
        refine am_if (ty := 139) (tn := 36) rfl (by decide) rfl rfl (fun (h_502 : nI 0 = 0) => ?_) (fun (h_502 : ¬ (nI 0 = 0)) => ?_)
        rotate_left
        · exact absurd (by decide) h_502
        refine am_run 1 (pc' := 141) (ls' := [some (.ref 0), some (.int (nI a)), some (.int (nI b)), some (.int (nI wd)), some (.int (nI 0)), some (.int (nI (i + 1))), some (.int (oI (ld (8 * a + i)))), some (.int (oI (ld (8 * b + i))))]) (st' := [.int (nI 0)]) (σ' := σ) rfl ?_
        refine am_retz rfl rfl (by decide) ?_
        have hf : alc G tl ld a b (i + 1) = false := by rw [hs]; simp [ee]
        have hf2 := alc_f hf m
        rw [show i + 1 + m = wd by omega] at hf2
        exact h0 (by unfold alb; simp [hf2])
      · have h_501 : ¬ (i + 1 < wd) := fun z => h_501 ((nI_ltI (by omega) (by omega)).mpr z)
        refine am_run 1 (pc' := 141) (ls' := [some (.ref 0), some (.int (nI a)), some (.int (nI b)), some (.int (nI wd)), some (.int (nI 0)), some (.int (nI (i + 1))), some (.int (oI (ld (8 * a + i)))), some (.int (oI (ld (8 * b + i))))]) (st' := [.int (nI 0)]) (σ' := σ) rfl ?_
        refine am_retz rfl rfl (by decide) ?_
        have hf : alc G tl ld a b (i + 1) = false := by rw [hs]; simp [ee]
        have hf2 := alc_f hf m
        rw [show i + 1 + m = wd by omega] at hf2
        exact h0 (by unfold alb; simp [hf2])
set_option maxRecDepth 10000 in
set_option maxHeartbeats 2000000 in
theorem c_isLike {d : Nat} (hd : 1 ≤ d) {σ : am_M} {n wd : Nat} {tl ld G : Nat → Nat} (hC : CN σ n wd tl ld) (hG : ∀ x, x < n → σ.1 37 x = nI (G x) ∧ G x ≤ 100) {a b : Nat} (ha : a < n) (hb : b < n) {Q : am_Q} (h1 : alb G tl ld wd a b = true → Q (some (.int (nI 1))) σ) (h0 : alb G tl ld wd a b = false → Q (some (.int (nI 0))) σ) : am_C d 244 [.ref 0, .int (nI a), .int (nI b), .int (nI wd)] σ Q := by
  obtain ⟨c0, c1, c2, c4, c6⟩ := id hC
  have ga := hG a ha
  have gb := hG b hb
  by_cases hab : G a = G b
  · skip
    refine am_enter' (M := M_X10_isLike) rfl rfl rfl (by omega) (ls := [some (.ref 0), some (.int (nI a)), some (.int (nI b)), some (.int (nI wd)), none, none, none, none]) rfl (fun d' hd' => ?_)
    refine am_run 3 (pc' := 5) (ls' := [some (.ref 0), some (.int (nI a)), some (.int (nI b)), some (.int (nI wd)), none, none, none, none]) (st' := [.int (nI a), .ref 37]) (σ' := σ) rfl ?_
    refine am_ialdN (n := 101) (v := nI (G a)) rfl rfl rfl (by omega) ga.1 (by decide) ?_
    refine am_run 3 (pc' := 11) (ls' := [some (.ref 0), some (.int (nI a)), some (.int (nI b)), some (.int (nI wd)), none, none, none, none]) (st' := [.int (nI b), .ref 37, .int (nI (G a))]) (σ' := σ) rfl ?_
    refine am_ialdN (n := 101) (v := nI (G b)) rfl rfl rfl (by omega) gb.1 (by decide) ?_
    refine am_ic (ty := 15) (tn := 19) rfl (by decide) rfl rfl (fun (h_1 : nI (G a) = nI (G b)) => ?_) (fun (h_1 : ¬ (nI (G a) = nI (G b))) => ?_)
    rotate_left
    · have h_1 : ¬ (G a = G b) := fun z => h_1 ((nI_eq (by omega) (by omega)).mpr z)
      omega
    have h_1 : G a = G b := (nI_eq (by omega) (by omega)).mp h_1
    refine am_run 5 (pc' := 25) (ls' := [some (.ref 0), some (.int (nI a)), some (.int (nI b)), some (.int (nI wd)), some (.int (nI 1)), some (.int (nI 0)), none, none]) (st' := []) (σ' := σ) rfl ?_
    exact c_isLike_loop hC hG ha hb h1 h0 hab wd 0 _ _ (by omega) rfl
  · skip
    refine am_enter' (M := M_X10_isLike) rfl rfl rfl (by omega) (ls := [some (.ref 0), some (.int (nI a)), some (.int (nI b)), some (.int (nI wd)), none, none, none, none]) rfl (fun d' hd' => ?_)
    refine am_run 3 (pc' := 5) (ls' := [some (.ref 0), some (.int (nI a)), some (.int (nI b)), some (.int (nI wd)), none, none, none, none]) (st' := [.int (nI a), .ref 37]) (σ' := σ) rfl ?_
    refine am_ialdN (n := 101) (v := nI (G a)) rfl rfl rfl (by omega) ga.1 (by decide) ?_
    refine am_run 3 (pc' := 11) (ls' := [some (.ref 0), some (.int (nI a)), some (.int (nI b)), some (.int (nI wd)), none, none, none, none]) (st' := [.int (nI b), .ref 37, .int (nI (G a))]) (σ' := σ) rfl ?_
    refine am_ialdN (n := 101) (v := nI (G b)) rfl rfl rfl (by omega) gb.1 (by decide) ?_
    refine am_ic (ty := 15) (tn := 19) rfl (by decide) rfl rfl (fun (h_1 : nI (G a) = nI (G b)) => ?_) (fun (h_1 : ¬ (nI (G a) = nI (G b))) => ?_)
    · have h_1 : G a = G b := (nI_eq (by omega) (by omega)).mp h_1
      omega
    have h_1 : ¬ (G a = G b) := fun z => h_1 ((nI_eq (by omega) (by omega)).mpr z)
    refine am_run 6 (pc' := 28) (ls' := [some (.ref 0), some (.int (nI a)), some (.int (nI b)), some (.int (nI wd)), some (.int (nI 0)), some (.int (nI 0)), none, none]) (st' := [.int (nI wd), .int (nI 0)]) (σ' := σ) rfl ?_
    refine am_ic (ty := 31) (tn := 139) rfl (by decide) rfl rfl (fun (h_2 : nI 0 < nI wd) => ?_) (fun (h_2 : ¬ (nI 0 < nI wd)) => ?_)
    · have h_2 : 0 < wd := (nI_ltI (by omega) (by omega)).mp h_2
      refine am_run 1 (pc' := 33) (ls' := [some (.ref 0), some (.int (nI a)), some (.int (nI b)), some (.int (nI wd)), some (.int (nI 0)), some (.int (nI 0)), none, none]) (st' := [.int (nI 0)]) (σ' := σ) rfl ?_
      refine am_if (ty := 139) (tn := 36) rfl (by decide) rfl rfl (fun (h_3 : nI 0 = 0) => ?_) (fun (h_3 : ¬ (nI 0 = 0)) => ?_)
      rotate_left
      · exact absurd (by decide) h_3
      refine am_run 1 (pc' := 141) (ls' := [some (.ref 0), some (.int (nI a)), some (.int (nI b)), some (.int (nI wd)), some (.int (nI 0)), some (.int (nI 0)), none, none]) (st' := [.int (nI 0)]) (σ' := σ) rfl ?_
      refine am_retz rfl rfl (by decide) ?_
      exact h0 (by unfold alb; simp [hab])
    · have h_2 : ¬ (0 < wd) := fun z => h_2 ((nI_ltI (by omega) (by omega)).mpr z)
      refine am_run 1 (pc' := 141) (ls' := [some (.ref 0), some (.int (nI a)), some (.int (nI b)), some (.int (nI wd)), some (.int (nI 0)), some (.int (nI 0)), none, none]) (st' := [.int (nI 0)]) (σ' := σ) rfl ?_
      refine am_retz rfl rfl (by decide) ?_
      exact h0 (by unfold alb; simp [hab])
set_option maxRecDepth 10000 in
set_option maxHeartbeats 2000000 in
theorem c_like_loop {d : Nat} (hd : 1 ≤ d) {σ : am_M} {n wd : Nat} {tl ld G : Nat → Nat} (hC : CN σ n wd tl ld) (hG : ∀ x, x < n → σ.1 37 x = nI (G x) ∧ G x ≤ 100) {k many had : Nat} (hk : k < n) {Q : am_Q} (h1 : ∀ v6, fal (fun j => alb G tl ld wd j k) k < k → am_G d M_X10_sorts Q 113 [some (.ref 0), some (.int (nI wd)), some (.int (nI many)), some (.int (nI had)), some (.int (nI k)), some (.int (nI (fal (fun j => alb G tl ld wd j k) k))), v6] [] σ) (h0 : ∀ v6, ¬ fal (fun j => alb G tl ld wd j k) k < k → am_G d M_X10_sorts Q 113 [some (.ref 0), some (.int (nI wd)), some (.int (nI many)), some (.int (nI had)), some (.int (nI k)), some (.int (-1)), v6] [] σ) : ∀ (m j : Nat), j + m = k → (∀ i, i < j → alb G tl ld wd i k = false) → am_G d M_X10_sorts Q 74 [some (.ref 0), some (.int (nI wd)), some (.int (nI many)), some (.int (nI had)), some (.int (nI k)), some (.int (-1)), some (.int (nI j))] [] σ
  | 0, j, hm, hj => by
    have hn := hC.2.1
    have e : j = k := by omega
    subst e
    have en := fal_no j hj
    refine am_run 2 (pc' := 78) (ls' := [some (.ref 0), some (.int (nI wd)), some (.int (nI many)), some (.int (nI had)), some (.int (nI j)), some (.int (-1)), some (.int (nI j))]) (st' := [.int (nI j), .int (nI j)]) (σ' := σ) rfl ?_
    refine am_ic (ty := 81) (tn := 113) rfl (by decide) rfl rfl (fun (h_1 : nI j < nI j) => ?_) (fun (h_1 : ¬ (nI j < nI j)) => ?_)
    · have h_1 : j < j := (nI_ltI (by omega) (by omega)).mp h_1
      omega
    have h_1 : ¬ (j < j) := fun z => h_1 ((nI_ltI (by omega) (by omega)).mpr z)
    exact h0 _ (by omega)
  | m + 1, j, hm, hj => by
    have hn := hC.2.1
    refine am_run 2 (pc' := 78) (ls' := [some (.ref 0), some (.int (nI wd)), some (.int (nI many)), some (.int (nI had)), some (.int (nI k)), some (.int (-1)), some (.int (nI j))]) (st' := [.int (nI k), .int (nI j)]) (σ' := σ) rfl ?_
    refine am_ic (ty := 81) (tn := 113) rfl (by decide) rfl rfl (fun (h_1 : nI j < nI k) => ?_) (fun (h_1 : ¬ (nI j < nI k)) => ?_)
    rotate_left
    · have h_1 : ¬ (j < k) := fun z => h_1 ((nI_ltI (by omega) (by omega)).mpr z)
      omega
    have h_1 : j < k := (nI_ltI (by omega) (by omega)).mp h_1
    refine am_run 2 (pc' := 84) (ls' := [some (.ref 0), some (.int (nI wd)), some (.int (nI many)), some (.int (nI had)), some (.int (nI k)), some (.int (-1)), some (.int (nI j))]) (st' := [.int (-1), .int (-1)]) (σ' := σ) rfl ?_
    refine am_ic (ty := 87) (tn := 113) rfl (by decide) rfl rfl (fun (h_2 : -1 = -1) => ?_) (fun (h_2 : ¬ (-1 = -1)) => ?_)
    rotate_left
    · exact absurd (by decide) h_2
    refine am_run 4 (pc' := 93) (ls' := [some (.ref 0), some (.int (nI wd)), some (.int (nI many)), some (.int (nI had)), some (.int (nI k)), some (.int (-1)), some (.int (nI j))]) (st' := [.int (nI wd), .int (nI k), .int (nI j), .ref 0]) (σ' := σ) rfl ?_
    refine am_invv (y := 244) (b := 0) (as := [.int (nI j), .int (nI k), .int (nI wd)]) (rest := []) rfl rfl rfl rfl rfl rfl rfl (Nat.le_of_ble_eq_true rfl) ?_
    refine c_isLike (by omega) hC hG (a := j) (b := k) (by omega) hk (fun hl => ?_) (fun hl => ?_)
    · show am_G _ M_X10_sorts _ 96 [some (.ref 0), some (.int (nI wd)), some (.int (nI many)), some (.int (nI had)), some (.int (nI k)), some (.int (-1)), some (.int (nI j))] [.int (nI 1)] σ
      refine am_if (ty := 104) (tn := 99) rfl (by decide) rfl rfl (fun (h_3 : nI 1 = 0) => ?_) (fun (h_3 : ¬ (nI 1 = 0)) => ?_)
      · exact absurd h_3 (by decide)
      refine am_run 4 (pc' := 110) (ls' := [some (.ref 0), some (.int (nI wd)), some (.int (nI many)), some (.int (nI had)), some (.int (nI k)), some (.int (nI j)), some (.int (nI j + nI 1))]) (st' := []) (σ' := σ) rfl ?_
      refine am_ls (ls' := [some (.ref 0), some (.int (nI wd)), some (.int (nI many)), some (.int (nI had)), some (.int (nI k)), some (.int (nI j)), some (.int (nI (j + 1)))]) (by rw [nI_add]) ?_
      refine am_run 1 (pc' := 74) (ls' := [some (.ref 0), some (.int (nI wd)), some (.int (nI many)), some (.int (nI had)), some (.int (nI k)), some (.int (nI j)), some (.int (nI (j + 1)))]) (st' := []) (σ' := σ) rfl ?_
      have ey := fal_yes (P := (fun j => alb G tl ld wd j k)) (j := j) hl hj k (by omega)
      have h2 := h1 (some (.int (nI (j + 1)))) (by omega)
      rw [ey] at h2
      refine am_run 2 (pc' := 78) (ls' := [some (.ref 0), some (.int (nI wd)), some (.int (nI many)), some (.int (nI had)), some (.int (nI k)), some (.int (nI j)), some (.int (nI (j + 1)))]) (st' := [.int (nI k), .int (nI (j + 1))]) (σ' := σ) rfl ?_
      refine am_ic (ty := 81) (tn := 113) rfl (by decide) rfl rfl (fun (h_501 : nI (j + 1) < nI k) => ?_) (fun (h_501 : ¬ (nI (j + 1) < nI k)) => ?_)
      · have h_501 : j + 1 < k := (nI_ltI (by omega) (by omega)).mp h_501
        refine am_run 2 (pc' := 84) (ls' := [some (.ref 0), some (.int (nI wd)), some (.int (nI many)), some (.int (nI had)), some (.int (nI k)), some (.int (nI j)), some (.int (nI (j + 1)))]) (st' := [.int (-1), .int (nI j)]) (σ' := σ) rfl ?_
        refine am_ic (ty := 87) (tn := 113) rfl (by decide) rfl rfl (fun (h_502 : nI j = -1) => ?_) (fun (h_502 : ¬ (nI j = -1)) => ?_)
        · exact absurd h_502 (am_nm1 (by omega))
        exact h2
      · have h_501 : ¬ (j + 1 < k) := fun z => h_501 ((nI_ltI (by omega) (by omega)).mpr z)
        exact h2
    · show am_G _ M_X10_sorts _ 96 [some (.ref 0), some (.int (nI wd)), some (.int (nI many)), some (.int (nI had)), some (.int (nI k)), some (.int (-1)), some (.int (nI j))] [.int (nI 0)] σ
      refine am_if (ty := 104) (tn := 99) rfl (by decide) rfl rfl (fun (h_4 : nI 0 = 0) => ?_) (fun (h_4 : ¬ (nI 0 = 0)) => ?_)
      rotate_left
      · exact absurd (by decide) h_4
      refine am_run 3 (pc' := 110) (ls' := [some (.ref 0), some (.int (nI wd)), some (.int (nI many)), some (.int (nI had)), some (.int (nI k)), some (.int (-1)), some (.int (nI j + nI 1))]) (st' := []) (σ' := σ) rfl ?_
      refine am_ls (ls' := [some (.ref 0), some (.int (nI wd)), some (.int (nI many)), some (.int (nI had)), some (.int (nI k)), some (.int (-1)), some (.int (nI (j + 1)))]) (by rw [nI_add]) ?_
      refine am_run 1 (pc' := 74) (ls' := [some (.ref 0), some (.int (nI wd)), some (.int (nI many)), some (.int (nI had)), some (.int (nI k)), some (.int (-1)), some (.int (nI (j + 1)))]) (st' := []) (σ' := σ) rfl ?_
      refine c_like_loop hd hC hG hk h1 h0 m (j + 1) (by omega) (fun i hi => ?_)
      by_cases e : i = j
      · subst e; exact hl
      · exact hj i (by omega)
set_option maxRecDepth 10000 in
set_option maxHeartbeats 2000000 in
theorem c_msort_in {d : Nat} (hd : 1 ≤ d) {σ0 : am_M} {n wd had : Nat} {tl ld G : Nat → Nat} (hC : CN σ0 n wd tl ld) (hG : ∀ x, x < n → σ0.1 37 x = nI (G x) ∧ G x ≤ 100) {Q : am_Q} (hn : ∀ σ' v4 v5 v6, (∀ c, c ≠ 36 → σ'.1 c = σ0.1 c) → σ'.2 = σ0.2 → (∀ y, y < n → σ'.1 36 y = nI ((rfn G tl ld wd n).1 y)) → am_G d M_X10_sorts Q 30 [some (.ref 0), some (.int (nI wd)), some (.int (nI ((rfn G tl ld wd n).2))), some (.int (nI had)), v4, v5, v6] [] σ') : ∀ (m k : Nat) (σ' : am_M) (v5 v6 : Option Value), k + m = n → (∀ c, c ≠ 36 → σ'.1 c = σ0.1 c) → σ'.2 = σ0.2 → (∀ y, y < k → σ'.1 36 y = nI ((rfn G tl ld wd k).1 y)) → am_G d M_X10_sorts Q 59 [some (.ref 0), some (.int (nI wd)), some (.int (nI ((rfn G tl ld wd k).2))), some (.int (nI had)), some (.int (nI k)), v5, v6] [] σ'
  | 0, k, σ', v5, v6, hm, h1, h2, h3 => by
    have h49 : σ'.1 0 49 = nI n := by rw [h1 0 (by decide)]; exact hC.2.2.2.1
    have hn1 := hC.2.1
    have e : k = n := by omega
    subst e
    refine am_run 3 (pc' := 65) (ls' := [some (.ref 0), some (.int (nI wd)), some (.int (nI ((rfn G tl ld wd k).2))), some (.int (nI had)), some (.int (nI k)), v5, v6]) (st' := [.int (σ'.1 0 49), .int (nI k)]) (σ' := σ') rfl ?_
    refine am_top (v' := nI k) h49 ?_
    refine am_ic (ty := 68) (tn := 157) rfl (by decide) rfl rfl (fun (h_1 : nI k < nI k) => ?_) (fun (h_1 : ¬ (nI k < nI k)) => ?_)
    · have h_1 : k < k := (nI_ltI (by omega) (by omega)).mp h_1
      omega
    have h_1 : ¬ (k < k) := fun z => h_1 ((nI_ltI (by omega) (by omega)).mpr z)
    refine am_run 1 (pc' := 30) (ls' := [some (.ref 0), some (.int (nI wd)), some (.int (nI ((rfn G tl ld wd k).2))), some (.int (nI had)), some (.int (nI k)), v5, v6]) (st' := []) (σ' := σ') rfl ?_
    exact hn σ' _ _ _ h1 h2 h3
  | m + 1, k, σ', v5, v6, hm, h1, h2, h3 => by
    have h49 : σ'.1 0 49 = nI n := by rw [h1 0 (by decide)]; exact hC.2.2.2.1
    have hn1 := hC.2.1
    have hC2 : CN σ' n wd tl ld := hC.keep (h1 0 (by decide)) (h1 34 (by decide)) (h1 35 (by decide))
    have hG2 : ∀ x, x < n → σ'.1 37 x = nI (G x) ∧ G x ≤ 100 := fun x hx => by rw [h1 37 (by decide)]; exact hG x hx
    have hb := rfn_b G tl ld wd k
    have hbl := hb.1
    have hfl := fal_le (fun j => alb G tl ld wd j k) k
    refine am_run 3 (pc' := 65) (ls' := [some (.ref 0), some (.int (nI wd)), some (.int (nI ((rfn G tl ld wd k).2))), some (.int (nI had)), some (.int (nI k)), v5, v6]) (st' := [.int (σ'.1 0 49), .int (nI k)]) (σ' := σ') rfl ?_
    refine am_top (v' := nI n) h49 ?_
    refine am_ic (ty := 68) (tn := 157) rfl (by decide) rfl rfl (fun (h_1 : nI k < nI n) => ?_) (fun (h_1 : ¬ (nI k < nI n)) => ?_)
    rotate_left
    · have h_1 : ¬ (k < n) := fun z => h_1 ((nI_ltI (by omega) (by omega)).mpr z)
      omega
    have h_1 : k < n := (nI_ltI (by omega) (by omega)).mp h_1
    refine am_run 4 (pc' := 74) (ls' := [some (.ref 0), some (.int (nI wd)), some (.int (nI ((rfn G tl ld wd k).2))), some (.int (nI had)), some (.int (nI k)), some (.int (-1)), some (.int (nI 0))]) (st' := []) (σ' := σ') rfl ?_
    refine c_like_loop hd hC2 hG2 (by omega) (fun v6' hf => ?_) (fun v6' hf => ?_) k 0 (by omega) (fun _ z => absurd z (Nat.not_lt_zero _))
    · refine am_run 5 (pc' := 122) (ls' := [some (.ref 0), some (.int (nI wd)), some (.int (nI ((rfn G tl ld wd k).2))), some (.int (nI had)), some (.int (nI k)), some (.int (nI (fal (fun j => alb G tl ld wd j k) k))), v6']) (st' := [.int (-1), .int (nI (fal (fun j => alb G tl ld wd j k) k)), .int (nI k), .ref 36]) (σ' := σ') rfl ?_
      refine am_ic (ty := 125) (tn := 129) rfl (by decide) rfl rfl (fun (h_601 : nI (fal (fun j => alb G tl ld wd j k) k) = -1) => ?_) (fun (h_601 : ¬ (nI (fal (fun j => alb G tl ld wd j k) k) = -1)) => ?_)
      · exact absurd h_601 (am_nm1 (by omega))
      refine am_run 3 (pc' := 135) (ls' := [some (.ref 0), some (.int (nI wd)), some (.int (nI ((rfn G tl ld wd k).2))), some (.int (nI had)), some (.int (nI k)), some (.int (nI (fal (fun j => alb G tl ld wd j k) k))), v6']) (st' := [.int (nI (fal (fun j => alb G tl ld wd j k) k)), .ref 36, .int (nI k), .ref 36]) (σ' := σ') rfl ?_
      refine am_ialdN (n := 101) (v := nI ((rfn G tl ld wd k).1 (fal (fun j => alb G tl ld wd j k) k))) rfl rfl rfl (by omega) (h3 _ hf) (by decide) ?_
      refine am_iastN (n := 101) rfl rfl rfl (by omega) (by decide) ?_
      refine am_run 3 (pc' := 141) (ls' := [some (.ref 0), some (.int (nI wd)), some (.int (nI ((rfn G tl ld wd k).2))), some (.int (nI had)), some (.int (nI k)), some (.int (nI (fal (fun j => alb G tl ld wd j k) k))), v6']) (st' := [.int (-1), .int (nI (fal (fun j => alb G tl ld wd j k) k)), .int (nI ((rfn G tl ld wd k).2))]) (σ' := (am_wr σ' 36 k (nI ((rfn G tl ld wd k).1 (fal (fun j => alb G tl ld wd j k) k))))) rfl ?_
      refine am_ic (ty := 144) (tn := 148) rfl (by decide) rfl rfl (fun (h_602 : nI (fal (fun j => alb G tl ld wd j k) k) = -1) => ?_) (fun (h_602 : ¬ (nI (fal (fun j => alb G tl ld wd j k) k) = -1)) => ?_)
      · exact absurd h_602 (am_nm1 (by omega))
      refine am_run 2 (pc' := 150) (ls' := [some (.ref 0), some (.int (nI wd)), some (.int (nI ((rfn G tl ld wd k).2))), some (.int (nI had)), some (.int (nI k)), some (.int (nI (fal (fun j => alb G tl ld wd j k) k))), v6']) (st' := [.int (nI ((rfn G tl ld wd k).2) + nI 0)]) (σ' := (am_wr σ' 36 k (nI ((rfn G tl ld wd k).1 (fal (fun j => alb G tl ld wd j k) k))))) rfl ?_
      refine am_top (v' := nI ((rfn G tl ld wd k).2 + 0)) (nI_add _ _) ?_
      refine am_run 2 (pc' := 154) (ls' := [some (.ref 0), some (.int (nI wd)), some (.int (nI ((rfn G tl ld wd k).2 + 0))), some (.int (nI had)), some (.int (nI k + nI 1)), some (.int (nI (fal (fun j => alb G tl ld wd j k) k))), v6']) (st' := []) (σ' := (am_wr σ' 36 k (nI ((rfn G tl ld wd k).1 (fal (fun j => alb G tl ld wd j k) k))))) rfl ?_
      refine am_ls (ls' := [some (.ref 0), some (.int (nI wd)), some (.int (nI ((rfn G tl ld wd k).2 + 0))), some (.int (nI had)), some (.int (nI (k + 1))), some (.int (nI (fal (fun j => alb G tl ld wd j k) k))), v6']) (by rw [nI_add]) ?_
      refine am_run 1 (pc' := 59) (ls' := [some (.ref 0), some (.int (nI wd)), some (.int (nI ((rfn G tl ld wd k).2 + 0))), some (.int (nI had)), some (.int (nI (k + 1))), some (.int (nI (fal (fun j => alb G tl ld wd j k) k))), v6']) (st' := []) (σ' := (am_wr σ' 36 k (nI ((rfn G tl ld wd k).1 (fal (fun j => alb G tl ld wd j k) k))))) rfl ?_
      have e : (rfn G tl ld wd (k + 1)) = (up1 (rfn G tl ld wd k).1 k ((rfn G tl ld wd k).1 (fal (fun j => alb G tl ld wd j k) k)), (rfn G tl ld wd k).2) := if_pos hf
      refine am_ls (ls' := [some (.ref 0), some (.int (nI wd)), some (.int (nI ((rfn G tl ld wd (k + 1)).2))), some (.int (nI had)), some (.int (nI (k + 1))), some (.int (nI (fal (fun j => alb G tl ld wd j k) k))), v6']) (by rw [e]; rfl) ?_
      refine c_msort_in hd hC hG hn m (k + 1) _ _ _ (by omega) (fun c hc => by rw [am_wr_ne _ hc]; exact h1 c hc) h2 (fun y hy => ?_)
      rw [e]
      show _ = nI (up1 (rfn G tl ld wd k).1 k _ y)
      by_cases z : y = k
      · subst z; rw [am_same, up1_s]
      · rw [am_diff _ _ _ _ _ z, up1_o _ _ z]; exact h3 y (by omega)
    · refine am_run 5 (pc' := 122) (ls' := [some (.ref 0), some (.int (nI wd)), some (.int (nI ((rfn G tl ld wd k).2))), some (.int (nI had)), some (.int (nI k)), some (.int (-1)), v6']) (st' := [.int (-1), .int (-1), .int (nI k), .ref 36]) (σ' := σ') rfl ?_
      refine am_ic (ty := 125) (tn := 129) rfl (by decide) rfl rfl (fun (h_601 : -1 = -1) => ?_) (fun (h_601 : ¬ (-1 = -1)) => ?_)
      rotate_left
      · exact absurd (by decide) h_601
      refine am_run 2 (pc' := 136) (ls' := [some (.ref 0), some (.int (nI wd)), some (.int (nI ((rfn G tl ld wd k).2))), some (.int (nI had)), some (.int (nI k)), some (.int (-1)), v6']) (st' := [.int (nI ((rfn G tl ld wd k).2)), .int (nI k), .ref 36]) (σ' := σ') rfl ?_
      refine am_iastN (n := 101) rfl rfl rfl (by omega) (by decide) ?_
      refine am_run 3 (pc' := 141) (ls' := [some (.ref 0), some (.int (nI wd)), some (.int (nI ((rfn G tl ld wd k).2))), some (.int (nI had)), some (.int (nI k)), some (.int (-1)), v6']) (st' := [.int (-1), .int (-1), .int (nI ((rfn G tl ld wd k).2))]) (σ' := (am_wr σ' 36 k (nI ((rfn G tl ld wd k).2)))) rfl ?_
      refine am_ic (ty := 144) (tn := 148) rfl (by decide) rfl rfl (fun (h_602 : -1 = -1) => ?_) (fun (h_602 : ¬ (-1 = -1)) => ?_)
      rotate_left
      · exact absurd (by decide) h_602
      refine am_run 3 (pc' := 150) (ls' := [some (.ref 0), some (.int (nI wd)), some (.int (nI ((rfn G tl ld wd k).2))), some (.int (nI had)), some (.int (nI k)), some (.int (-1)), v6']) (st' := [.int (nI ((rfn G tl ld wd k).2) + nI 1)]) (σ' := (am_wr σ' 36 k (nI ((rfn G tl ld wd k).2)))) rfl ?_
      refine am_top (v' := nI ((rfn G tl ld wd k).2 + 1)) (nI_add _ _) ?_
      refine am_run 2 (pc' := 154) (ls' := [some (.ref 0), some (.int (nI wd)), some (.int (nI ((rfn G tl ld wd k).2 + 1))), some (.int (nI had)), some (.int (nI k + nI 1)), some (.int (-1)), v6']) (st' := []) (σ' := (am_wr σ' 36 k (nI ((rfn G tl ld wd k).2)))) rfl ?_
      refine am_ls (ls' := [some (.ref 0), some (.int (nI wd)), some (.int (nI ((rfn G tl ld wd k).2 + 1))), some (.int (nI had)), some (.int (nI (k + 1))), some (.int (-1)), v6']) (by rw [nI_add]) ?_
      refine am_run 1 (pc' := 59) (ls' := [some (.ref 0), some (.int (nI wd)), some (.int (nI ((rfn G tl ld wd k).2 + 1))), some (.int (nI had)), some (.int (nI (k + 1))), some (.int (-1)), v6']) (st' := []) (σ' := (am_wr σ' 36 k (nI ((rfn G tl ld wd k).2)))) rfl ?_
      have e : (rfn G tl ld wd (k + 1)) = (up1 (rfn G tl ld wd k).1 k ((rfn G tl ld wd k).2), (rfn G tl ld wd k).2 + 1) := if_neg hf
      refine am_ls (ls' := [some (.ref 0), some (.int (nI wd)), some (.int (nI ((rfn G tl ld wd (k + 1)).2))), some (.int (nI had)), some (.int (nI (k + 1))), some (.int (-1)), v6']) (by rw [e]) ?_
      refine c_msort_in hd hC hG hn m (k + 1) _ _ _ (by omega) (fun c hc => by rw [am_wr_ne _ hc]; exact h1 c hc) h2 (fun y hy => ?_)
      rw [e]
      show _ = nI (up1 (rfn G tl ld wd k).1 k _ y)
      by_cases z : y = k
      · subst z; rw [am_same, up1_s]
      · rw [am_diff _ _ _ _ _ z, up1_o _ _ z]; exact h3 y (by omega)
set_option maxRecDepth 10000 in
set_option maxHeartbeats 2000000 in
theorem c_msort_loop {d : Nat} (hd : 2 ≤ d) {σ0 : am_M} {n wd : Nat} {tl ld : Nat → Nat} {Q : am_Q} : ∀ (m : Nat) (σ' : am_M) (G : Nat → Nat) (had many : Nat) (v4 v5 v6 : Option Value), had ≤ 100 → many = cnb (fstb G) n → (many = had ∨ n < many + m) → CN σ' n wd tl ld → (∀ x, x < n → σ'.1 36 x = nI (G x) ∧ G x ≤ 100) → KY σ0 σ' → (∀ σ'', KY σ0 σ'' → Q (some (.int (nI (cls tl ld wd n m G had many)))) σ'') → am_G d M_X10_sorts Q 30 [some (.ref 0), some (.int (nI wd)), some (.int (nI many)), some (.int (nI had)), v4, v5, v6] [] σ'
  | 0, σ', G, had, many, v4, v5, v6, hh, hmy, hor, hC, hG, hK, hq => by
    have hcl := cnb_le (fstb G) n
    have hn1 := hC.2.1
    have he : many = had := by omega
    refine am_run 2 (pc' := 32) (ls' := [some (.ref 0), some (.int (nI wd)), some (.int (nI many)), some (.int (nI had)), v4, v5, v6]) (st' := [.int (nI had), .int (nI many)]) (σ' := σ') rfl ?_
    refine am_ic (ty := 160) (tn := 35) rfl (by decide) rfl rfl (fun (h_1 : nI many = nI had) => ?_) (fun (h_1 : ¬ (nI many = nI had)) => ?_)
    rotate_left
    · have h_1 : ¬ (many = had) := fun z => h_1 ((nI_eq (by omega) (by omega)).mpr z)
      omega
    have h_1 : many = had := (nI_eq (by omega) (by omega)).mp h_1
    refine am_run 1 (pc' := 161) (ls' := [some (.ref 0), some (.int (nI wd)), some (.int (nI many)), some (.int (nI had)), v4, v5, v6]) (st' := [.int (nI many)]) (σ' := σ') rfl ?_
    refine am_reti rfl rfl ?_
    exact hq σ' hK
  | m + 1, σ', G, had, many, v4, v5, v6, hh, hmy, hor, hC, hG, hK, hq => by
    have hcl := cnb_le (fstb G) n
    have hn1 := hC.2.1
    have h49 := hC.2.2.2.1
    by_cases he : many = had
    · rw [show cls tl ld wd n (m + 1) G had many = many from if_pos he] at hq
      refine am_run 2 (pc' := 32) (ls' := [some (.ref 0), some (.int (nI wd)), some (.int (nI many)), some (.int (nI had)), v4, v5, v6]) (st' := [.int (nI had), .int (nI many)]) (σ' := σ') rfl ?_
      refine am_ic (ty := 160) (tn := 35) rfl (by decide) rfl rfl (fun (h_1 : nI many = nI had) => ?_) (fun (h_1 : ¬ (nI many = nI had)) => ?_)
      rotate_left
      · have h_1 : ¬ (many = had) := fun z => h_1 ((nI_eq (by omega) (by omega)).mpr z)
        omega
      have h_1 : many = had := (nI_eq (by omega) (by omega)).mp h_1
      refine am_run 1 (pc' := 161) (ls' := [some (.ref 0), some (.int (nI wd)), some (.int (nI many)), some (.int (nI had)), v4, v5, v6]) (st' := [.int (nI many)]) (σ' := σ') rfl ?_
      refine am_reti rfl rfl ?_
      exact hq σ' hK
    · rw [show cls tl ld wd n (m + 1) G had many = cls tl ld wd n m (rfn G tl ld wd n).1 many (rfn G tl ld wd n).2 from if_neg he] at hq
      have hb := rfn_b G tl ld wd n
      have hmo := rf_mono G tl ld wd n
      have hct := rf_cnt G tl ld wd n
      refine am_run 2 (pc' := 32) (ls' := [some (.ref 0), some (.int (nI wd)), some (.int (nI many)), some (.int (nI had)), v4, v5, v6]) (st' := [.int (nI had), .int (nI many)]) (σ' := σ') rfl ?_
      refine am_ic (ty := 160) (tn := 35) rfl (by decide) rfl rfl (fun (h_1 : nI many = nI had) => ?_) (fun (h_1 : ¬ (nI many = nI had)) => ?_)
      · have h_1 : many = had := (nI_eq (by omega) (by omega)).mp h_1
        omega
      have h_1 : ¬ (many = had) := fun z => h_1 ((nI_eq (by omega) (by omega)).mpr z)
      refine am_run 12 (pc' := 53) (ls' := [some (.ref 0), some (.int (nI wd)), some (.int (nI 0)), some (.int (nI many)), v4, v5, v6]) (st' := [.int (σ'.1 0 49), .int (nI 0), .ref 37, .int (nI 0), .ref 36]) (σ' := σ') rfl ?_
      refine am_top (v' := nI n) h49 ?_
      refine am_invs (y := 180) (as := [.ref 36, .int (nI 0), .ref 37, .int (nI 0), .int (nI n)]) (rest := []) rfl rfl rfl rfl rfl rfl (Nat.le_of_ble_eq_true rfl) ?_
      refine c_bring (by omega) (c0 := 36) (c1 := 37) (n0 := 101) (n1 := 101) (a := 0) (b := 0) (n := n) rfl rfl rfl rfl (by decide) (by decide) (by omega) (by omega) (Or.inl (by decide)) (fun σ2 g1 g2 g3 g4 => ?_)
      have hC2 : CN σ2 n wd tl ld := hC.keep (g1 0 (by decide)) (g1 34 (by decide)) (g1 35 (by decide))
      have hG2 : ∀ x, x < n → σ2.1 37 x = nI (G x) ∧ G x ≤ 100 := fun x hx => by have := g3 x hx; rw [Nat.zero_add] at this; rw [this]; exact hG x hx
      show am_G _ M_X10_sorts _ 56 [some (.ref 0), some (.int (nI wd)), some (.int (nI 0)), some (.int (nI many)), v4, v5, v6] [] σ2
      refine am_run 2 (pc' := 59) (ls' := [some (.ref 0), some (.int (nI wd)), some (.int (nI 0)), some (.int (nI many)), some (.int (nI 0)), v5, v6]) (st' := []) (σ' := σ2) rfl ?_
      refine c_msort_in (by omega) hC2 hG2 (fun σ3 v4' v5' v6' k1 k2 k3 => ?_) n 0 σ2 _ _ (by omega) (fun _ _ => rfl) rfl (fun _ z => absurd z (Nat.not_lt_zero _))
      refine c_msort_loop hd m σ3 (rfn G tl ld wd n).1 many (rfn G tl ld wd n).2 _ _ _ (by omega) hct (by omega) (hC2.keep (k1 0 (by decide)) (k1 34 (by decide)) (k1 35 (by decide))) (fun x hx => ⟨k3 x hx, by have := hb.2 x hx; omega⟩) ⟨fun c a => by rw [k1 c (by omega), g1 c (by omega)]; exact hK.1 c a, fun k a => by rw [k1 0 (by decide), g1 0 (by decide)]; exact hK.2.1 k a, by rw [k2, g2]; exact hK.2.2⟩ hq
set_option maxRecDepth 10000 in
set_option maxHeartbeats 2000000 in
theorem c_msort_zero {d : Nat} (hd : 2 ≤ d) {σ0 : am_M} {n wd : Nat} {tl ld : Nat → Nat} {Q : am_Q} (hq : ∀ σ'', KY σ0 σ'' → Q (some (.int (nI (cls tl ld wd n 100 z0 0 1)))) σ'') : ∀ (m k : Nat) (σ' : am_M), k + m = n → CN σ' n wd tl ld → KY σ0 σ' → (∀ y, y < k → σ'.1 36 y = nI 0) → am_G d M_X10_sorts Q 7 [some (.ref 0), some (.int (nI wd)), some (.int (nI 1)), some (.int (nI 0)), some (.int (nI k)), none, none] [] σ'
  | 0, k, σ', hm, hC, hK, hz => by
    have hn1 := hC.2.1
    have hn0 := hC.1
    have h49 := hC.2.2.2.1
    have hf1 : cnb (fstb z0) n = 1 := by have := fst_z0 (n - 1); rw [show n - 1 + 1 = n by omega] at this; exact this
    refine am_run 3 (pc' := 13) (ls' := [some (.ref 0), some (.int (nI wd)), some (.int (nI 1)), some (.int (nI 0)), some (.int (nI k)), none, none]) (st' := [.int (σ'.1 0 49), .int (nI k)]) (σ' := σ') rfl ?_
    refine am_top (v' := nI n) h49 ?_
    refine am_ic (ty := 16) (tn := 30) rfl (by decide) rfl rfl (fun (h_1 : nI k < nI n) => ?_) (fun (h_1 : ¬ (nI k < nI n)) => ?_)
    · have h_1 : k < n := (nI_ltI (by omega) (by omega)).mp h_1
      omega
    have h_1 : ¬ (k < n) := fun z => h_1 ((nI_ltI (by omega) (by omega)).mpr z)
    exact c_msort_loop hd 100 σ' z0 0 1 _ _ _ (by decide) hf1.symm (by omega) hC (fun x hx => ⟨hz x (by omega), Nat.zero_le _⟩) hK hq
  | m + 1, k, σ', hm, hC, hK, hz => by
    have hn1 := hC.2.1
    have h49 := hC.2.2.2.1
    refine am_run 3 (pc' := 13) (ls' := [some (.ref 0), some (.int (nI wd)), some (.int (nI 1)), some (.int (nI 0)), some (.int (nI k)), none, none]) (st' := [.int (σ'.1 0 49), .int (nI k)]) (σ' := σ') rfl ?_
    refine am_top (v' := nI n) h49 ?_
    refine am_ic (ty := 16) (tn := 30) rfl (by decide) rfl rfl (fun (h_1 : nI k < nI n) => ?_) (fun (h_1 : ¬ (nI k < nI n)) => ?_)
    rotate_left
    · have h_1 : ¬ (k < n) := fun z => h_1 ((nI_ltI (by omega) (by omega)).mpr z)
      omega
    have h_1 : k < n := (nI_ltI (by omega) (by omega)).mp h_1
    refine am_run 4 (pc' := 23) (ls' := [some (.ref 0), some (.int (nI wd)), some (.int (nI 1)), some (.int (nI 0)), some (.int (nI k)), none, none]) (st' := [.int (nI 0), .int (nI k), .ref 36]) (σ' := σ') rfl ?_
    refine am_iastN (n := 101) rfl rfl rfl (by omega) (by decide) ?_
    refine am_run 1 (pc' := 27) (ls' := [some (.ref 0), some (.int (nI wd)), some (.int (nI 1)), some (.int (nI 0)), some (.int (nI k + nI 1)), none, none]) (st' := []) (σ' := (am_wr σ' 36 k (nI 0))) rfl ?_
    refine am_ls (ls' := [some (.ref 0), some (.int (nI wd)), some (.int (nI 1)), some (.int (nI 0)), some (.int (nI (k + 1))), none, none]) (by rw [nI_add]) ?_
    refine am_run 1 (pc' := 7) (ls' := [some (.ref 0), some (.int (nI wd)), some (.int (nI 1)), some (.int (nI 0)), some (.int (nI (k + 1))), none, none]) (st' := []) (σ' := (am_wr σ' 36 k (nI 0))) rfl ?_
    refine c_msort_zero hd hq m (k + 1) _ (by omega) (hC.keep (am_wr_ne _ (by decide)) (am_wr_ne _ (by decide)) (am_wr_ne _ (by decide))) (hK.wr (by decide) _ _) (fun y hy => ?_)
    by_cases z : y = k
    · subst z; rw [am_same]
    · rw [am_diff _ _ _ _ _ z]; exact hz y (by omega)
set_option maxRecDepth 10000 in
set_option maxHeartbeats 2000000 in
theorem c_sorts {d : Nat} (hd : 3 ≤ d) {σ : am_M} {n wd : Nat} {tl ld : Nat → Nat} (hC : CN σ n wd tl ld) {Q : am_Q} (hq : ∀ σ'', KY σ σ'' → Q (some (.int (nI (cls tl ld wd n 100 z0 0 1)))) σ'') : am_C d 245 [.ref 0, .int (nI wd)] σ Q := by
  refine am_enter' (M := M_X10_sorts) rfl rfl rfl (by omega) (ls := [some (.ref 0), some (.int (nI wd)), none, none, none, none, none]) rfl (fun d' hd' => ?_)
  refine am_run 6 (pc' := 7) (ls' := [some (.ref 0), some (.int (nI wd)), some (.int (nI 1)), some (.int (nI 0)), some (.int (nI 0)), none, none]) (st' := []) (σ' := σ) rfl ?_
  exact c_msort_zero (by omega) hq n 0 σ (by omega) hC (KY.rf σ) (fun _ z => absurd z (Nat.not_lt_zero _))
set_option maxRecDepth 10000 in
set_option maxHeartbeats 2000000 in
theorem pr_states {d : Nat} (hd : 600 ≤ d) {σ : am_M} (hI : Inv σ) (x y z : Int32) : PR d 134 246 [.int x, .int y, .int z] σ := by
  rcases pl_cases hI x with hN | ⟨rfl, hF⟩ | ⟨rfl, hF⟩
  · refine ⟨-1000001, ?_⟩
    refine am_enter' (M := M_X9_states) rfl rfl rfl (by omega) (ls := [some (.ref 41), some (.int x), some (.int y), some (.int z), none]) rfl (fun d' hd' => ?_)
    refine am_run 2 (pc' := 2) (ls' := [some (.ref 41), some (.int x), some (.int y), some (.int z), none]) (st' := [.int x, .ref 41]) (σ' := σ) rfl ?_
    refine am_invv (y := 140) (b := 41) (as := [.int x]) (rest := []) rfl rfl rfl rfl rfl rfl rfl (Nat.le_of_ble_eq_true rfl) ?_
    refine c_nf (by omega) hN ?_
    show am_G _ M_X9_states _ 5 [some (.ref 41), some (.int x), some (.int y), some (.int z), none] [.null] σ
    refine am_run 4 (pc' := 14) (ls' := [some (.ref 41), some (.int x), some (.int y), some (.int z), some (.null)]) (st' := [.int (-1000001)]) (σ' := σ) rfl ?_
    refine am_reti rfl rfl ?_
    refine ⟨rfl, ?_⟩
    refine am_enter' (M := M_X10_states) rfl rfl rfl (by omega) (ls := [some (.ref 0), some (.int x), some (.int y), some (.int z)]) rfl (fun d2 hd2 => ?_)
    refine am_run 2 (pc' := 2) (ls' := [some (.ref 0), some (.int x), some (.int y), some (.int z)]) (st' := [.int x, .ref 0]) (σ' := σ) rfl ?_
    refine am_invv (y := 151) (b := 0) (as := [.int x]) (rest := []) rfl rfl rfl rfl rfl rfl rfl (Nat.le_of_ble_eq_true rfl) ?_
    refine c_np (by omega) hN ?_
    show am_G _ M_X10_states _ 5 [some (.ref 0), some (.int x), some (.int y), some (.int z)] [.int (nI 0)] σ
    refine am_if (ty := 8) (tn := 11) rfl (by decide) rfl rfl (fun (h_101 : nI 0 = 0) => ?_) (fun (h_101 : ¬ (nI 0 = 0)) => ?_)
    rotate_left
    · exact absurd (by decide) h_101
    refine am_run 1 (pc' := 10) (ls' := [some (.ref 0), some (.int x), some (.int y), some (.int z)]) (st' := [.int (-1000001)]) (σ' := σ) rfl ?_
    refine am_reti rfl rfl ?_
    exact ⟨rfl, hI⟩
  · obtain ⟨hf, p, n, r, kk, rk, od, dp, ow, s, m, hP, hH⟩ := hF
    obtain ⟨hn1, hR, hro, hM, hk1, hk2, hkk, hND⟩ := id hP
    obtain ⟨a3, b3, hv, a4, b4, hm, hh⟩ := id hH
    have hW := hM.1.2.1
    have hn60 := hW.1
    have hs := hv.1
    have hrn : r < n := hM.2.1.2.1
    have hn2 := hM.1.2.2.2.1
    rcases mk_cases y with ⟨mk, hmk, rfl, hmv⟩ | hNM
    · have h8 := ((mk_f mk hmk).2 hmv.2).1
      have hpl := hmv.2
      have hVo := fun s u (hu : u < 256) => oc_vs hM s hu
      rcases i32_in z (k := 2) (by decide) with ⟨wh, hwh, rfl⟩ | hz
      · cases hco : ch_out p (r + 1) mk 100 0 (1, up1 z0 0 1048576, z0, z0, 0) with
        | none =>
          rcases (show wh = 0 ∨ wh = 1 ∨ wh = 2 by omega) with rfl | rfl | rfl
          · skip
            refine ⟨-1000004, ?_⟩
            refine am_enter' (M := M_X9_states) rfl rfl rfl (by omega) (ls := [some (.ref 41), some (.int (nI 0)), some (.int (nI mk)), some (.int (nI 0)), none]) rfl (fun d' hd' => ?_)
            refine am_run 2 (pc' := 2) (ls' := [some (.ref 41), some (.int (nI 0)), some (.int (nI mk)), some (.int (nI 0)), none]) (st' := [.int (nI 0), .ref 41]) (σ' := σ) rfl ?_
            refine am_invv (y := 140) (b := 41) (as := [.int (nI 0)]) (rest := []) rfl rfl rfl rfl rfl rfl rfl (Nat.le_of_ble_eq_true rfl) ?_
            refine c_filled0_1 (by omega) hf ?_
            show am_G _ M_X9_states _ 5 [some (.ref 41), some (.int (nI 0)), some (.int (nI mk)), some (.int (nI 0)), none] [.ref 73] σ
            refine am_run 4 (pc' := 16) (ls' := [some (.ref 41), some (.int (nI 0)), some (.int (nI mk)), some (.int (nI 0)), some (.ref 73)]) (st' := [.int (nI mk)]) (σ' := σ) rfl ?_
            refine am_invs (y := 142) (as := [.int (nI mk)]) (rest := []) rfl rfl rfl rfl rfl rfl (Nat.le_of_ble_eq_true rfl) ?_
            refine c_mask1_class (by omega) hmk hmv ?_
            show am_G _ M_X9_states _ 19 [some (.ref 41), some (.int (nI 0)), some (.int (nI mk)), some (.int (nI 0)), some (.ref 73)] [.int (nI 1)] σ
            refine am_if (ty := 31) (tn := 22) rfl (by decide) rfl rfl (fun (h_1 : nI 1 = 0) => ?_) (fun (h_1 : ¬ (nI 1 = 0)) => ?_)
            · exact absurd h_1 (by decide)
            refine am_run 1 (pc' := 23) (ls' := [some (.ref 41), some (.int (nI 0)), some (.int (nI mk)), some (.int (nI 0)), some (.ref 73)]) (st' := [.int (nI 0)]) (σ' := σ) rfl ?_
            refine am_if (ty := 31) (tn := 26) rfl (by decide) rfl rfl (fun (h_2 : nI 0 < 0) => ?_) (fun (h_2 : ¬ (nI 0 < 0)) => ?_)
            · exact absurd h_2 (by decide)
            refine am_run 2 (pc' := 28) (ls' := [some (.ref 41), some (.int (nI 0)), some (.int (nI mk)), some (.int (nI 0)), some (.ref 73)]) (st' := [.int (nI 2), .int (nI 0)]) (σ' := σ) rfl ?_
            refine am_ic (ty := 31) (tn := 34) rfl (by decide) rfl rfl (fun (h_3 : nI 2 < nI 0) => ?_) (fun (h_3 : ¬ (nI 2 < nI 0)) => ?_)
            · exact absurd h_3 (by decide)
            refine am_run 2 (pc' := 37) (ls' := [some (.ref 41), some (.int (nI 0)), some (.int (nI mk)), some (.int (nI 0)), some (.ref 73)]) (st' := [.ref 73, .ref 41]) (σ' := σ) rfl ?_
            refine am_invv (y := 66) (b := 73) (as := []) (rest := [.ref 41]) rfl rfl rfl rfl rfl rfl rfl (Nat.le_of_ble_eq_true rfl) ?_
            refine am_enter' rfl rfl rfl (by omega) (ls := [some (.ref 73)]) rfl (fun d_4 hd_4 => ?_)
            refine am_run 2 (pc' := 4) (ls' := [some (.ref 73)]) (st' := [.ref (σ.2 73 1)]) (σ' := σ) rfl ?_
            refine am_reta rfl rfl (Or.inr ⟨_, rfl⟩) ?_
            show am_G _ M_X9_states _ 40 [some (.ref 41), some (.int (nI 0)), some (.int (nI mk)), some (.int (nI 0)), some (.ref 73)] [.ref (σ.2 73 1), .ref 41] σ
            refine am_run 1 (pc' := 41) (ls' := [some (.ref 41), some (.int (nI 0)), some (.int (nI mk)), some (.int (nI 0)), some (.ref 73)]) (st' := [.int (nI mk), .ref (σ.2 73 1), .ref 41]) (σ' := σ) rfl ?_
            refine am_invv (y := 145) (b := 41) (as := [.ref (σ.2 73 1), .int (nI mk)]) (rest := []) rfl rfl rfl rfl rfl rfl rfl (Nat.le_of_ble_eq_true rfl) ?_
            refine c_drawChart (by omega) hW hR hrn hro hmk hmv hVo (fun σ1 hK1 _ => ?_) (fun σ1 T1 _ he => absurd (hco.symm.trans he) (fun z => by cases z))
            show am_G _ M_X9_states _ 44 [some (.ref 41), some (.int (nI 0)), some (.int (nI mk)), some (.int (nI 0)), some (.ref 73)] [.int (nI 0)] σ1
            refine am_if (ty := 47) (tn := 50) rfl (by decide) rfl rfl (fun (h_5 : nI 0 = 0) => ?_) (fun (h_5 : ¬ (nI 0 = 0)) => ?_)
            rotate_left
            · exact absurd (by decide) h_5
            refine am_run 1 (pc' := 49) (ls' := [some (.ref 41), some (.int (nI 0)), some (.int (nI mk)), some (.int (nI 0)), some (.ref 73)]) (st' := [.int (-1000004)]) (σ' := σ1) rfl ?_
            refine am_reti rfl rfl ?_
            refine ⟨rfl, ?_⟩
            have hM5 := hM.keep2 (σ' := σ1) (fun c a => hK1.1 c (by omega))
            have hn25 := hM5.1.2.2.2.1
            refine am_enter' (M := M_X10_states) rfl rfl rfl (by omega) (ls := [some (.ref 0), some (.int (nI 0)), some (.int (nI mk)), some (.int (nI 0))]) rfl (fun d2 hd2 => ?_)
            refine am_run 2 (pc' := 2) (ls' := [some (.ref 0), some (.int (nI 0)), some (.int (nI mk)), some (.int (nI 0))]) (st' := [.int (nI 0), .ref 0]) (σ' := σ1) rfl ?_
            refine am_invv (y := 151) (b := 0) (as := [.int (nI 0)]) (rest := []) rfl rfl rfl rfl rfl rfl rfl (Nat.le_of_ble_eq_true rfl) ?_
            refine c_prog0_1 (by omega) (n := n) (by exact hn25) hn1 hn60 ?_
            show am_G _ M_X10_states _ 5 [some (.ref 0), some (.int (nI 0)), some (.int (nI mk)), some (.int (nI 0))] [.int (nI 1)] σ1
            refine am_if (ty := 8) (tn := 11) rfl (by decide) rfl rfl (fun (h_101 : nI 1 = 0) => ?_) (fun (h_101 : ¬ (nI 1 = 0)) => ?_)
            · exact absurd h_101 (by decide)
            refine am_run 1 (pc' := 12) (ls' := [some (.ref 0), some (.int (nI 0)), some (.int (nI mk)), some (.int (nI 0))]) (st' := [.int (nI mk)]) (σ' := σ1) rfl ?_
            refine am_invs (y := 240) (as := [.int (nI mk)]) (rest := []) rfl rfl rfl rfl rfl rfl (Nat.le_of_ble_eq_true rfl) ?_
            refine c_mask1_model (by omega) hmk hmv ?_
            show am_G _ M_X10_states _ 15 [some (.ref 0), some (.int (nI 0)), some (.int (nI mk)), some (.int (nI 0))] [.int (nI 1)] σ1
            refine am_if (ty := 27) (tn := 18) rfl (by decide) rfl rfl (fun (h_102 : nI 1 = 0) => ?_) (fun (h_102 : ¬ (nI 1 = 0)) => ?_)
            · exact absurd h_102 (by decide)
            refine am_run 3 (pc' := 21) (ls' := [some (.ref 0), some (.int (nI 0)), some (.int (nI mk)), some (.int (nI 0))]) (st' := [.int (nI 2), .int (nI 0), .int (nI 0)]) (σ' := σ1) rfl ?_
            refine am_invs (y := 148) (as := [.int (nI 0), .int (nI 0), .int (nI 2)]) (rest := []) rfl rfl rfl rfl rfl rfl (Nat.le_of_ble_eq_true rfl) ?_
            refine c_in1 (by omega) (by omega) (by omega) (by omega) ?_
            show am_G _ M_X10_states _ 24 [some (.ref 0), some (.int (nI 0)), some (.int (nI mk)), some (.int (nI 0))] [.int (nI 1)] σ1
            refine am_if (ty := 27) (tn := 30) rfl (by decide) rfl rfl (fun (h_103 : nI 1 = 0) => ?_) (fun (h_103 : ¬ (nI 1 = 0)) => ?_)
            · exact absurd h_103 (by decide)
            refine am_run 3 (pc' := 33) (ls' := [some (.ref 0), some (.int (nI 0)), some (.int (nI mk)), some (.int (nI 0))]) (st' := [.int (nI mk), .int (nI 0), .ref 0]) (σ' := σ1) rfl ?_
            refine am_invv (y := 243) (b := 0) (as := [.int (nI 0), .int (nI mk)]) (rest := []) rfl rfl rfl rfl rfl rfl rfl (Nat.le_of_ble_eq_true rfl) ?_
            refine c_laysStates (by omega) hM5 hmk hmv (fun σ6 hK6 _ => ?_) (fun σ6 T1 _ he => absurd (hco.symm.trans he) (fun z => by cases z))
            show am_G _ M_X10_states _ 36 [some (.ref 0), some (.int (nI 0)), some (.int (nI mk)), some (.int (nI 0))] [.int (nI 0)] σ6
            refine am_if (ty := 39) (tn := 42) rfl (by decide) rfl rfl (fun (h_104 : nI 0 = 0) => ?_) (fun (h_104 : ¬ (nI 0 = 0)) => ?_)
            rotate_left
            · exact absurd (by decide) h_104
            refine am_run 1 (pc' := 41) (ls' := [some (.ref 0), some (.int (nI 0)), some (.int (nI mk)), some (.int (nI 0))]) (st' := [.int (-1000004)]) (σ' := σ6) rfl ?_
            refine am_reti rfl rfl ?_
            exact ⟨rfl, (hK1.KI.tr hK6.KI).inv hI⟩
          · skip
            refine ⟨-1000004, ?_⟩
            refine am_enter' (M := M_X9_states) rfl rfl rfl (by omega) (ls := [some (.ref 41), some (.int (nI 0)), some (.int (nI mk)), some (.int (nI 1)), none]) rfl (fun d' hd' => ?_)
            refine am_run 2 (pc' := 2) (ls' := [some (.ref 41), some (.int (nI 0)), some (.int (nI mk)), some (.int (nI 1)), none]) (st' := [.int (nI 0), .ref 41]) (σ' := σ) rfl ?_
            refine am_invv (y := 140) (b := 41) (as := [.int (nI 0)]) (rest := []) rfl rfl rfl rfl rfl rfl rfl (Nat.le_of_ble_eq_true rfl) ?_
            refine c_filled0_1 (by omega) hf ?_
            show am_G _ M_X9_states _ 5 [some (.ref 41), some (.int (nI 0)), some (.int (nI mk)), some (.int (nI 1)), none] [.ref 73] σ
            refine am_run 4 (pc' := 16) (ls' := [some (.ref 41), some (.int (nI 0)), some (.int (nI mk)), some (.int (nI 1)), some (.ref 73)]) (st' := [.int (nI mk)]) (σ' := σ) rfl ?_
            refine am_invs (y := 142) (as := [.int (nI mk)]) (rest := []) rfl rfl rfl rfl rfl rfl (Nat.le_of_ble_eq_true rfl) ?_
            refine c_mask1_class (by omega) hmk hmv ?_
            show am_G _ M_X9_states _ 19 [some (.ref 41), some (.int (nI 0)), some (.int (nI mk)), some (.int (nI 1)), some (.ref 73)] [.int (nI 1)] σ
            refine am_if (ty := 31) (tn := 22) rfl (by decide) rfl rfl (fun (h_1 : nI 1 = 0) => ?_) (fun (h_1 : ¬ (nI 1 = 0)) => ?_)
            · exact absurd h_1 (by decide)
            refine am_run 1 (pc' := 23) (ls' := [some (.ref 41), some (.int (nI 0)), some (.int (nI mk)), some (.int (nI 1)), some (.ref 73)]) (st' := [.int (nI 1)]) (σ' := σ) rfl ?_
            refine am_if (ty := 31) (tn := 26) rfl (by decide) rfl rfl (fun (h_2 : nI 1 < 0) => ?_) (fun (h_2 : ¬ (nI 1 < 0)) => ?_)
            · exact absurd h_2 (by decide)
            refine am_run 2 (pc' := 28) (ls' := [some (.ref 41), some (.int (nI 0)), some (.int (nI mk)), some (.int (nI 1)), some (.ref 73)]) (st' := [.int (nI 2), .int (nI 1)]) (σ' := σ) rfl ?_
            refine am_ic (ty := 31) (tn := 34) rfl (by decide) rfl rfl (fun (h_3 : nI 2 < nI 1) => ?_) (fun (h_3 : ¬ (nI 2 < nI 1)) => ?_)
            · exact absurd h_3 (by decide)
            refine am_run 2 (pc' := 37) (ls' := [some (.ref 41), some (.int (nI 0)), some (.int (nI mk)), some (.int (nI 1)), some (.ref 73)]) (st' := [.ref 73, .ref 41]) (σ' := σ) rfl ?_
            refine am_invv (y := 66) (b := 73) (as := []) (rest := [.ref 41]) rfl rfl rfl rfl rfl rfl rfl (Nat.le_of_ble_eq_true rfl) ?_
            refine am_enter' rfl rfl rfl (by omega) (ls := [some (.ref 73)]) rfl (fun d_4 hd_4 => ?_)
            refine am_run 2 (pc' := 4) (ls' := [some (.ref 73)]) (st' := [.ref (σ.2 73 1)]) (σ' := σ) rfl ?_
            refine am_reta rfl rfl (Or.inr ⟨_, rfl⟩) ?_
            show am_G _ M_X9_states _ 40 [some (.ref 41), some (.int (nI 0)), some (.int (nI mk)), some (.int (nI 1)), some (.ref 73)] [.ref (σ.2 73 1), .ref 41] σ
            refine am_run 1 (pc' := 41) (ls' := [some (.ref 41), some (.int (nI 0)), some (.int (nI mk)), some (.int (nI 1)), some (.ref 73)]) (st' := [.int (nI mk), .ref (σ.2 73 1), .ref 41]) (σ' := σ) rfl ?_
            refine am_invv (y := 145) (b := 41) (as := [.ref (σ.2 73 1), .int (nI mk)]) (rest := []) rfl rfl rfl rfl rfl rfl rfl (Nat.le_of_ble_eq_true rfl) ?_
            refine c_drawChart (by omega) hW hR hrn hro hmk hmv hVo (fun σ1 hK1 _ => ?_) (fun σ1 T1 _ he => absurd (hco.symm.trans he) (fun z => by cases z))
            show am_G _ M_X9_states _ 44 [some (.ref 41), some (.int (nI 0)), some (.int (nI mk)), some (.int (nI 1)), some (.ref 73)] [.int (nI 0)] σ1
            refine am_if (ty := 47) (tn := 50) rfl (by decide) rfl rfl (fun (h_5 : nI 0 = 0) => ?_) (fun (h_5 : ¬ (nI 0 = 0)) => ?_)
            rotate_left
            · exact absurd (by decide) h_5
            refine am_run 1 (pc' := 49) (ls' := [some (.ref 41), some (.int (nI 0)), some (.int (nI mk)), some (.int (nI 1)), some (.ref 73)]) (st' := [.int (-1000004)]) (σ' := σ1) rfl ?_
            refine am_reti rfl rfl ?_
            refine ⟨rfl, ?_⟩
            have hM5 := hM.keep2 (σ' := σ1) (fun c a => hK1.1 c (by omega))
            have hn25 := hM5.1.2.2.2.1
            refine am_enter' (M := M_X10_states) rfl rfl rfl (by omega) (ls := [some (.ref 0), some (.int (nI 0)), some (.int (nI mk)), some (.int (nI 1))]) rfl (fun d2 hd2 => ?_)
            refine am_run 2 (pc' := 2) (ls' := [some (.ref 0), some (.int (nI 0)), some (.int (nI mk)), some (.int (nI 1))]) (st' := [.int (nI 0), .ref 0]) (σ' := σ1) rfl ?_
            refine am_invv (y := 151) (b := 0) (as := [.int (nI 0)]) (rest := []) rfl rfl rfl rfl rfl rfl rfl (Nat.le_of_ble_eq_true rfl) ?_
            refine c_prog0_1 (by omega) (n := n) (by exact hn25) hn1 hn60 ?_
            show am_G _ M_X10_states _ 5 [some (.ref 0), some (.int (nI 0)), some (.int (nI mk)), some (.int (nI 1))] [.int (nI 1)] σ1
            refine am_if (ty := 8) (tn := 11) rfl (by decide) rfl rfl (fun (h_101 : nI 1 = 0) => ?_) (fun (h_101 : ¬ (nI 1 = 0)) => ?_)
            · exact absurd h_101 (by decide)
            refine am_run 1 (pc' := 12) (ls' := [some (.ref 0), some (.int (nI 0)), some (.int (nI mk)), some (.int (nI 1))]) (st' := [.int (nI mk)]) (σ' := σ1) rfl ?_
            refine am_invs (y := 240) (as := [.int (nI mk)]) (rest := []) rfl rfl rfl rfl rfl rfl (Nat.le_of_ble_eq_true rfl) ?_
            refine c_mask1_model (by omega) hmk hmv ?_
            show am_G _ M_X10_states _ 15 [some (.ref 0), some (.int (nI 0)), some (.int (nI mk)), some (.int (nI 1))] [.int (nI 1)] σ1
            refine am_if (ty := 27) (tn := 18) rfl (by decide) rfl rfl (fun (h_102 : nI 1 = 0) => ?_) (fun (h_102 : ¬ (nI 1 = 0)) => ?_)
            · exact absurd h_102 (by decide)
            refine am_run 3 (pc' := 21) (ls' := [some (.ref 0), some (.int (nI 0)), some (.int (nI mk)), some (.int (nI 1))]) (st' := [.int (nI 2), .int (nI 0), .int (nI 1)]) (σ' := σ1) rfl ?_
            refine am_invs (y := 148) (as := [.int (nI 1), .int (nI 0), .int (nI 2)]) (rest := []) rfl rfl rfl rfl rfl rfl (Nat.le_of_ble_eq_true rfl) ?_
            refine c_in1 (by omega) (by omega) (by omega) (by omega) ?_
            show am_G _ M_X10_states _ 24 [some (.ref 0), some (.int (nI 0)), some (.int (nI mk)), some (.int (nI 1))] [.int (nI 1)] σ1
            refine am_if (ty := 27) (tn := 30) rfl (by decide) rfl rfl (fun (h_103 : nI 1 = 0) => ?_) (fun (h_103 : ¬ (nI 1 = 0)) => ?_)
            · exact absurd h_103 (by decide)
            refine am_run 3 (pc' := 33) (ls' := [some (.ref 0), some (.int (nI 0)), some (.int (nI mk)), some (.int (nI 1))]) (st' := [.int (nI mk), .int (nI 0), .ref 0]) (σ' := σ1) rfl ?_
            refine am_invv (y := 243) (b := 0) (as := [.int (nI 0), .int (nI mk)]) (rest := []) rfl rfl rfl rfl rfl rfl rfl (Nat.le_of_ble_eq_true rfl) ?_
            refine c_laysStates (by omega) hM5 hmk hmv (fun σ6 hK6 _ => ?_) (fun σ6 T1 _ he => absurd (hco.symm.trans he) (fun z => by cases z))
            show am_G _ M_X10_states _ 36 [some (.ref 0), some (.int (nI 0)), some (.int (nI mk)), some (.int (nI 1))] [.int (nI 0)] σ6
            refine am_if (ty := 39) (tn := 42) rfl (by decide) rfl rfl (fun (h_104 : nI 0 = 0) => ?_) (fun (h_104 : ¬ (nI 0 = 0)) => ?_)
            rotate_left
            · exact absurd (by decide) h_104
            refine am_run 1 (pc' := 41) (ls' := [some (.ref 0), some (.int (nI 0)), some (.int (nI mk)), some (.int (nI 1))]) (st' := [.int (-1000004)]) (σ' := σ6) rfl ?_
            refine am_reti rfl rfl ?_
            exact ⟨rfl, (hK1.KI.tr hK6.KI).inv hI⟩
          · skip
            refine ⟨-1000004, ?_⟩
            refine am_enter' (M := M_X9_states) rfl rfl rfl (by omega) (ls := [some (.ref 41), some (.int (nI 0)), some (.int (nI mk)), some (.int (nI 2)), none]) rfl (fun d' hd' => ?_)
            refine am_run 2 (pc' := 2) (ls' := [some (.ref 41), some (.int (nI 0)), some (.int (nI mk)), some (.int (nI 2)), none]) (st' := [.int (nI 0), .ref 41]) (σ' := σ) rfl ?_
            refine am_invv (y := 140) (b := 41) (as := [.int (nI 0)]) (rest := []) rfl rfl rfl rfl rfl rfl rfl (Nat.le_of_ble_eq_true rfl) ?_
            refine c_filled0_1 (by omega) hf ?_
            show am_G _ M_X9_states _ 5 [some (.ref 41), some (.int (nI 0)), some (.int (nI mk)), some (.int (nI 2)), none] [.ref 73] σ
            refine am_run 4 (pc' := 16) (ls' := [some (.ref 41), some (.int (nI 0)), some (.int (nI mk)), some (.int (nI 2)), some (.ref 73)]) (st' := [.int (nI mk)]) (σ' := σ) rfl ?_
            refine am_invs (y := 142) (as := [.int (nI mk)]) (rest := []) rfl rfl rfl rfl rfl rfl (Nat.le_of_ble_eq_true rfl) ?_
            refine c_mask1_class (by omega) hmk hmv ?_
            show am_G _ M_X9_states _ 19 [some (.ref 41), some (.int (nI 0)), some (.int (nI mk)), some (.int (nI 2)), some (.ref 73)] [.int (nI 1)] σ
            refine am_if (ty := 31) (tn := 22) rfl (by decide) rfl rfl (fun (h_1 : nI 1 = 0) => ?_) (fun (h_1 : ¬ (nI 1 = 0)) => ?_)
            · exact absurd h_1 (by decide)
            refine am_run 1 (pc' := 23) (ls' := [some (.ref 41), some (.int (nI 0)), some (.int (nI mk)), some (.int (nI 2)), some (.ref 73)]) (st' := [.int (nI 2)]) (σ' := σ) rfl ?_
            refine am_if (ty := 31) (tn := 26) rfl (by decide) rfl rfl (fun (h_2 : nI 2 < 0) => ?_) (fun (h_2 : ¬ (nI 2 < 0)) => ?_)
            · exact absurd h_2 (by decide)
            refine am_run 2 (pc' := 28) (ls' := [some (.ref 41), some (.int (nI 0)), some (.int (nI mk)), some (.int (nI 2)), some (.ref 73)]) (st' := [.int (nI 2), .int (nI 2)]) (σ' := σ) rfl ?_
            refine am_ic (ty := 31) (tn := 34) rfl (by decide) rfl rfl (fun (h_3 : nI 2 < nI 2) => ?_) (fun (h_3 : ¬ (nI 2 < nI 2)) => ?_)
            · exact absurd h_3 (by decide)
            refine am_run 2 (pc' := 37) (ls' := [some (.ref 41), some (.int (nI 0)), some (.int (nI mk)), some (.int (nI 2)), some (.ref 73)]) (st' := [.ref 73, .ref 41]) (σ' := σ) rfl ?_
            refine am_invv (y := 66) (b := 73) (as := []) (rest := [.ref 41]) rfl rfl rfl rfl rfl rfl rfl (Nat.le_of_ble_eq_true rfl) ?_
            refine am_enter' rfl rfl rfl (by omega) (ls := [some (.ref 73)]) rfl (fun d_4 hd_4 => ?_)
            refine am_run 2 (pc' := 4) (ls' := [some (.ref 73)]) (st' := [.ref (σ.2 73 1)]) (σ' := σ) rfl ?_
            refine am_reta rfl rfl (Or.inr ⟨_, rfl⟩) ?_
            show am_G _ M_X9_states _ 40 [some (.ref 41), some (.int (nI 0)), some (.int (nI mk)), some (.int (nI 2)), some (.ref 73)] [.ref (σ.2 73 1), .ref 41] σ
            refine am_run 1 (pc' := 41) (ls' := [some (.ref 41), some (.int (nI 0)), some (.int (nI mk)), some (.int (nI 2)), some (.ref 73)]) (st' := [.int (nI mk), .ref (σ.2 73 1), .ref 41]) (σ' := σ) rfl ?_
            refine am_invv (y := 145) (b := 41) (as := [.ref (σ.2 73 1), .int (nI mk)]) (rest := []) rfl rfl rfl rfl rfl rfl rfl (Nat.le_of_ble_eq_true rfl) ?_
            refine c_drawChart (by omega) hW hR hrn hro hmk hmv hVo (fun σ1 hK1 _ => ?_) (fun σ1 T1 _ he => absurd (hco.symm.trans he) (fun z => by cases z))
            show am_G _ M_X9_states _ 44 [some (.ref 41), some (.int (nI 0)), some (.int (nI mk)), some (.int (nI 2)), some (.ref 73)] [.int (nI 0)] σ1
            refine am_if (ty := 47) (tn := 50) rfl (by decide) rfl rfl (fun (h_5 : nI 0 = 0) => ?_) (fun (h_5 : ¬ (nI 0 = 0)) => ?_)
            rotate_left
            · exact absurd (by decide) h_5
            refine am_run 1 (pc' := 49) (ls' := [some (.ref 41), some (.int (nI 0)), some (.int (nI mk)), some (.int (nI 2)), some (.ref 73)]) (st' := [.int (-1000004)]) (σ' := σ1) rfl ?_
            refine am_reti rfl rfl ?_
            refine ⟨rfl, ?_⟩
            have hM5 := hM.keep2 (σ' := σ1) (fun c a => hK1.1 c (by omega))
            have hn25 := hM5.1.2.2.2.1
            refine am_enter' (M := M_X10_states) rfl rfl rfl (by omega) (ls := [some (.ref 0), some (.int (nI 0)), some (.int (nI mk)), some (.int (nI 2))]) rfl (fun d2 hd2 => ?_)
            refine am_run 2 (pc' := 2) (ls' := [some (.ref 0), some (.int (nI 0)), some (.int (nI mk)), some (.int (nI 2))]) (st' := [.int (nI 0), .ref 0]) (σ' := σ1) rfl ?_
            refine am_invv (y := 151) (b := 0) (as := [.int (nI 0)]) (rest := []) rfl rfl rfl rfl rfl rfl rfl (Nat.le_of_ble_eq_true rfl) ?_
            refine c_prog0_1 (by omega) (n := n) (by exact hn25) hn1 hn60 ?_
            show am_G _ M_X10_states _ 5 [some (.ref 0), some (.int (nI 0)), some (.int (nI mk)), some (.int (nI 2))] [.int (nI 1)] σ1
            refine am_if (ty := 8) (tn := 11) rfl (by decide) rfl rfl (fun (h_101 : nI 1 = 0) => ?_) (fun (h_101 : ¬ (nI 1 = 0)) => ?_)
            · exact absurd h_101 (by decide)
            refine am_run 1 (pc' := 12) (ls' := [some (.ref 0), some (.int (nI 0)), some (.int (nI mk)), some (.int (nI 2))]) (st' := [.int (nI mk)]) (σ' := σ1) rfl ?_
            refine am_invs (y := 240) (as := [.int (nI mk)]) (rest := []) rfl rfl rfl rfl rfl rfl (Nat.le_of_ble_eq_true rfl) ?_
            refine c_mask1_model (by omega) hmk hmv ?_
            show am_G _ M_X10_states _ 15 [some (.ref 0), some (.int (nI 0)), some (.int (nI mk)), some (.int (nI 2))] [.int (nI 1)] σ1
            refine am_if (ty := 27) (tn := 18) rfl (by decide) rfl rfl (fun (h_102 : nI 1 = 0) => ?_) (fun (h_102 : ¬ (nI 1 = 0)) => ?_)
            · exact absurd h_102 (by decide)
            refine am_run 3 (pc' := 21) (ls' := [some (.ref 0), some (.int (nI 0)), some (.int (nI mk)), some (.int (nI 2))]) (st' := [.int (nI 2), .int (nI 0), .int (nI 2)]) (σ' := σ1) rfl ?_
            refine am_invs (y := 148) (as := [.int (nI 2), .int (nI 0), .int (nI 2)]) (rest := []) rfl rfl rfl rfl rfl rfl (Nat.le_of_ble_eq_true rfl) ?_
            refine c_in1 (by omega) (by omega) (by omega) (by omega) ?_
            show am_G _ M_X10_states _ 24 [some (.ref 0), some (.int (nI 0)), some (.int (nI mk)), some (.int (nI 2))] [.int (nI 1)] σ1
            refine am_if (ty := 27) (tn := 30) rfl (by decide) rfl rfl (fun (h_103 : nI 1 = 0) => ?_) (fun (h_103 : ¬ (nI 1 = 0)) => ?_)
            · exact absurd h_103 (by decide)
            refine am_run 3 (pc' := 33) (ls' := [some (.ref 0), some (.int (nI 0)), some (.int (nI mk)), some (.int (nI 2))]) (st' := [.int (nI mk), .int (nI 0), .ref 0]) (σ' := σ1) rfl ?_
            refine am_invv (y := 243) (b := 0) (as := [.int (nI 0), .int (nI mk)]) (rest := []) rfl rfl rfl rfl rfl rfl rfl (Nat.le_of_ble_eq_true rfl) ?_
            refine c_laysStates (by omega) hM5 hmk hmv (fun σ6 hK6 _ => ?_) (fun σ6 T1 _ he => absurd (hco.symm.trans he) (fun z => by cases z))
            show am_G _ M_X10_states _ 36 [some (.ref 0), some (.int (nI 0)), some (.int (nI mk)), some (.int (nI 2))] [.int (nI 0)] σ6
            refine am_if (ty := 39) (tn := 42) rfl (by decide) rfl rfl (fun (h_104 : nI 0 = 0) => ?_) (fun (h_104 : ¬ (nI 0 = 0)) => ?_)
            rotate_left
            · exact absurd (by decide) h_104
            refine am_run 1 (pc' := 41) (ls' := [some (.ref 0), some (.int (nI 0)), some (.int (nI mk)), some (.int (nI 2))]) (st' := [.int (-1000004)]) (σ' := σ6) rfl ?_
            refine am_reti rfl rfl ?_
            exact ⟨rfl, (hK1.KI.tr hK6.KI).inv hI⟩
        | some T' =>
          rcases (show wh = 0 ∨ wh = 1 ∨ wh = 2 by omega) with rfl | rfl | rfl
          · skip
            refine ⟨nI T'.1, ?_⟩
            refine am_enter' (M := M_X9_states) rfl rfl rfl (by omega) (ls := [some (.ref 41), some (.int (nI 0)), some (.int (nI mk)), some (.int (nI 0)), none]) rfl (fun d' hd' => ?_)
            refine am_run 2 (pc' := 2) (ls' := [some (.ref 41), some (.int (nI 0)), some (.int (nI mk)), some (.int (nI 0)), none]) (st' := [.int (nI 0), .ref 41]) (σ' := σ) rfl ?_
            refine am_invv (y := 140) (b := 41) (as := [.int (nI 0)]) (rest := []) rfl rfl rfl rfl rfl rfl rfl (Nat.le_of_ble_eq_true rfl) ?_
            refine c_filled0_1 (by omega) hf ?_
            show am_G _ M_X9_states _ 5 [some (.ref 41), some (.int (nI 0)), some (.int (nI mk)), some (.int (nI 0)), none] [.ref 73] σ
            refine am_run 4 (pc' := 16) (ls' := [some (.ref 41), some (.int (nI 0)), some (.int (nI mk)), some (.int (nI 0)), some (.ref 73)]) (st' := [.int (nI mk)]) (σ' := σ) rfl ?_
            refine am_invs (y := 142) (as := [.int (nI mk)]) (rest := []) rfl rfl rfl rfl rfl rfl (Nat.le_of_ble_eq_true rfl) ?_
            refine c_mask1_class (by omega) hmk hmv ?_
            show am_G _ M_X9_states _ 19 [some (.ref 41), some (.int (nI 0)), some (.int (nI mk)), some (.int (nI 0)), some (.ref 73)] [.int (nI 1)] σ
            refine am_if (ty := 31) (tn := 22) rfl (by decide) rfl rfl (fun (h_1 : nI 1 = 0) => ?_) (fun (h_1 : ¬ (nI 1 = 0)) => ?_)
            · exact absurd h_1 (by decide)
            refine am_run 1 (pc' := 23) (ls' := [some (.ref 41), some (.int (nI 0)), some (.int (nI mk)), some (.int (nI 0)), some (.ref 73)]) (st' := [.int (nI 0)]) (σ' := σ) rfl ?_
            refine am_if (ty := 31) (tn := 26) rfl (by decide) rfl rfl (fun (h_2 : nI 0 < 0) => ?_) (fun (h_2 : ¬ (nI 0 < 0)) => ?_)
            · exact absurd h_2 (by decide)
            refine am_run 2 (pc' := 28) (ls' := [some (.ref 41), some (.int (nI 0)), some (.int (nI mk)), some (.int (nI 0)), some (.ref 73)]) (st' := [.int (nI 2), .int (nI 0)]) (σ' := σ) rfl ?_
            refine am_ic (ty := 31) (tn := 34) rfl (by decide) rfl rfl (fun (h_3 : nI 2 < nI 0) => ?_) (fun (h_3 : ¬ (nI 2 < nI 0)) => ?_)
            · exact absurd h_3 (by decide)
            refine am_run 2 (pc' := 37) (ls' := [some (.ref 41), some (.int (nI 0)), some (.int (nI mk)), some (.int (nI 0)), some (.ref 73)]) (st' := [.ref 73, .ref 41]) (σ' := σ) rfl ?_
            refine am_invv (y := 66) (b := 73) (as := []) (rest := [.ref 41]) rfl rfl rfl rfl rfl rfl rfl (Nat.le_of_ble_eq_true rfl) ?_
            refine am_enter' rfl rfl rfl (by omega) (ls := [some (.ref 73)]) rfl (fun d_4 hd_4 => ?_)
            refine am_run 2 (pc' := 4) (ls' := [some (.ref 73)]) (st' := [.ref (σ.2 73 1)]) (σ' := σ) rfl ?_
            refine am_reta rfl rfl (Or.inr ⟨_, rfl⟩) ?_
            show am_G _ M_X9_states _ 40 [some (.ref 41), some (.int (nI 0)), some (.int (nI mk)), some (.int (nI 0)), some (.ref 73)] [.ref (σ.2 73 1), .ref 41] σ
            refine am_run 1 (pc' := 41) (ls' := [some (.ref 41), some (.int (nI 0)), some (.int (nI mk)), some (.int (nI 0)), some (.ref 73)]) (st' := [.int (nI mk), .ref (σ.2 73 1), .ref 41]) (σ' := σ) rfl ?_
            refine am_invv (y := 145) (b := 41) (as := [.ref (σ.2 73 1), .int (nI mk)]) (rest := []) rfl rfl rfl rfl rfl rfl rfl (Nat.le_of_ble_eq_true rfl) ?_
            refine c_drawChart (by omega) hW hR hrn hro hmk hmv hVo (fun σ1 _ he => absurd (hco.symm.trans he) (fun z => by cases z)) (fun σ1 T1 hK1 he hC1 h41 hl1 hl2 => ?_)
            obtain rfl : T' = T1 := Option.some.inj (hco.symm.trans he)
            show am_G _ M_X9_states _ 44 [some (.ref 41), some (.int (nI 0)), some (.int (nI mk)), some (.int (nI 0)), some (.ref 73)] [.int (nI 1)] σ1
            refine am_if (ty := 47) (tn := 50) rfl (by decide) rfl rfl (fun (h_5 : nI 1 = 0) => ?_) (fun (h_5 : ¬ (nI 1 = 0)) => ?_)
            · exact absurd h_5 (by decide)
            refine am_run 1 (pc' := 51) (ls' := [some (.ref 41), some (.int (nI 0)), some (.int (nI mk)), some (.int (nI 0)), some (.ref 73)]) (st' := [.int (nI 0)]) (σ' := σ1) rfl ?_
            refine am_if (ty := 54) (tn := 62) rfl (by decide) rfl rfl (fun (h_6 : nI 0 = 0) => ?_) (fun (h_6 : ¬ (nI 0 = 0)) => ?_)
            rotate_left
            · exact absurd (by decide) h_6
            refine am_run 2 (pc' := 58) (ls' := [some (.ref 41), some (.int (nI 0)), some (.int (nI mk)), some (.int (nI 0)), some (.ref 73)]) (st' := [.ref 83]) (σ' := σ1) rfl ?_
            refine am_invv (y := 28) (b := 83) (as := []) (rest := []) rfl rfl rfl rfl rfl rfl rfl (Nat.le_of_ble_eq_true rfl) ?_
            refine am_enter' rfl rfl rfl (by omega) (ls := [some (.ref 83)]) rfl (fun d_7 hd_7 => ?_)
            refine am_run 2 (pc' := 4) (ls' := [some (.ref 83)]) (st' := [.int (σ1.1 83 4)]) (σ' := σ1) rfl ?_
            refine am_top (v' := nI T'.1) h41 ?_
            refine am_reti rfl rfl ?_
            show am_G _ M_X9_states _ 61 [some (.ref 41), some (.int (nI 0)), some (.int (nI mk)), some (.int (nI 0)), some (.ref 73)] [.int (nI T'.1)] σ1
            refine am_reti rfl rfl ?_
            refine ⟨rfl, ?_⟩
            have hM5 := hM.keep2 (σ' := σ1) (fun c a => hK1.1 c (by omega))
            have hn25 := hM5.1.2.2.2.1
            refine am_enter' (M := M_X10_states) rfl rfl rfl (by omega) (ls := [some (.ref 0), some (.int (nI 0)), some (.int (nI mk)), some (.int (nI 0))]) rfl (fun d2 hd2 => ?_)
            refine am_run 2 (pc' := 2) (ls' := [some (.ref 0), some (.int (nI 0)), some (.int (nI mk)), some (.int (nI 0))]) (st' := [.int (nI 0), .ref 0]) (σ' := σ1) rfl ?_
            refine am_invv (y := 151) (b := 0) (as := [.int (nI 0)]) (rest := []) rfl rfl rfl rfl rfl rfl rfl (Nat.le_of_ble_eq_true rfl) ?_
            refine c_prog0_1 (by omega) (n := n) (by exact hn25) hn1 hn60 ?_
            show am_G _ M_X10_states _ 5 [some (.ref 0), some (.int (nI 0)), some (.int (nI mk)), some (.int (nI 0))] [.int (nI 1)] σ1
            refine am_if (ty := 8) (tn := 11) rfl (by decide) rfl rfl (fun (h_101 : nI 1 = 0) => ?_) (fun (h_101 : ¬ (nI 1 = 0)) => ?_)
            · exact absurd h_101 (by decide)
            refine am_run 1 (pc' := 12) (ls' := [some (.ref 0), some (.int (nI 0)), some (.int (nI mk)), some (.int (nI 0))]) (st' := [.int (nI mk)]) (σ' := σ1) rfl ?_
            refine am_invs (y := 240) (as := [.int (nI mk)]) (rest := []) rfl rfl rfl rfl rfl rfl (Nat.le_of_ble_eq_true rfl) ?_
            refine c_mask1_model (by omega) hmk hmv ?_
            show am_G _ M_X10_states _ 15 [some (.ref 0), some (.int (nI 0)), some (.int (nI mk)), some (.int (nI 0))] [.int (nI 1)] σ1
            refine am_if (ty := 27) (tn := 18) rfl (by decide) rfl rfl (fun (h_102 : nI 1 = 0) => ?_) (fun (h_102 : ¬ (nI 1 = 0)) => ?_)
            · exact absurd h_102 (by decide)
            refine am_run 3 (pc' := 21) (ls' := [some (.ref 0), some (.int (nI 0)), some (.int (nI mk)), some (.int (nI 0))]) (st' := [.int (nI 2), .int (nI 0), .int (nI 0)]) (σ' := σ1) rfl ?_
            refine am_invs (y := 148) (as := [.int (nI 0), .int (nI 0), .int (nI 2)]) (rest := []) rfl rfl rfl rfl rfl rfl (Nat.le_of_ble_eq_true rfl) ?_
            refine c_in1 (by omega) (by omega) (by omega) (by omega) ?_
            show am_G _ M_X10_states _ 24 [some (.ref 0), some (.int (nI 0)), some (.int (nI mk)), some (.int (nI 0))] [.int (nI 1)] σ1
            refine am_if (ty := 27) (tn := 30) rfl (by decide) rfl rfl (fun (h_103 : nI 1 = 0) => ?_) (fun (h_103 : ¬ (nI 1 = 0)) => ?_)
            · exact absurd h_103 (by decide)
            refine am_run 3 (pc' := 33) (ls' := [some (.ref 0), some (.int (nI 0)), some (.int (nI mk)), some (.int (nI 0))]) (st' := [.int (nI mk), .int (nI 0), .ref 0]) (σ' := σ1) rfl ?_
            refine am_invv (y := 243) (b := 0) (as := [.int (nI 0), .int (nI mk)]) (rest := []) rfl rfl rfl rfl rfl rfl rfl (Nat.le_of_ble_eq_true rfl) ?_
            refine c_laysStates (by omega) hM5 hmk hmv (fun σ6 _ he => absurd (hco.symm.trans he) (fun z => by cases z)) (fun σ6 T2 hK6 he6 hC6 h496 hl3 hl4 => ?_)
            obtain rfl : T' = T2 := Option.some.inj (hco.symm.trans he6)
            show am_G _ M_X10_states _ 36 [some (.ref 0), some (.int (nI 0)), some (.int (nI mk)), some (.int (nI 0))] [.int (nI 1)] σ6
            refine am_if (ty := 39) (tn := 42) rfl (by decide) rfl rfl (fun (h_104 : nI 1 = 0) => ?_) (fun (h_104 : ¬ (nI 1 = 0)) => ?_)
            · exact absurd h_104 (by decide)
            refine am_run 1 (pc' := 43) (ls' := [some (.ref 0), some (.int (nI 0)), some (.int (nI mk)), some (.int (nI 0))]) (st' := [.int (nI 0)]) (σ' := σ6) rfl ?_
            refine am_if (ty := 46) (tn := 53) rfl (by decide) rfl rfl (fun (h_105 : nI 0 = 0) => ?_) (fun (h_105 : ¬ (nI 0 = 0)) => ?_)
            rotate_left
            · exact absurd (by decide) h_105
            refine am_run 2 (pc' := 50) (ls' := [some (.ref 0), some (.int (nI 0)), some (.int (nI mk)), some (.int (nI 0))]) (st' := [.int (σ6.1 0 49)]) (σ' := σ6) rfl ?_
            refine am_top (v' := nI T'.1) h496 ?_
            refine am_run 1 (pc' := 75) (ls' := [some (.ref 0), some (.int (nI 0)), some (.int (nI mk)), some (.int (nI 0))]) (st' := [.int (nI T'.1)]) (σ' := σ6) rfl ?_
            refine am_reti rfl rfl ?_
            exact ⟨rfl, (hK1.KI.tr hK6.KI).inv hI⟩
          · skip
            refine ⟨nI (cls T'.2.2.1 T'.2.2.2.1 (2 ^ pcn mk 21) T'.1 100 z0 0 1), ?_⟩
            refine am_enter' (M := M_X9_states) rfl rfl rfl (by omega) (ls := [some (.ref 41), some (.int (nI 0)), some (.int (nI mk)), some (.int (nI 1)), none]) rfl (fun d' hd' => ?_)
            refine am_run 2 (pc' := 2) (ls' := [some (.ref 41), some (.int (nI 0)), some (.int (nI mk)), some (.int (nI 1)), none]) (st' := [.int (nI 0), .ref 41]) (σ' := σ) rfl ?_
            refine am_invv (y := 140) (b := 41) (as := [.int (nI 0)]) (rest := []) rfl rfl rfl rfl rfl rfl rfl (Nat.le_of_ble_eq_true rfl) ?_
            refine c_filled0_1 (by omega) hf ?_
            show am_G _ M_X9_states _ 5 [some (.ref 41), some (.int (nI 0)), some (.int (nI mk)), some (.int (nI 1)), none] [.ref 73] σ
            refine am_run 4 (pc' := 16) (ls' := [some (.ref 41), some (.int (nI 0)), some (.int (nI mk)), some (.int (nI 1)), some (.ref 73)]) (st' := [.int (nI mk)]) (σ' := σ) rfl ?_
            refine am_invs (y := 142) (as := [.int (nI mk)]) (rest := []) rfl rfl rfl rfl rfl rfl (Nat.le_of_ble_eq_true rfl) ?_
            refine c_mask1_class (by omega) hmk hmv ?_
            show am_G _ M_X9_states _ 19 [some (.ref 41), some (.int (nI 0)), some (.int (nI mk)), some (.int (nI 1)), some (.ref 73)] [.int (nI 1)] σ
            refine am_if (ty := 31) (tn := 22) rfl (by decide) rfl rfl (fun (h_1 : nI 1 = 0) => ?_) (fun (h_1 : ¬ (nI 1 = 0)) => ?_)
            · exact absurd h_1 (by decide)
            refine am_run 1 (pc' := 23) (ls' := [some (.ref 41), some (.int (nI 0)), some (.int (nI mk)), some (.int (nI 1)), some (.ref 73)]) (st' := [.int (nI 1)]) (σ' := σ) rfl ?_
            refine am_if (ty := 31) (tn := 26) rfl (by decide) rfl rfl (fun (h_2 : nI 1 < 0) => ?_) (fun (h_2 : ¬ (nI 1 < 0)) => ?_)
            · exact absurd h_2 (by decide)
            refine am_run 2 (pc' := 28) (ls' := [some (.ref 41), some (.int (nI 0)), some (.int (nI mk)), some (.int (nI 1)), some (.ref 73)]) (st' := [.int (nI 2), .int (nI 1)]) (σ' := σ) rfl ?_
            refine am_ic (ty := 31) (tn := 34) rfl (by decide) rfl rfl (fun (h_3 : nI 2 < nI 1) => ?_) (fun (h_3 : ¬ (nI 2 < nI 1)) => ?_)
            · exact absurd h_3 (by decide)
            refine am_run 2 (pc' := 37) (ls' := [some (.ref 41), some (.int (nI 0)), some (.int (nI mk)), some (.int (nI 1)), some (.ref 73)]) (st' := [.ref 73, .ref 41]) (σ' := σ) rfl ?_
            refine am_invv (y := 66) (b := 73) (as := []) (rest := [.ref 41]) rfl rfl rfl rfl rfl rfl rfl (Nat.le_of_ble_eq_true rfl) ?_
            refine am_enter' rfl rfl rfl (by omega) (ls := [some (.ref 73)]) rfl (fun d_4 hd_4 => ?_)
            refine am_run 2 (pc' := 4) (ls' := [some (.ref 73)]) (st' := [.ref (σ.2 73 1)]) (σ' := σ) rfl ?_
            refine am_reta rfl rfl (Or.inr ⟨_, rfl⟩) ?_
            show am_G _ M_X9_states _ 40 [some (.ref 41), some (.int (nI 0)), some (.int (nI mk)), some (.int (nI 1)), some (.ref 73)] [.ref (σ.2 73 1), .ref 41] σ
            refine am_run 1 (pc' := 41) (ls' := [some (.ref 41), some (.int (nI 0)), some (.int (nI mk)), some (.int (nI 1)), some (.ref 73)]) (st' := [.int (nI mk), .ref (σ.2 73 1), .ref 41]) (σ' := σ) rfl ?_
            refine am_invv (y := 145) (b := 41) (as := [.ref (σ.2 73 1), .int (nI mk)]) (rest := []) rfl rfl rfl rfl rfl rfl rfl (Nat.le_of_ble_eq_true rfl) ?_
            refine c_drawChart (by omega) hW hR hrn hro hmk hmv hVo (fun σ1 _ he => absurd (hco.symm.trans he) (fun z => by cases z)) (fun σ1 T1 hK1 he hC1 h41 hl1 hl2 => ?_)
            obtain rfl : T' = T1 := Option.some.inj (hco.symm.trans he)
            show am_G _ M_X9_states _ 44 [some (.ref 41), some (.int (nI 0)), some (.int (nI mk)), some (.int (nI 1)), some (.ref 73)] [.int (nI 1)] σ1
            refine am_if (ty := 47) (tn := 50) rfl (by decide) rfl rfl (fun (h_5 : nI 1 = 0) => ?_) (fun (h_5 : ¬ (nI 1 = 0)) => ?_)
            · exact absurd h_5 (by decide)
            refine am_run 1 (pc' := 51) (ls' := [some (.ref 41), some (.int (nI 0)), some (.int (nI mk)), some (.int (nI 1)), some (.ref 73)]) (st' := [.int (nI 1)]) (σ' := σ1) rfl ?_
            refine am_if (ty := 54) (tn := 62) rfl (by decide) rfl rfl (fun (h_6 : nI 1 = 0) => ?_) (fun (h_6 : ¬ (nI 1 = 0)) => ?_)
            · exact absurd h_6 (by decide)
            refine am_run 2 (pc' := 64) (ls' := [some (.ref 41), some (.int (nI 0)), some (.int (nI mk)), some (.int (nI 1)), some (.ref 73)]) (st' := [.int (nI 1), .int (nI 1)]) (σ' := σ1) rfl ?_
            refine am_ic (ty := 67) (tn := 77) rfl (by decide) rfl rfl (fun (h_7 : nI 1 = nI 1) => ?_) (fun (h_7 : ¬ (nI 1 = nI 1)) => ?_)
            rotate_left
            · exact absurd (by decide) h_7
            refine am_run 2 (pc' := 71) (ls' := [some (.ref 41), some (.int (nI 0)), some (.int (nI mk)), some (.int (nI 1)), some (.ref 73)]) (st' := [.ref 83]) (σ' := σ1) rfl ?_
            refine am_invv (y := 30) (b := 83) (as := []) (rest := []) rfl rfl rfl rfl rfl rfl rfl (Nat.le_of_ble_eq_true rfl) ?_
            refine c_classes (by omega) (hK1.2.2 hI.2.2.2.1) (hC1.ce h41 hl1) (fun σ2 hK2_ => ?_)
            have hK2 := hK1.tr hK2_
            show am_G _ M_X9_states _ 74 [some (.ref 41), some (.int (nI 0)), some (.int (nI mk)), some (.int (nI 1)), some (.ref 73)] [.int (nI (cls T'.2.2.1 T'.2.2.2.1 (2 ^ pcn mk 21) T'.1 100 z0 0 1))] σ2
            refine am_run 1 (pc' := 84) (ls' := [some (.ref 41), some (.int (nI 0)), some (.int (nI mk)), some (.int (nI 1)), some (.ref 73)]) (st' := [.int (nI (cls T'.2.2.1 T'.2.2.2.1 (2 ^ pcn mk 21) T'.1 100 z0 0 1))]) (σ' := σ2) rfl ?_
            refine am_reti rfl rfl ?_
            refine ⟨rfl, ?_⟩
            have hM5 := hM.keep2 (σ' := σ2) (fun c a => hK2.1 c (by omega))
            have hn25 := hM5.1.2.2.2.1
            refine am_enter' (M := M_X10_states) rfl rfl rfl (by omega) (ls := [some (.ref 0), some (.int (nI 0)), some (.int (nI mk)), some (.int (nI 1))]) rfl (fun d2 hd2 => ?_)
            refine am_run 2 (pc' := 2) (ls' := [some (.ref 0), some (.int (nI 0)), some (.int (nI mk)), some (.int (nI 1))]) (st' := [.int (nI 0), .ref 0]) (σ' := σ2) rfl ?_
            refine am_invv (y := 151) (b := 0) (as := [.int (nI 0)]) (rest := []) rfl rfl rfl rfl rfl rfl rfl (Nat.le_of_ble_eq_true rfl) ?_
            refine c_prog0_1 (by omega) (n := n) (by exact hn25) hn1 hn60 ?_
            show am_G _ M_X10_states _ 5 [some (.ref 0), some (.int (nI 0)), some (.int (nI mk)), some (.int (nI 1))] [.int (nI 1)] σ2
            refine am_if (ty := 8) (tn := 11) rfl (by decide) rfl rfl (fun (h_101 : nI 1 = 0) => ?_) (fun (h_101 : ¬ (nI 1 = 0)) => ?_)
            · exact absurd h_101 (by decide)
            refine am_run 1 (pc' := 12) (ls' := [some (.ref 0), some (.int (nI 0)), some (.int (nI mk)), some (.int (nI 1))]) (st' := [.int (nI mk)]) (σ' := σ2) rfl ?_
            refine am_invs (y := 240) (as := [.int (nI mk)]) (rest := []) rfl rfl rfl rfl rfl rfl (Nat.le_of_ble_eq_true rfl) ?_
            refine c_mask1_model (by omega) hmk hmv ?_
            show am_G _ M_X10_states _ 15 [some (.ref 0), some (.int (nI 0)), some (.int (nI mk)), some (.int (nI 1))] [.int (nI 1)] σ2
            refine am_if (ty := 27) (tn := 18) rfl (by decide) rfl rfl (fun (h_102 : nI 1 = 0) => ?_) (fun (h_102 : ¬ (nI 1 = 0)) => ?_)
            · exact absurd h_102 (by decide)
            refine am_run 3 (pc' := 21) (ls' := [some (.ref 0), some (.int (nI 0)), some (.int (nI mk)), some (.int (nI 1))]) (st' := [.int (nI 2), .int (nI 0), .int (nI 1)]) (σ' := σ2) rfl ?_
            refine am_invs (y := 148) (as := [.int (nI 1), .int (nI 0), .int (nI 2)]) (rest := []) rfl rfl rfl rfl rfl rfl (Nat.le_of_ble_eq_true rfl) ?_
            refine c_in1 (by omega) (by omega) (by omega) (by omega) ?_
            show am_G _ M_X10_states _ 24 [some (.ref 0), some (.int (nI 0)), some (.int (nI mk)), some (.int (nI 1))] [.int (nI 1)] σ2
            refine am_if (ty := 27) (tn := 30) rfl (by decide) rfl rfl (fun (h_103 : nI 1 = 0) => ?_) (fun (h_103 : ¬ (nI 1 = 0)) => ?_)
            · exact absurd h_103 (by decide)
            refine am_run 3 (pc' := 33) (ls' := [some (.ref 0), some (.int (nI 0)), some (.int (nI mk)), some (.int (nI 1))]) (st' := [.int (nI mk), .int (nI 0), .ref 0]) (σ' := σ2) rfl ?_
            refine am_invv (y := 243) (b := 0) (as := [.int (nI 0), .int (nI mk)]) (rest := []) rfl rfl rfl rfl rfl rfl rfl (Nat.le_of_ble_eq_true rfl) ?_
            refine c_laysStates (by omega) hM5 hmk hmv (fun σ6 _ he => absurd (hco.symm.trans he) (fun z => by cases z)) (fun σ6 T2 hK6 he6 hC6 h496 hl3 hl4 => ?_)
            obtain rfl : T' = T2 := Option.some.inj (hco.symm.trans he6)
            show am_G _ M_X10_states _ 36 [some (.ref 0), some (.int (nI 0)), some (.int (nI mk)), some (.int (nI 1))] [.int (nI 1)] σ6
            refine am_if (ty := 39) (tn := 42) rfl (by decide) rfl rfl (fun (h_104 : nI 1 = 0) => ?_) (fun (h_104 : ¬ (nI 1 = 0)) => ?_)
            · exact absurd h_104 (by decide)
            refine am_run 1 (pc' := 43) (ls' := [some (.ref 0), some (.int (nI 0)), some (.int (nI mk)), some (.int (nI 1))]) (st' := [.int (nI 1)]) (σ' := σ6) rfl ?_
            refine am_if (ty := 46) (tn := 53) rfl (by decide) rfl rfl (fun (h_105 : nI 1 = 0) => ?_) (fun (h_105 : ¬ (nI 1 = 0)) => ?_)
            · exact absurd h_105 (by decide)
            refine am_run 2 (pc' := 55) (ls' := [some (.ref 0), some (.int (nI 0)), some (.int (nI mk)), some (.int (nI 1))]) (st' := [.int (nI 1), .int (nI 1)]) (σ' := σ6) rfl ?_
            refine am_ic (ty := 58) (tn := 71) rfl (by decide) rfl rfl (fun (h_106 : nI 1 = nI 1) => ?_) (fun (h_106 : ¬ (nI 1 = nI 1)) => ?_)
            rotate_left
            · exact absurd (by decide) h_106
            refine am_run 3 (pc' := 61) (ls' := [some (.ref 0), some (.int (nI 0)), some (.int (nI mk)), some (.int (nI 1))]) (st' := [.int (nI mk), .int (nI 1), .ref 0]) (σ' := σ6) rfl ?_
            refine am_invs (y := 150) (as := [.int (nI mk)]) (rest := [.int (nI 1), .ref 0]) rfl rfl rfl rfl rfl rfl (Nat.le_of_ble_eq_true rfl) ?_
            refine c_ones (by omega) (by omega) ?_
            show am_G _ M_X10_states _ 64 [some (.ref 0), some (.int (nI 0)), some (.int (nI mk)), some (.int (nI 1))] [.int (nI (pcn mk 21)), .int (nI 1), .ref 0] σ6
            refine am_run 1 (pc' := 65) (ls' := [some (.ref 0), some (.int (nI 0)), some (.int (nI mk)), some (.int (nI 1))]) (st' := [.int ((nI 1) <<< ((nI (pcn mk 21)) &&& 31)), .ref 0]) (σ' := σ6) rfl ?_
            refine am_top (v' := nI (2 ^ pcn mk 21)) (by rw [nx_shl _ (by omega), Nat.one_mul]) ?_
            refine am_invv (y := 245) (b := 0) (as := [.int (nI (2 ^ pcn mk 21))]) (rest := []) rfl rfl rfl rfl rfl rfl rfl (Nat.le_of_ble_eq_true rfl) ?_
            refine c_sorts (by omega) (hC6.cn h496 hl4 hl3) (fun σ7 hK7 => ?_)
            show am_G _ M_X10_states _ 68 [some (.ref 0), some (.int (nI 0)), some (.int (nI mk)), some (.int (nI 1))] [.int (nI (cls T'.2.2.1 T'.2.2.2.1 (2 ^ pcn mk 21) T'.1 100 z0 0 1))] σ7
            refine am_run 1 (pc' := 75) (ls' := [some (.ref 0), some (.int (nI 0)), some (.int (nI mk)), some (.int (nI 1))]) (st' := [.int (nI (cls T'.2.2.1 T'.2.2.2.1 (2 ^ pcn mk 21) T'.1 100 z0 0 1))]) (σ' := σ7) rfl ?_
            refine am_reti rfl rfl ?_
            exact ⟨rfl, (hK2.KI.tr (hK6.tr hK7).KI).inv hI⟩
          · skip
            refine ⟨nI T'.2.2.2.2, ?_⟩
            refine am_enter' (M := M_X9_states) rfl rfl rfl (by omega) (ls := [some (.ref 41), some (.int (nI 0)), some (.int (nI mk)), some (.int (nI 2)), none]) rfl (fun d' hd' => ?_)
            refine am_run 2 (pc' := 2) (ls' := [some (.ref 41), some (.int (nI 0)), some (.int (nI mk)), some (.int (nI 2)), none]) (st' := [.int (nI 0), .ref 41]) (σ' := σ) rfl ?_
            refine am_invv (y := 140) (b := 41) (as := [.int (nI 0)]) (rest := []) rfl rfl rfl rfl rfl rfl rfl (Nat.le_of_ble_eq_true rfl) ?_
            refine c_filled0_1 (by omega) hf ?_
            show am_G _ M_X9_states _ 5 [some (.ref 41), some (.int (nI 0)), some (.int (nI mk)), some (.int (nI 2)), none] [.ref 73] σ
            refine am_run 4 (pc' := 16) (ls' := [some (.ref 41), some (.int (nI 0)), some (.int (nI mk)), some (.int (nI 2)), some (.ref 73)]) (st' := [.int (nI mk)]) (σ' := σ) rfl ?_
            refine am_invs (y := 142) (as := [.int (nI mk)]) (rest := []) rfl rfl rfl rfl rfl rfl (Nat.le_of_ble_eq_true rfl) ?_
            refine c_mask1_class (by omega) hmk hmv ?_
            show am_G _ M_X9_states _ 19 [some (.ref 41), some (.int (nI 0)), some (.int (nI mk)), some (.int (nI 2)), some (.ref 73)] [.int (nI 1)] σ
            refine am_if (ty := 31) (tn := 22) rfl (by decide) rfl rfl (fun (h_1 : nI 1 = 0) => ?_) (fun (h_1 : ¬ (nI 1 = 0)) => ?_)
            · exact absurd h_1 (by decide)
            refine am_run 1 (pc' := 23) (ls' := [some (.ref 41), some (.int (nI 0)), some (.int (nI mk)), some (.int (nI 2)), some (.ref 73)]) (st' := [.int (nI 2)]) (σ' := σ) rfl ?_
            refine am_if (ty := 31) (tn := 26) rfl (by decide) rfl rfl (fun (h_2 : nI 2 < 0) => ?_) (fun (h_2 : ¬ (nI 2 < 0)) => ?_)
            · exact absurd h_2 (by decide)
            refine am_run 2 (pc' := 28) (ls' := [some (.ref 41), some (.int (nI 0)), some (.int (nI mk)), some (.int (nI 2)), some (.ref 73)]) (st' := [.int (nI 2), .int (nI 2)]) (σ' := σ) rfl ?_
            refine am_ic (ty := 31) (tn := 34) rfl (by decide) rfl rfl (fun (h_3 : nI 2 < nI 2) => ?_) (fun (h_3 : ¬ (nI 2 < nI 2)) => ?_)
            · exact absurd h_3 (by decide)
            refine am_run 2 (pc' := 37) (ls' := [some (.ref 41), some (.int (nI 0)), some (.int (nI mk)), some (.int (nI 2)), some (.ref 73)]) (st' := [.ref 73, .ref 41]) (σ' := σ) rfl ?_
            refine am_invv (y := 66) (b := 73) (as := []) (rest := [.ref 41]) rfl rfl rfl rfl rfl rfl rfl (Nat.le_of_ble_eq_true rfl) ?_
            refine am_enter' rfl rfl rfl (by omega) (ls := [some (.ref 73)]) rfl (fun d_4 hd_4 => ?_)
            refine am_run 2 (pc' := 4) (ls' := [some (.ref 73)]) (st' := [.ref (σ.2 73 1)]) (σ' := σ) rfl ?_
            refine am_reta rfl rfl (Or.inr ⟨_, rfl⟩) ?_
            show am_G _ M_X9_states _ 40 [some (.ref 41), some (.int (nI 0)), some (.int (nI mk)), some (.int (nI 2)), some (.ref 73)] [.ref (σ.2 73 1), .ref 41] σ
            refine am_run 1 (pc' := 41) (ls' := [some (.ref 41), some (.int (nI 0)), some (.int (nI mk)), some (.int (nI 2)), some (.ref 73)]) (st' := [.int (nI mk), .ref (σ.2 73 1), .ref 41]) (σ' := σ) rfl ?_
            refine am_invv (y := 145) (b := 41) (as := [.ref (σ.2 73 1), .int (nI mk)]) (rest := []) rfl rfl rfl rfl rfl rfl rfl (Nat.le_of_ble_eq_true rfl) ?_
            refine c_drawChart (by omega) hW hR hrn hro hmk hmv hVo (fun σ1 _ he => absurd (hco.symm.trans he) (fun z => by cases z)) (fun σ1 T1 hK1 he hC1 h41 hl1 hl2 => ?_)
            obtain rfl : T' = T1 := Option.some.inj (hco.symm.trans he)
            show am_G _ M_X9_states _ 44 [some (.ref 41), some (.int (nI 0)), some (.int (nI mk)), some (.int (nI 2)), some (.ref 73)] [.int (nI 1)] σ1
            refine am_if (ty := 47) (tn := 50) rfl (by decide) rfl rfl (fun (h_5 : nI 1 = 0) => ?_) (fun (h_5 : ¬ (nI 1 = 0)) => ?_)
            · exact absurd h_5 (by decide)
            refine am_run 1 (pc' := 51) (ls' := [some (.ref 41), some (.int (nI 0)), some (.int (nI mk)), some (.int (nI 2)), some (.ref 73)]) (st' := [.int (nI 2)]) (σ' := σ1) rfl ?_
            refine am_if (ty := 54) (tn := 62) rfl (by decide) rfl rfl (fun (h_6 : nI 2 = 0) => ?_) (fun (h_6 : ¬ (nI 2 = 0)) => ?_)
            · exact absurd h_6 (by decide)
            refine am_run 2 (pc' := 64) (ls' := [some (.ref 41), some (.int (nI 0)), some (.int (nI mk)), some (.int (nI 2)), some (.ref 73)]) (st' := [.int (nI 1), .int (nI 2)]) (σ' := σ1) rfl ?_
            refine am_ic (ty := 67) (tn := 77) rfl (by decide) rfl rfl (fun (h_7 : nI 2 = nI 1) => ?_) (fun (h_7 : ¬ (nI 2 = nI 1)) => ?_)
            · exact absurd h_7 (by decide)
            refine am_run 2 (pc' := 81) (ls' := [some (.ref 41), some (.int (nI 0)), some (.int (nI mk)), some (.int (nI 2)), some (.ref 73)]) (st' := [.ref 83]) (σ' := σ1) rfl ?_
            refine am_invv (y := 29) (b := 83) (as := []) (rest := []) rfl rfl rfl rfl rfl rfl rfl (Nat.le_of_ble_eq_true rfl) ?_
            refine am_enter' rfl rfl rfl (by omega) (ls := [some (.ref 83)]) rfl (fun d_8 hd_8 => ?_)
            refine am_run 2 (pc' := 4) (ls' := [some (.ref 83)]) (st' := [.int (σ1.1 83 6)]) (σ' := σ1) rfl ?_
            refine am_top (v' := nI T'.2.2.2.2) hC1.2.2.1 ?_
            refine am_reti rfl rfl ?_
            show am_G _ M_X9_states _ 84 [some (.ref 41), some (.int (nI 0)), some (.int (nI mk)), some (.int (nI 2)), some (.ref 73)] [.int (nI T'.2.2.2.2)] σ1
            refine am_reti rfl rfl ?_
            refine ⟨rfl, ?_⟩
            have hM5 := hM.keep2 (σ' := σ1) (fun c a => hK1.1 c (by omega))
            have hn25 := hM5.1.2.2.2.1
            refine am_enter' (M := M_X10_states) rfl rfl rfl (by omega) (ls := [some (.ref 0), some (.int (nI 0)), some (.int (nI mk)), some (.int (nI 2))]) rfl (fun d2 hd2 => ?_)
            refine am_run 2 (pc' := 2) (ls' := [some (.ref 0), some (.int (nI 0)), some (.int (nI mk)), some (.int (nI 2))]) (st' := [.int (nI 0), .ref 0]) (σ' := σ1) rfl ?_
            refine am_invv (y := 151) (b := 0) (as := [.int (nI 0)]) (rest := []) rfl rfl rfl rfl rfl rfl rfl (Nat.le_of_ble_eq_true rfl) ?_
            refine c_prog0_1 (by omega) (n := n) (by exact hn25) hn1 hn60 ?_
            show am_G _ M_X10_states _ 5 [some (.ref 0), some (.int (nI 0)), some (.int (nI mk)), some (.int (nI 2))] [.int (nI 1)] σ1
            refine am_if (ty := 8) (tn := 11) rfl (by decide) rfl rfl (fun (h_101 : nI 1 = 0) => ?_) (fun (h_101 : ¬ (nI 1 = 0)) => ?_)
            · exact absurd h_101 (by decide)
            refine am_run 1 (pc' := 12) (ls' := [some (.ref 0), some (.int (nI 0)), some (.int (nI mk)), some (.int (nI 2))]) (st' := [.int (nI mk)]) (σ' := σ1) rfl ?_
            refine am_invs (y := 240) (as := [.int (nI mk)]) (rest := []) rfl rfl rfl rfl rfl rfl (Nat.le_of_ble_eq_true rfl) ?_
            refine c_mask1_model (by omega) hmk hmv ?_
            show am_G _ M_X10_states _ 15 [some (.ref 0), some (.int (nI 0)), some (.int (nI mk)), some (.int (nI 2))] [.int (nI 1)] σ1
            refine am_if (ty := 27) (tn := 18) rfl (by decide) rfl rfl (fun (h_102 : nI 1 = 0) => ?_) (fun (h_102 : ¬ (nI 1 = 0)) => ?_)
            · exact absurd h_102 (by decide)
            refine am_run 3 (pc' := 21) (ls' := [some (.ref 0), some (.int (nI 0)), some (.int (nI mk)), some (.int (nI 2))]) (st' := [.int (nI 2), .int (nI 0), .int (nI 2)]) (σ' := σ1) rfl ?_
            refine am_invs (y := 148) (as := [.int (nI 2), .int (nI 0), .int (nI 2)]) (rest := []) rfl rfl rfl rfl rfl rfl (Nat.le_of_ble_eq_true rfl) ?_
            refine c_in1 (by omega) (by omega) (by omega) (by omega) ?_
            show am_G _ M_X10_states _ 24 [some (.ref 0), some (.int (nI 0)), some (.int (nI mk)), some (.int (nI 2))] [.int (nI 1)] σ1
            refine am_if (ty := 27) (tn := 30) rfl (by decide) rfl rfl (fun (h_103 : nI 1 = 0) => ?_) (fun (h_103 : ¬ (nI 1 = 0)) => ?_)
            · exact absurd h_103 (by decide)
            refine am_run 3 (pc' := 33) (ls' := [some (.ref 0), some (.int (nI 0)), some (.int (nI mk)), some (.int (nI 2))]) (st' := [.int (nI mk), .int (nI 0), .ref 0]) (σ' := σ1) rfl ?_
            refine am_invv (y := 243) (b := 0) (as := [.int (nI 0), .int (nI mk)]) (rest := []) rfl rfl rfl rfl rfl rfl rfl (Nat.le_of_ble_eq_true rfl) ?_
            refine c_laysStates (by omega) hM5 hmk hmv (fun σ6 _ he => absurd (hco.symm.trans he) (fun z => by cases z)) (fun σ6 T2 hK6 he6 hC6 h496 hl3 hl4 => ?_)
            obtain rfl : T' = T2 := Option.some.inj (hco.symm.trans he6)
            show am_G _ M_X10_states _ 36 [some (.ref 0), some (.int (nI 0)), some (.int (nI mk)), some (.int (nI 2))] [.int (nI 1)] σ6
            refine am_if (ty := 39) (tn := 42) rfl (by decide) rfl rfl (fun (h_104 : nI 1 = 0) => ?_) (fun (h_104 : ¬ (nI 1 = 0)) => ?_)
            · exact absurd h_104 (by decide)
            refine am_run 1 (pc' := 43) (ls' := [some (.ref 0), some (.int (nI 0)), some (.int (nI mk)), some (.int (nI 2))]) (st' := [.int (nI 2)]) (σ' := σ6) rfl ?_
            refine am_if (ty := 46) (tn := 53) rfl (by decide) rfl rfl (fun (h_105 : nI 2 = 0) => ?_) (fun (h_105 : ¬ (nI 2 = 0)) => ?_)
            · exact absurd h_105 (by decide)
            refine am_run 2 (pc' := 55) (ls' := [some (.ref 0), some (.int (nI 0)), some (.int (nI mk)), some (.int (nI 2))]) (st' := [.int (nI 1), .int (nI 2)]) (σ' := σ6) rfl ?_
            refine am_ic (ty := 58) (tn := 71) rfl (by decide) rfl rfl (fun (h_106 : nI 2 = nI 1) => ?_) (fun (h_106 : ¬ (nI 2 = nI 1)) => ?_)
            · exact absurd h_106 (by decide)
            refine am_run 2 (pc' := 75) (ls' := [some (.ref 0), some (.int (nI 0)), some (.int (nI mk)), some (.int (nI 2))]) (st' := [.int (σ6.1 0 54)]) (σ' := σ6) rfl ?_
            refine am_top (v' := nI T'.2.2.2.2) hC6.2.1 ?_
            refine am_reti rfl rfl ?_
            exact ⟨rfl, (hK1.KI.tr hK6.KI).inv hI⟩
      · rcases id hz with hzn | ⟨hz0, hzb⟩
        · skip
          refine ⟨-1000002, ?_⟩
          refine am_enter' (M := M_X9_states) rfl rfl rfl (by omega) (ls := [some (.ref 41), some (.int (nI 0)), some (.int (nI mk)), some (.int z), none]) rfl (fun d' hd' => ?_)
          refine am_run 2 (pc' := 2) (ls' := [some (.ref 41), some (.int (nI 0)), some (.int (nI mk)), some (.int z), none]) (st' := [.int (nI 0), .ref 41]) (σ' := σ) rfl ?_
          refine am_invv (y := 140) (b := 41) (as := [.int (nI 0)]) (rest := []) rfl rfl rfl rfl rfl rfl rfl (Nat.le_of_ble_eq_true rfl) ?_
          refine c_filled0_1 (by omega) hf ?_
          show am_G _ M_X9_states _ 5 [some (.ref 41), some (.int (nI 0)), some (.int (nI mk)), some (.int z), none] [.ref 73] σ
          refine am_run 4 (pc' := 16) (ls' := [some (.ref 41), some (.int (nI 0)), some (.int (nI mk)), some (.int z), some (.ref 73)]) (st' := [.int (nI mk)]) (σ' := σ) rfl ?_
          refine am_invs (y := 142) (as := [.int (nI mk)]) (rest := []) rfl rfl rfl rfl rfl rfl (Nat.le_of_ble_eq_true rfl) ?_
          refine c_mask1_class (by omega) hmk hmv ?_
          show am_G _ M_X9_states _ 19 [some (.ref 41), some (.int (nI 0)), some (.int (nI mk)), some (.int z), some (.ref 73)] [.int (nI 1)] σ
          refine am_if (ty := 31) (tn := 22) rfl (by decide) rfl rfl (fun (h_1 : nI 1 = 0) => ?_) (fun (h_1 : ¬ (nI 1 = 0)) => ?_)
          · exact absurd h_1 (by decide)
          refine am_run 1 (pc' := 23) (ls' := [some (.ref 41), some (.int (nI 0)), some (.int (nI mk)), some (.int z), some (.ref 73)]) (st' := [.int z]) (σ' := σ) rfl ?_
          refine am_if (ty := 31) (tn := 26) rfl (by decide) rfl rfl (fun (h_2 : z < 0) => ?_) (fun (h_2 : ¬ (z < 0)) => ?_)
          rotate_left
          · exact absurd hzn h_2
          refine am_run 1 (pc' := 33) (ls' := [some (.ref 41), some (.int (nI 0)), some (.int (nI mk)), some (.int z), some (.ref 73)]) (st' := [.int (-1000002)]) (σ' := σ) rfl ?_
          refine am_reti rfl rfl ?_
          refine ⟨rfl, ?_⟩
          refine am_enter' (M := M_X10_states) rfl rfl rfl (by omega) (ls := [some (.ref 0), some (.int (nI 0)), some (.int (nI mk)), some (.int z)]) rfl (fun d2 hd2 => ?_)
          refine am_run 2 (pc' := 2) (ls' := [some (.ref 0), some (.int (nI 0)), some (.int (nI mk)), some (.int z)]) (st' := [.int (nI 0), .ref 0]) (σ' := σ) rfl ?_
          refine am_invv (y := 151) (b := 0) (as := [.int (nI 0)]) (rest := []) rfl rfl rfl rfl rfl rfl rfl (Nat.le_of_ble_eq_true rfl) ?_
          refine c_prog0_1 (by omega) (n := n) (by exact hn2) hn1 hn60 ?_
          show am_G _ M_X10_states _ 5 [some (.ref 0), some (.int (nI 0)), some (.int (nI mk)), some (.int z)] [.int (nI 1)] σ
          refine am_if (ty := 8) (tn := 11) rfl (by decide) rfl rfl (fun (h_101 : nI 1 = 0) => ?_) (fun (h_101 : ¬ (nI 1 = 0)) => ?_)
          · exact absurd h_101 (by decide)
          refine am_run 1 (pc' := 12) (ls' := [some (.ref 0), some (.int (nI 0)), some (.int (nI mk)), some (.int z)]) (st' := [.int (nI mk)]) (σ' := σ) rfl ?_
          refine am_invs (y := 240) (as := [.int (nI mk)]) (rest := []) rfl rfl rfl rfl rfl rfl (Nat.le_of_ble_eq_true rfl) ?_
          refine c_mask1_model (by omega) hmk hmv ?_
          show am_G _ M_X10_states _ 15 [some (.ref 0), some (.int (nI 0)), some (.int (nI mk)), some (.int z)] [.int (nI 1)] σ
          refine am_if (ty := 27) (tn := 18) rfl (by decide) rfl rfl (fun (h_102 : nI 1 = 0) => ?_) (fun (h_102 : ¬ (nI 1 = 0)) => ?_)
          · exact absurd h_102 (by decide)
          refine am_run 3 (pc' := 21) (ls' := [some (.ref 0), some (.int (nI 0)), some (.int (nI mk)), some (.int z)]) (st' := [.int (nI 2), .int (nI 0), .int z]) (σ' := σ) rfl ?_
          refine am_invs (y := 148) (as := [.int z, .int (nI 0), .int (nI 2)]) (rest := []) rfl rfl rfl rfl rfl rfl (Nat.le_of_ble_eq_true rfl) ?_
          refine c_in0 (by omega) hz ?_
          show am_G _ M_X10_states _ 24 [some (.ref 0), some (.int (nI 0)), some (.int (nI mk)), some (.int z)] [.int (nI 0)] σ
          refine am_if (ty := 27) (tn := 30) rfl (by decide) rfl rfl (fun (h_103 : nI 0 = 0) => ?_) (fun (h_103 : ¬ (nI 0 = 0)) => ?_)
          rotate_left
          · exact absurd (by decide) h_103
          refine am_run 1 (pc' := 29) (ls' := [some (.ref 0), some (.int (nI 0)), some (.int (nI mk)), some (.int z)]) (st' := [.int (-1000002)]) (σ' := σ) rfl ?_
          refine am_reti rfl rfl ?_
          exact ⟨rfl, hI⟩
        · skip
          refine ⟨-1000002, ?_⟩
          refine am_enter' (M := M_X9_states) rfl rfl rfl (by omega) (ls := [some (.ref 41), some (.int (nI 0)), some (.int (nI mk)), some (.int z), none]) rfl (fun d' hd' => ?_)
          refine am_run 2 (pc' := 2) (ls' := [some (.ref 41), some (.int (nI 0)), some (.int (nI mk)), some (.int z), none]) (st' := [.int (nI 0), .ref 41]) (σ' := σ) rfl ?_
          refine am_invv (y := 140) (b := 41) (as := [.int (nI 0)]) (rest := []) rfl rfl rfl rfl rfl rfl rfl (Nat.le_of_ble_eq_true rfl) ?_
          refine c_filled0_1 (by omega) hf ?_
          show am_G _ M_X9_states _ 5 [some (.ref 41), some (.int (nI 0)), some (.int (nI mk)), some (.int z), none] [.ref 73] σ
          refine am_run 4 (pc' := 16) (ls' := [some (.ref 41), some (.int (nI 0)), some (.int (nI mk)), some (.int z), some (.ref 73)]) (st' := [.int (nI mk)]) (σ' := σ) rfl ?_
          refine am_invs (y := 142) (as := [.int (nI mk)]) (rest := []) rfl rfl rfl rfl rfl rfl (Nat.le_of_ble_eq_true rfl) ?_
          refine c_mask1_class (by omega) hmk hmv ?_
          show am_G _ M_X9_states _ 19 [some (.ref 41), some (.int (nI 0)), some (.int (nI mk)), some (.int z), some (.ref 73)] [.int (nI 1)] σ
          refine am_if (ty := 31) (tn := 22) rfl (by decide) rfl rfl (fun (h_1 : nI 1 = 0) => ?_) (fun (h_1 : ¬ (nI 1 = 0)) => ?_)
          · exact absurd h_1 (by decide)
          refine am_run 1 (pc' := 23) (ls' := [some (.ref 41), some (.int (nI 0)), some (.int (nI mk)), some (.int z), some (.ref 73)]) (st' := [.int z]) (σ' := σ) rfl ?_
          refine am_if (ty := 31) (tn := 26) rfl (by decide) rfl rfl (fun (h_2 : z < 0) => ?_) (fun (h_2 : ¬ (z < 0)) => ?_)
          · exact absurd h_2 hz0
          refine am_run 2 (pc' := 28) (ls' := [some (.ref 41), some (.int (nI 0)), some (.int (nI mk)), some (.int z), some (.ref 73)]) (st' := [.int (nI 2), .int z]) (σ' := σ) rfl ?_
          refine am_ic (ty := 31) (tn := 34) rfl (by decide) rfl rfl (fun (h_3 : nI 2 < z) => ?_) (fun (h_3 : ¬ (nI 2 < z)) => ?_)
          rotate_left
          · exact absurd hzb h_3
          refine am_run 1 (pc' := 33) (ls' := [some (.ref 41), some (.int (nI 0)), some (.int (nI mk)), some (.int z), some (.ref 73)]) (st' := [.int (-1000002)]) (σ' := σ) rfl ?_
          refine am_reti rfl rfl ?_
          refine ⟨rfl, ?_⟩
          refine am_enter' (M := M_X10_states) rfl rfl rfl (by omega) (ls := [some (.ref 0), some (.int (nI 0)), some (.int (nI mk)), some (.int z)]) rfl (fun d2 hd2 => ?_)
          refine am_run 2 (pc' := 2) (ls' := [some (.ref 0), some (.int (nI 0)), some (.int (nI mk)), some (.int z)]) (st' := [.int (nI 0), .ref 0]) (σ' := σ) rfl ?_
          refine am_invv (y := 151) (b := 0) (as := [.int (nI 0)]) (rest := []) rfl rfl rfl rfl rfl rfl rfl (Nat.le_of_ble_eq_true rfl) ?_
          refine c_prog0_1 (by omega) (n := n) (by exact hn2) hn1 hn60 ?_
          show am_G _ M_X10_states _ 5 [some (.ref 0), some (.int (nI 0)), some (.int (nI mk)), some (.int z)] [.int (nI 1)] σ
          refine am_if (ty := 8) (tn := 11) rfl (by decide) rfl rfl (fun (h_101 : nI 1 = 0) => ?_) (fun (h_101 : ¬ (nI 1 = 0)) => ?_)
          · exact absurd h_101 (by decide)
          refine am_run 1 (pc' := 12) (ls' := [some (.ref 0), some (.int (nI 0)), some (.int (nI mk)), some (.int z)]) (st' := [.int (nI mk)]) (σ' := σ) rfl ?_
          refine am_invs (y := 240) (as := [.int (nI mk)]) (rest := []) rfl rfl rfl rfl rfl rfl (Nat.le_of_ble_eq_true rfl) ?_
          refine c_mask1_model (by omega) hmk hmv ?_
          show am_G _ M_X10_states _ 15 [some (.ref 0), some (.int (nI 0)), some (.int (nI mk)), some (.int z)] [.int (nI 1)] σ
          refine am_if (ty := 27) (tn := 18) rfl (by decide) rfl rfl (fun (h_102 : nI 1 = 0) => ?_) (fun (h_102 : ¬ (nI 1 = 0)) => ?_)
          · exact absurd h_102 (by decide)
          refine am_run 3 (pc' := 21) (ls' := [some (.ref 0), some (.int (nI 0)), some (.int (nI mk)), some (.int z)]) (st' := [.int (nI 2), .int (nI 0), .int z]) (σ' := σ) rfl ?_
          refine am_invs (y := 148) (as := [.int z, .int (nI 0), .int (nI 2)]) (rest := []) rfl rfl rfl rfl rfl rfl (Nat.le_of_ble_eq_true rfl) ?_
          refine c_in0 (by omega) hz ?_
          show am_G _ M_X10_states _ 24 [some (.ref 0), some (.int (nI 0)), some (.int (nI mk)), some (.int z)] [.int (nI 0)] σ
          refine am_if (ty := 27) (tn := 30) rfl (by decide) rfl rfl (fun (h_103 : nI 0 = 0) => ?_) (fun (h_103 : ¬ (nI 0 = 0)) => ?_)
          rotate_left
          · exact absurd (by decide) h_103
          refine am_run 1 (pc' := 29) (ls' := [some (.ref 0), some (.int (nI 0)), some (.int (nI mk)), some (.int z)]) (st' := [.int (-1000002)]) (σ' := σ) rfl ?_
          refine am_reti rfl rfl ?_
          exact ⟨rfl, hI⟩
    · skip
      refine ⟨-1000002, ?_⟩
      refine am_enter' (M := M_X9_states) rfl rfl rfl (by omega) (ls := [some (.ref 41), some (.int (nI 0)), some (.int y), some (.int z), none]) rfl (fun d' hd' => ?_)
      refine am_run 2 (pc' := 2) (ls' := [some (.ref 41), some (.int (nI 0)), some (.int y), some (.int z), none]) (st' := [.int (nI 0), .ref 41]) (σ' := σ) rfl ?_
      refine am_invv (y := 140) (b := 41) (as := [.int (nI 0)]) (rest := []) rfl rfl rfl rfl rfl rfl rfl (Nat.le_of_ble_eq_true rfl) ?_
      refine c_filled0_1 (by omega) hf ?_
      show am_G _ M_X9_states _ 5 [some (.ref 41), some (.int (nI 0)), some (.int y), some (.int z), none] [.ref 73] σ
      refine am_run 4 (pc' := 16) (ls' := [some (.ref 41), some (.int (nI 0)), some (.int y), some (.int z), some (.ref 73)]) (st' := [.int y]) (σ' := σ) rfl ?_
      refine am_invs (y := 142) (as := [.int y]) (rest := []) rfl rfl rfl rfl rfl rfl (Nat.le_of_ble_eq_true rfl) ?_
      refine c_mask0_class (by omega) hNM ?_
      show am_G _ M_X9_states _ 19 [some (.ref 41), some (.int (nI 0)), some (.int y), some (.int z), some (.ref 73)] [.int (nI 0)] σ
      refine am_if (ty := 31) (tn := 22) rfl (by decide) rfl rfl (fun (h_1 : nI 0 = 0) => ?_) (fun (h_1 : ¬ (nI 0 = 0)) => ?_)
      rotate_left
      · exact absurd (by decide) h_1
      refine am_run 1 (pc' := 33) (ls' := [some (.ref 41), some (.int (nI 0)), some (.int y), some (.int z), some (.ref 73)]) (st' := [.int (-1000002)]) (σ' := σ) rfl ?_
      refine am_reti rfl rfl ?_
      refine ⟨rfl, ?_⟩
      refine am_enter' (M := M_X10_states) rfl rfl rfl (by omega) (ls := [some (.ref 0), some (.int (nI 0)), some (.int y), some (.int z)]) rfl (fun d2 hd2 => ?_)
      refine am_run 2 (pc' := 2) (ls' := [some (.ref 0), some (.int (nI 0)), some (.int y), some (.int z)]) (st' := [.int (nI 0), .ref 0]) (σ' := σ) rfl ?_
      refine am_invv (y := 151) (b := 0) (as := [.int (nI 0)]) (rest := []) rfl rfl rfl rfl rfl rfl rfl (Nat.le_of_ble_eq_true rfl) ?_
      refine c_prog0_1 (by omega) (n := n) (by exact hn2) hn1 hn60 ?_
      show am_G _ M_X10_states _ 5 [some (.ref 0), some (.int (nI 0)), some (.int y), some (.int z)] [.int (nI 1)] σ
      refine am_if (ty := 8) (tn := 11) rfl (by decide) rfl rfl (fun (h_101 : nI 1 = 0) => ?_) (fun (h_101 : ¬ (nI 1 = 0)) => ?_)
      · exact absurd h_101 (by decide)
      refine am_run 1 (pc' := 12) (ls' := [some (.ref 0), some (.int (nI 0)), some (.int y), some (.int z)]) (st' := [.int y]) (σ' := σ) rfl ?_
      refine am_invs (y := 240) (as := [.int y]) (rest := []) rfl rfl rfl rfl rfl rfl (Nat.le_of_ble_eq_true rfl) ?_
      refine c_mask0_model (by omega) hNM ?_
      show am_G _ M_X10_states _ 15 [some (.ref 0), some (.int (nI 0)), some (.int y), some (.int z)] [.int (nI 0)] σ
      refine am_if (ty := 27) (tn := 18) rfl (by decide) rfl rfl (fun (h_102 : nI 0 = 0) => ?_) (fun (h_102 : ¬ (nI 0 = 0)) => ?_)
      rotate_left
      · exact absurd (by decide) h_102
      refine am_run 1 (pc' := 29) (ls' := [some (.ref 0), some (.int (nI 0)), some (.int y), some (.int z)]) (st' := [.int (-1000002)]) (σ' := σ) rfl ?_
      refine am_reti rfl rfl ?_
      exact ⟨rfl, hI⟩
  · obtain ⟨hf, p, n, r, kk, rk, od, dp, ow, s, m, hP, hH⟩ := hF
    obtain ⟨hn1, hR, hro, hM, hk1, hk2, hkk, hND⟩ := id hP
    obtain ⟨a3, b3, hv, a4, b4, hm, hh⟩ := id hH
    have hW := hM.1.2.1
    have hn60 := hW.1
    have hs := hv.1
    have hrn : r < n := hM.2.1.2.1
    have hn2 := hM.1.2.2.2.1
    rcases mk_cases y with ⟨mk, hmk, rfl, hmv⟩ | hNM
    · have h8 := ((mk_f mk hmk).2 hmv.2).1
      have hpl := hmv.2
      have hVo := fun s u (hu : u < 256) => oc_vs hM s hu
      rcases i32_in z (k := 2) (by decide) with ⟨wh, hwh, rfl⟩ | hz
      · cases hco : ch_out p (r + 1) mk 100 0 (1, up1 z0 0 1048576, z0, z0, 0) with
        | none =>
          rcases (show wh = 0 ∨ wh = 1 ∨ wh = 2 by omega) with rfl | rfl | rfl
          · skip
            refine ⟨-1000004, ?_⟩
            refine am_enter' (M := M_X9_states) rfl rfl rfl (by omega) (ls := [some (.ref 41), some (.int (nI 1)), some (.int (nI mk)), some (.int (nI 0)), none]) rfl (fun d' hd' => ?_)
            refine am_run 2 (pc' := 2) (ls' := [some (.ref 41), some (.int (nI 1)), some (.int (nI mk)), some (.int (nI 0)), none]) (st' := [.int (nI 1), .ref 41]) (σ' := σ) rfl ?_
            refine am_invv (y := 140) (b := 41) (as := [.int (nI 1)]) (rest := []) rfl rfl rfl rfl rfl rfl rfl (Nat.le_of_ble_eq_true rfl) ?_
            refine c_filled1_1 (by omega) hf ?_
            show am_G _ M_X9_states _ 5 [some (.ref 41), some (.int (nI 1)), some (.int (nI mk)), some (.int (nI 0)), none] [.ref 75] σ
            refine am_run 4 (pc' := 16) (ls' := [some (.ref 41), some (.int (nI 1)), some (.int (nI mk)), some (.int (nI 0)), some (.ref 75)]) (st' := [.int (nI mk)]) (σ' := σ) rfl ?_
            refine am_invs (y := 142) (as := [.int (nI mk)]) (rest := []) rfl rfl rfl rfl rfl rfl (Nat.le_of_ble_eq_true rfl) ?_
            refine c_mask1_class (by omega) hmk hmv ?_
            show am_G _ M_X9_states _ 19 [some (.ref 41), some (.int (nI 1)), some (.int (nI mk)), some (.int (nI 0)), some (.ref 75)] [.int (nI 1)] σ
            refine am_if (ty := 31) (tn := 22) rfl (by decide) rfl rfl (fun (h_1 : nI 1 = 0) => ?_) (fun (h_1 : ¬ (nI 1 = 0)) => ?_)
            · exact absurd h_1 (by decide)
            refine am_run 1 (pc' := 23) (ls' := [some (.ref 41), some (.int (nI 1)), some (.int (nI mk)), some (.int (nI 0)), some (.ref 75)]) (st' := [.int (nI 0)]) (σ' := σ) rfl ?_
            refine am_if (ty := 31) (tn := 26) rfl (by decide) rfl rfl (fun (h_2 : nI 0 < 0) => ?_) (fun (h_2 : ¬ (nI 0 < 0)) => ?_)
            · exact absurd h_2 (by decide)
            refine am_run 2 (pc' := 28) (ls' := [some (.ref 41), some (.int (nI 1)), some (.int (nI mk)), some (.int (nI 0)), some (.ref 75)]) (st' := [.int (nI 2), .int (nI 0)]) (σ' := σ) rfl ?_
            refine am_ic (ty := 31) (tn := 34) rfl (by decide) rfl rfl (fun (h_3 : nI 2 < nI 0) => ?_) (fun (h_3 : ¬ (nI 2 < nI 0)) => ?_)
            · exact absurd h_3 (by decide)
            refine am_run 2 (pc' := 37) (ls' := [some (.ref 41), some (.int (nI 1)), some (.int (nI mk)), some (.int (nI 0)), some (.ref 75)]) (st' := [.ref 75, .ref 41]) (σ' := σ) rfl ?_
            refine am_invv (y := 66) (b := 75) (as := []) (rest := [.ref 41]) rfl rfl rfl rfl rfl rfl rfl (Nat.le_of_ble_eq_true rfl) ?_
            refine am_enter' rfl rfl rfl (by omega) (ls := [some (.ref 75)]) rfl (fun d_4 hd_4 => ?_)
            refine am_run 2 (pc' := 4) (ls' := [some (.ref 75)]) (st' := [.ref (σ.2 75 1)]) (σ' := σ) rfl ?_
            refine am_reta rfl rfl (Or.inr ⟨_, rfl⟩) ?_
            show am_G _ M_X9_states _ 40 [some (.ref 41), some (.int (nI 1)), some (.int (nI mk)), some (.int (nI 0)), some (.ref 75)] [.ref (σ.2 75 1), .ref 41] σ
            refine am_run 1 (pc' := 41) (ls' := [some (.ref 41), some (.int (nI 1)), some (.int (nI mk)), some (.int (nI 0)), some (.ref 75)]) (st' := [.int (nI mk), .ref (σ.2 75 1), .ref 41]) (σ' := σ) rfl ?_
            refine am_invv (y := 145) (b := 41) (as := [.ref (σ.2 75 1), .int (nI mk)]) (rest := []) rfl rfl rfl rfl rfl rfl rfl (Nat.le_of_ble_eq_true rfl) ?_
            refine c_drawChart (by omega) hW hR hrn hro hmk hmv hVo (fun σ1 hK1 _ => ?_) (fun σ1 T1 _ he => absurd (hco.symm.trans he) (fun z => by cases z))
            show am_G _ M_X9_states _ 44 [some (.ref 41), some (.int (nI 1)), some (.int (nI mk)), some (.int (nI 0)), some (.ref 75)] [.int (nI 0)] σ1
            refine am_if (ty := 47) (tn := 50) rfl (by decide) rfl rfl (fun (h_5 : nI 0 = 0) => ?_) (fun (h_5 : ¬ (nI 0 = 0)) => ?_)
            rotate_left
            · exact absurd (by decide) h_5
            refine am_run 1 (pc' := 49) (ls' := [some (.ref 41), some (.int (nI 1)), some (.int (nI mk)), some (.int (nI 0)), some (.ref 75)]) (st' := [.int (-1000004)]) (σ' := σ1) rfl ?_
            refine am_reti rfl rfl ?_
            refine ⟨rfl, ?_⟩
            have hM5 := hM.keep2 (σ' := σ1) (fun c a => hK1.1 c (by omega))
            have hn25 := hM5.1.2.2.2.1
            refine am_enter' (M := M_X10_states) rfl rfl rfl (by omega) (ls := [some (.ref 0), some (.int (nI 1)), some (.int (nI mk)), some (.int (nI 0))]) rfl (fun d2 hd2 => ?_)
            refine am_run 2 (pc' := 2) (ls' := [some (.ref 0), some (.int (nI 1)), some (.int (nI mk)), some (.int (nI 0))]) (st' := [.int (nI 1), .ref 0]) (σ' := σ1) rfl ?_
            refine am_invv (y := 151) (b := 0) (as := [.int (nI 1)]) (rest := []) rfl rfl rfl rfl rfl rfl rfl (Nat.le_of_ble_eq_true rfl) ?_
            refine c_prog1_1 (by omega) (n := n) (by exact hn25) hn1 hn60 ?_
            show am_G _ M_X10_states _ 5 [some (.ref 0), some (.int (nI 1)), some (.int (nI mk)), some (.int (nI 0))] [.int (nI 1)] σ1
            refine am_if (ty := 8) (tn := 11) rfl (by decide) rfl rfl (fun (h_101 : nI 1 = 0) => ?_) (fun (h_101 : ¬ (nI 1 = 0)) => ?_)
            · exact absurd h_101 (by decide)
            refine am_run 1 (pc' := 12) (ls' := [some (.ref 0), some (.int (nI 1)), some (.int (nI mk)), some (.int (nI 0))]) (st' := [.int (nI mk)]) (σ' := σ1) rfl ?_
            refine am_invs (y := 240) (as := [.int (nI mk)]) (rest := []) rfl rfl rfl rfl rfl rfl (Nat.le_of_ble_eq_true rfl) ?_
            refine c_mask1_model (by omega) hmk hmv ?_
            show am_G _ M_X10_states _ 15 [some (.ref 0), some (.int (nI 1)), some (.int (nI mk)), some (.int (nI 0))] [.int (nI 1)] σ1
            refine am_if (ty := 27) (tn := 18) rfl (by decide) rfl rfl (fun (h_102 : nI 1 = 0) => ?_) (fun (h_102 : ¬ (nI 1 = 0)) => ?_)
            · exact absurd h_102 (by decide)
            refine am_run 3 (pc' := 21) (ls' := [some (.ref 0), some (.int (nI 1)), some (.int (nI mk)), some (.int (nI 0))]) (st' := [.int (nI 2), .int (nI 0), .int (nI 0)]) (σ' := σ1) rfl ?_
            refine am_invs (y := 148) (as := [.int (nI 0), .int (nI 0), .int (nI 2)]) (rest := []) rfl rfl rfl rfl rfl rfl (Nat.le_of_ble_eq_true rfl) ?_
            refine c_in1 (by omega) (by omega) (by omega) (by omega) ?_
            show am_G _ M_X10_states _ 24 [some (.ref 0), some (.int (nI 1)), some (.int (nI mk)), some (.int (nI 0))] [.int (nI 1)] σ1
            refine am_if (ty := 27) (tn := 30) rfl (by decide) rfl rfl (fun (h_103 : nI 1 = 0) => ?_) (fun (h_103 : ¬ (nI 1 = 0)) => ?_)
            · exact absurd h_103 (by decide)
            refine am_run 3 (pc' := 33) (ls' := [some (.ref 0), some (.int (nI 1)), some (.int (nI mk)), some (.int (nI 0))]) (st' := [.int (nI mk), .int (nI 1), .ref 0]) (σ' := σ1) rfl ?_
            refine am_invv (y := 243) (b := 0) (as := [.int (nI 1), .int (nI mk)]) (rest := []) rfl rfl rfl rfl rfl rfl rfl (Nat.le_of_ble_eq_true rfl) ?_
            refine c_laysStates (by omega) hM5 hmk hmv (fun σ6 hK6 _ => ?_) (fun σ6 T1 _ he => absurd (hco.symm.trans he) (fun z => by cases z))
            show am_G _ M_X10_states _ 36 [some (.ref 0), some (.int (nI 1)), some (.int (nI mk)), some (.int (nI 0))] [.int (nI 0)] σ6
            refine am_if (ty := 39) (tn := 42) rfl (by decide) rfl rfl (fun (h_104 : nI 0 = 0) => ?_) (fun (h_104 : ¬ (nI 0 = 0)) => ?_)
            rotate_left
            · exact absurd (by decide) h_104
            refine am_run 1 (pc' := 41) (ls' := [some (.ref 0), some (.int (nI 1)), some (.int (nI mk)), some (.int (nI 0))]) (st' := [.int (-1000004)]) (σ' := σ6) rfl ?_
            refine am_reti rfl rfl ?_
            exact ⟨rfl, (hK1.KI.tr hK6.KI).inv hI⟩
          · skip
            refine ⟨-1000004, ?_⟩
            refine am_enter' (M := M_X9_states) rfl rfl rfl (by omega) (ls := [some (.ref 41), some (.int (nI 1)), some (.int (nI mk)), some (.int (nI 1)), none]) rfl (fun d' hd' => ?_)
            refine am_run 2 (pc' := 2) (ls' := [some (.ref 41), some (.int (nI 1)), some (.int (nI mk)), some (.int (nI 1)), none]) (st' := [.int (nI 1), .ref 41]) (σ' := σ) rfl ?_
            refine am_invv (y := 140) (b := 41) (as := [.int (nI 1)]) (rest := []) rfl rfl rfl rfl rfl rfl rfl (Nat.le_of_ble_eq_true rfl) ?_
            refine c_filled1_1 (by omega) hf ?_
            show am_G _ M_X9_states _ 5 [some (.ref 41), some (.int (nI 1)), some (.int (nI mk)), some (.int (nI 1)), none] [.ref 75] σ
            refine am_run 4 (pc' := 16) (ls' := [some (.ref 41), some (.int (nI 1)), some (.int (nI mk)), some (.int (nI 1)), some (.ref 75)]) (st' := [.int (nI mk)]) (σ' := σ) rfl ?_
            refine am_invs (y := 142) (as := [.int (nI mk)]) (rest := []) rfl rfl rfl rfl rfl rfl (Nat.le_of_ble_eq_true rfl) ?_
            refine c_mask1_class (by omega) hmk hmv ?_
            show am_G _ M_X9_states _ 19 [some (.ref 41), some (.int (nI 1)), some (.int (nI mk)), some (.int (nI 1)), some (.ref 75)] [.int (nI 1)] σ
            refine am_if (ty := 31) (tn := 22) rfl (by decide) rfl rfl (fun (h_1 : nI 1 = 0) => ?_) (fun (h_1 : ¬ (nI 1 = 0)) => ?_)
            · exact absurd h_1 (by decide)
            refine am_run 1 (pc' := 23) (ls' := [some (.ref 41), some (.int (nI 1)), some (.int (nI mk)), some (.int (nI 1)), some (.ref 75)]) (st' := [.int (nI 1)]) (σ' := σ) rfl ?_
            refine am_if (ty := 31) (tn := 26) rfl (by decide) rfl rfl (fun (h_2 : nI 1 < 0) => ?_) (fun (h_2 : ¬ (nI 1 < 0)) => ?_)
            · exact absurd h_2 (by decide)
            refine am_run 2 (pc' := 28) (ls' := [some (.ref 41), some (.int (nI 1)), some (.int (nI mk)), some (.int (nI 1)), some (.ref 75)]) (st' := [.int (nI 2), .int (nI 1)]) (σ' := σ) rfl ?_
            refine am_ic (ty := 31) (tn := 34) rfl (by decide) rfl rfl (fun (h_3 : nI 2 < nI 1) => ?_) (fun (h_3 : ¬ (nI 2 < nI 1)) => ?_)
            · exact absurd h_3 (by decide)
            refine am_run 2 (pc' := 37) (ls' := [some (.ref 41), some (.int (nI 1)), some (.int (nI mk)), some (.int (nI 1)), some (.ref 75)]) (st' := [.ref 75, .ref 41]) (σ' := σ) rfl ?_
            refine am_invv (y := 66) (b := 75) (as := []) (rest := [.ref 41]) rfl rfl rfl rfl rfl rfl rfl (Nat.le_of_ble_eq_true rfl) ?_
            refine am_enter' rfl rfl rfl (by omega) (ls := [some (.ref 75)]) rfl (fun d_4 hd_4 => ?_)
            refine am_run 2 (pc' := 4) (ls' := [some (.ref 75)]) (st' := [.ref (σ.2 75 1)]) (σ' := σ) rfl ?_
            refine am_reta rfl rfl (Or.inr ⟨_, rfl⟩) ?_
            show am_G _ M_X9_states _ 40 [some (.ref 41), some (.int (nI 1)), some (.int (nI mk)), some (.int (nI 1)), some (.ref 75)] [.ref (σ.2 75 1), .ref 41] σ
            refine am_run 1 (pc' := 41) (ls' := [some (.ref 41), some (.int (nI 1)), some (.int (nI mk)), some (.int (nI 1)), some (.ref 75)]) (st' := [.int (nI mk), .ref (σ.2 75 1), .ref 41]) (σ' := σ) rfl ?_
            refine am_invv (y := 145) (b := 41) (as := [.ref (σ.2 75 1), .int (nI mk)]) (rest := []) rfl rfl rfl rfl rfl rfl rfl (Nat.le_of_ble_eq_true rfl) ?_
            refine c_drawChart (by omega) hW hR hrn hro hmk hmv hVo (fun σ1 hK1 _ => ?_) (fun σ1 T1 _ he => absurd (hco.symm.trans he) (fun z => by cases z))
            show am_G _ M_X9_states _ 44 [some (.ref 41), some (.int (nI 1)), some (.int (nI mk)), some (.int (nI 1)), some (.ref 75)] [.int (nI 0)] σ1
            refine am_if (ty := 47) (tn := 50) rfl (by decide) rfl rfl (fun (h_5 : nI 0 = 0) => ?_) (fun (h_5 : ¬ (nI 0 = 0)) => ?_)
            rotate_left
            · exact absurd (by decide) h_5
            refine am_run 1 (pc' := 49) (ls' := [some (.ref 41), some (.int (nI 1)), some (.int (nI mk)), some (.int (nI 1)), some (.ref 75)]) (st' := [.int (-1000004)]) (σ' := σ1) rfl ?_
            refine am_reti rfl rfl ?_
            refine ⟨rfl, ?_⟩
            have hM5 := hM.keep2 (σ' := σ1) (fun c a => hK1.1 c (by omega))
            have hn25 := hM5.1.2.2.2.1
            refine am_enter' (M := M_X10_states) rfl rfl rfl (by omega) (ls := [some (.ref 0), some (.int (nI 1)), some (.int (nI mk)), some (.int (nI 1))]) rfl (fun d2 hd2 => ?_)
            refine am_run 2 (pc' := 2) (ls' := [some (.ref 0), some (.int (nI 1)), some (.int (nI mk)), some (.int (nI 1))]) (st' := [.int (nI 1), .ref 0]) (σ' := σ1) rfl ?_
            refine am_invv (y := 151) (b := 0) (as := [.int (nI 1)]) (rest := []) rfl rfl rfl rfl rfl rfl rfl (Nat.le_of_ble_eq_true rfl) ?_
            refine c_prog1_1 (by omega) (n := n) (by exact hn25) hn1 hn60 ?_
            show am_G _ M_X10_states _ 5 [some (.ref 0), some (.int (nI 1)), some (.int (nI mk)), some (.int (nI 1))] [.int (nI 1)] σ1
            refine am_if (ty := 8) (tn := 11) rfl (by decide) rfl rfl (fun (h_101 : nI 1 = 0) => ?_) (fun (h_101 : ¬ (nI 1 = 0)) => ?_)
            · exact absurd h_101 (by decide)
            refine am_run 1 (pc' := 12) (ls' := [some (.ref 0), some (.int (nI 1)), some (.int (nI mk)), some (.int (nI 1))]) (st' := [.int (nI mk)]) (σ' := σ1) rfl ?_
            refine am_invs (y := 240) (as := [.int (nI mk)]) (rest := []) rfl rfl rfl rfl rfl rfl (Nat.le_of_ble_eq_true rfl) ?_
            refine c_mask1_model (by omega) hmk hmv ?_
            show am_G _ M_X10_states _ 15 [some (.ref 0), some (.int (nI 1)), some (.int (nI mk)), some (.int (nI 1))] [.int (nI 1)] σ1
            refine am_if (ty := 27) (tn := 18) rfl (by decide) rfl rfl (fun (h_102 : nI 1 = 0) => ?_) (fun (h_102 : ¬ (nI 1 = 0)) => ?_)
            · exact absurd h_102 (by decide)
            refine am_run 3 (pc' := 21) (ls' := [some (.ref 0), some (.int (nI 1)), some (.int (nI mk)), some (.int (nI 1))]) (st' := [.int (nI 2), .int (nI 0), .int (nI 1)]) (σ' := σ1) rfl ?_
            refine am_invs (y := 148) (as := [.int (nI 1), .int (nI 0), .int (nI 2)]) (rest := []) rfl rfl rfl rfl rfl rfl (Nat.le_of_ble_eq_true rfl) ?_
            refine c_in1 (by omega) (by omega) (by omega) (by omega) ?_
            show am_G _ M_X10_states _ 24 [some (.ref 0), some (.int (nI 1)), some (.int (nI mk)), some (.int (nI 1))] [.int (nI 1)] σ1
            refine am_if (ty := 27) (tn := 30) rfl (by decide) rfl rfl (fun (h_103 : nI 1 = 0) => ?_) (fun (h_103 : ¬ (nI 1 = 0)) => ?_)
            · exact absurd h_103 (by decide)
            refine am_run 3 (pc' := 33) (ls' := [some (.ref 0), some (.int (nI 1)), some (.int (nI mk)), some (.int (nI 1))]) (st' := [.int (nI mk), .int (nI 1), .ref 0]) (σ' := σ1) rfl ?_
            refine am_invv (y := 243) (b := 0) (as := [.int (nI 1), .int (nI mk)]) (rest := []) rfl rfl rfl rfl rfl rfl rfl (Nat.le_of_ble_eq_true rfl) ?_
            refine c_laysStates (by omega) hM5 hmk hmv (fun σ6 hK6 _ => ?_) (fun σ6 T1 _ he => absurd (hco.symm.trans he) (fun z => by cases z))
            show am_G _ M_X10_states _ 36 [some (.ref 0), some (.int (nI 1)), some (.int (nI mk)), some (.int (nI 1))] [.int (nI 0)] σ6
            refine am_if (ty := 39) (tn := 42) rfl (by decide) rfl rfl (fun (h_104 : nI 0 = 0) => ?_) (fun (h_104 : ¬ (nI 0 = 0)) => ?_)
            rotate_left
            · exact absurd (by decide) h_104
            refine am_run 1 (pc' := 41) (ls' := [some (.ref 0), some (.int (nI 1)), some (.int (nI mk)), some (.int (nI 1))]) (st' := [.int (-1000004)]) (σ' := σ6) rfl ?_
            refine am_reti rfl rfl ?_
            exact ⟨rfl, (hK1.KI.tr hK6.KI).inv hI⟩
          · skip
            refine ⟨-1000004, ?_⟩
            refine am_enter' (M := M_X9_states) rfl rfl rfl (by omega) (ls := [some (.ref 41), some (.int (nI 1)), some (.int (nI mk)), some (.int (nI 2)), none]) rfl (fun d' hd' => ?_)
            refine am_run 2 (pc' := 2) (ls' := [some (.ref 41), some (.int (nI 1)), some (.int (nI mk)), some (.int (nI 2)), none]) (st' := [.int (nI 1), .ref 41]) (σ' := σ) rfl ?_
            refine am_invv (y := 140) (b := 41) (as := [.int (nI 1)]) (rest := []) rfl rfl rfl rfl rfl rfl rfl (Nat.le_of_ble_eq_true rfl) ?_
            refine c_filled1_1 (by omega) hf ?_
            show am_G _ M_X9_states _ 5 [some (.ref 41), some (.int (nI 1)), some (.int (nI mk)), some (.int (nI 2)), none] [.ref 75] σ
            refine am_run 4 (pc' := 16) (ls' := [some (.ref 41), some (.int (nI 1)), some (.int (nI mk)), some (.int (nI 2)), some (.ref 75)]) (st' := [.int (nI mk)]) (σ' := σ) rfl ?_
            refine am_invs (y := 142) (as := [.int (nI mk)]) (rest := []) rfl rfl rfl rfl rfl rfl (Nat.le_of_ble_eq_true rfl) ?_
            refine c_mask1_class (by omega) hmk hmv ?_
            show am_G _ M_X9_states _ 19 [some (.ref 41), some (.int (nI 1)), some (.int (nI mk)), some (.int (nI 2)), some (.ref 75)] [.int (nI 1)] σ
            refine am_if (ty := 31) (tn := 22) rfl (by decide) rfl rfl (fun (h_1 : nI 1 = 0) => ?_) (fun (h_1 : ¬ (nI 1 = 0)) => ?_)
            · exact absurd h_1 (by decide)
            refine am_run 1 (pc' := 23) (ls' := [some (.ref 41), some (.int (nI 1)), some (.int (nI mk)), some (.int (nI 2)), some (.ref 75)]) (st' := [.int (nI 2)]) (σ' := σ) rfl ?_
            refine am_if (ty := 31) (tn := 26) rfl (by decide) rfl rfl (fun (h_2 : nI 2 < 0) => ?_) (fun (h_2 : ¬ (nI 2 < 0)) => ?_)
            · exact absurd h_2 (by decide)
            refine am_run 2 (pc' := 28) (ls' := [some (.ref 41), some (.int (nI 1)), some (.int (nI mk)), some (.int (nI 2)), some (.ref 75)]) (st' := [.int (nI 2), .int (nI 2)]) (σ' := σ) rfl ?_
            refine am_ic (ty := 31) (tn := 34) rfl (by decide) rfl rfl (fun (h_3 : nI 2 < nI 2) => ?_) (fun (h_3 : ¬ (nI 2 < nI 2)) => ?_)
            · exact absurd h_3 (by decide)
            refine am_run 2 (pc' := 37) (ls' := [some (.ref 41), some (.int (nI 1)), some (.int (nI mk)), some (.int (nI 2)), some (.ref 75)]) (st' := [.ref 75, .ref 41]) (σ' := σ) rfl ?_
            refine am_invv (y := 66) (b := 75) (as := []) (rest := [.ref 41]) rfl rfl rfl rfl rfl rfl rfl (Nat.le_of_ble_eq_true rfl) ?_
            refine am_enter' rfl rfl rfl (by omega) (ls := [some (.ref 75)]) rfl (fun d_4 hd_4 => ?_)
            refine am_run 2 (pc' := 4) (ls' := [some (.ref 75)]) (st' := [.ref (σ.2 75 1)]) (σ' := σ) rfl ?_
            refine am_reta rfl rfl (Or.inr ⟨_, rfl⟩) ?_
            show am_G _ M_X9_states _ 40 [some (.ref 41), some (.int (nI 1)), some (.int (nI mk)), some (.int (nI 2)), some (.ref 75)] [.ref (σ.2 75 1), .ref 41] σ
            refine am_run 1 (pc' := 41) (ls' := [some (.ref 41), some (.int (nI 1)), some (.int (nI mk)), some (.int (nI 2)), some (.ref 75)]) (st' := [.int (nI mk), .ref (σ.2 75 1), .ref 41]) (σ' := σ) rfl ?_
            refine am_invv (y := 145) (b := 41) (as := [.ref (σ.2 75 1), .int (nI mk)]) (rest := []) rfl rfl rfl rfl rfl rfl rfl (Nat.le_of_ble_eq_true rfl) ?_
            refine c_drawChart (by omega) hW hR hrn hro hmk hmv hVo (fun σ1 hK1 _ => ?_) (fun σ1 T1 _ he => absurd (hco.symm.trans he) (fun z => by cases z))
            show am_G _ M_X9_states _ 44 [some (.ref 41), some (.int (nI 1)), some (.int (nI mk)), some (.int (nI 2)), some (.ref 75)] [.int (nI 0)] σ1
            refine am_if (ty := 47) (tn := 50) rfl (by decide) rfl rfl (fun (h_5 : nI 0 = 0) => ?_) (fun (h_5 : ¬ (nI 0 = 0)) => ?_)
            rotate_left
            · exact absurd (by decide) h_5
            refine am_run 1 (pc' := 49) (ls' := [some (.ref 41), some (.int (nI 1)), some (.int (nI mk)), some (.int (nI 2)), some (.ref 75)]) (st' := [.int (-1000004)]) (σ' := σ1) rfl ?_
            refine am_reti rfl rfl ?_
            refine ⟨rfl, ?_⟩
            have hM5 := hM.keep2 (σ' := σ1) (fun c a => hK1.1 c (by omega))
            have hn25 := hM5.1.2.2.2.1
            refine am_enter' (M := M_X10_states) rfl rfl rfl (by omega) (ls := [some (.ref 0), some (.int (nI 1)), some (.int (nI mk)), some (.int (nI 2))]) rfl (fun d2 hd2 => ?_)
            refine am_run 2 (pc' := 2) (ls' := [some (.ref 0), some (.int (nI 1)), some (.int (nI mk)), some (.int (nI 2))]) (st' := [.int (nI 1), .ref 0]) (σ' := σ1) rfl ?_
            refine am_invv (y := 151) (b := 0) (as := [.int (nI 1)]) (rest := []) rfl rfl rfl rfl rfl rfl rfl (Nat.le_of_ble_eq_true rfl) ?_
            refine c_prog1_1 (by omega) (n := n) (by exact hn25) hn1 hn60 ?_
            show am_G _ M_X10_states _ 5 [some (.ref 0), some (.int (nI 1)), some (.int (nI mk)), some (.int (nI 2))] [.int (nI 1)] σ1
            refine am_if (ty := 8) (tn := 11) rfl (by decide) rfl rfl (fun (h_101 : nI 1 = 0) => ?_) (fun (h_101 : ¬ (nI 1 = 0)) => ?_)
            · exact absurd h_101 (by decide)
            refine am_run 1 (pc' := 12) (ls' := [some (.ref 0), some (.int (nI 1)), some (.int (nI mk)), some (.int (nI 2))]) (st' := [.int (nI mk)]) (σ' := σ1) rfl ?_
            refine am_invs (y := 240) (as := [.int (nI mk)]) (rest := []) rfl rfl rfl rfl rfl rfl (Nat.le_of_ble_eq_true rfl) ?_
            refine c_mask1_model (by omega) hmk hmv ?_
            show am_G _ M_X10_states _ 15 [some (.ref 0), some (.int (nI 1)), some (.int (nI mk)), some (.int (nI 2))] [.int (nI 1)] σ1
            refine am_if (ty := 27) (tn := 18) rfl (by decide) rfl rfl (fun (h_102 : nI 1 = 0) => ?_) (fun (h_102 : ¬ (nI 1 = 0)) => ?_)
            · exact absurd h_102 (by decide)
            refine am_run 3 (pc' := 21) (ls' := [some (.ref 0), some (.int (nI 1)), some (.int (nI mk)), some (.int (nI 2))]) (st' := [.int (nI 2), .int (nI 0), .int (nI 2)]) (σ' := σ1) rfl ?_
            refine am_invs (y := 148) (as := [.int (nI 2), .int (nI 0), .int (nI 2)]) (rest := []) rfl rfl rfl rfl rfl rfl (Nat.le_of_ble_eq_true rfl) ?_
            refine c_in1 (by omega) (by omega) (by omega) (by omega) ?_
            show am_G _ M_X10_states _ 24 [some (.ref 0), some (.int (nI 1)), some (.int (nI mk)), some (.int (nI 2))] [.int (nI 1)] σ1
            refine am_if (ty := 27) (tn := 30) rfl (by decide) rfl rfl (fun (h_103 : nI 1 = 0) => ?_) (fun (h_103 : ¬ (nI 1 = 0)) => ?_)
            · exact absurd h_103 (by decide)
            refine am_run 3 (pc' := 33) (ls' := [some (.ref 0), some (.int (nI 1)), some (.int (nI mk)), some (.int (nI 2))]) (st' := [.int (nI mk), .int (nI 1), .ref 0]) (σ' := σ1) rfl ?_
            refine am_invv (y := 243) (b := 0) (as := [.int (nI 1), .int (nI mk)]) (rest := []) rfl rfl rfl rfl rfl rfl rfl (Nat.le_of_ble_eq_true rfl) ?_
            refine c_laysStates (by omega) hM5 hmk hmv (fun σ6 hK6 _ => ?_) (fun σ6 T1 _ he => absurd (hco.symm.trans he) (fun z => by cases z))
            show am_G _ M_X10_states _ 36 [some (.ref 0), some (.int (nI 1)), some (.int (nI mk)), some (.int (nI 2))] [.int (nI 0)] σ6
            refine am_if (ty := 39) (tn := 42) rfl (by decide) rfl rfl (fun (h_104 : nI 0 = 0) => ?_) (fun (h_104 : ¬ (nI 0 = 0)) => ?_)
            rotate_left
            · exact absurd (by decide) h_104
            refine am_run 1 (pc' := 41) (ls' := [some (.ref 0), some (.int (nI 1)), some (.int (nI mk)), some (.int (nI 2))]) (st' := [.int (-1000004)]) (σ' := σ6) rfl ?_
            refine am_reti rfl rfl ?_
            exact ⟨rfl, (hK1.KI.tr hK6.KI).inv hI⟩
        | some T' =>
          rcases (show wh = 0 ∨ wh = 1 ∨ wh = 2 by omega) with rfl | rfl | rfl
          · skip
            refine ⟨nI T'.1, ?_⟩
            refine am_enter' (M := M_X9_states) rfl rfl rfl (by omega) (ls := [some (.ref 41), some (.int (nI 1)), some (.int (nI mk)), some (.int (nI 0)), none]) rfl (fun d' hd' => ?_)
            refine am_run 2 (pc' := 2) (ls' := [some (.ref 41), some (.int (nI 1)), some (.int (nI mk)), some (.int (nI 0)), none]) (st' := [.int (nI 1), .ref 41]) (σ' := σ) rfl ?_
            refine am_invv (y := 140) (b := 41) (as := [.int (nI 1)]) (rest := []) rfl rfl rfl rfl rfl rfl rfl (Nat.le_of_ble_eq_true rfl) ?_
            refine c_filled1_1 (by omega) hf ?_
            show am_G _ M_X9_states _ 5 [some (.ref 41), some (.int (nI 1)), some (.int (nI mk)), some (.int (nI 0)), none] [.ref 75] σ
            refine am_run 4 (pc' := 16) (ls' := [some (.ref 41), some (.int (nI 1)), some (.int (nI mk)), some (.int (nI 0)), some (.ref 75)]) (st' := [.int (nI mk)]) (σ' := σ) rfl ?_
            refine am_invs (y := 142) (as := [.int (nI mk)]) (rest := []) rfl rfl rfl rfl rfl rfl (Nat.le_of_ble_eq_true rfl) ?_
            refine c_mask1_class (by omega) hmk hmv ?_
            show am_G _ M_X9_states _ 19 [some (.ref 41), some (.int (nI 1)), some (.int (nI mk)), some (.int (nI 0)), some (.ref 75)] [.int (nI 1)] σ
            refine am_if (ty := 31) (tn := 22) rfl (by decide) rfl rfl (fun (h_1 : nI 1 = 0) => ?_) (fun (h_1 : ¬ (nI 1 = 0)) => ?_)
            · exact absurd h_1 (by decide)
            refine am_run 1 (pc' := 23) (ls' := [some (.ref 41), some (.int (nI 1)), some (.int (nI mk)), some (.int (nI 0)), some (.ref 75)]) (st' := [.int (nI 0)]) (σ' := σ) rfl ?_
            refine am_if (ty := 31) (tn := 26) rfl (by decide) rfl rfl (fun (h_2 : nI 0 < 0) => ?_) (fun (h_2 : ¬ (nI 0 < 0)) => ?_)
            · exact absurd h_2 (by decide)
            refine am_run 2 (pc' := 28) (ls' := [some (.ref 41), some (.int (nI 1)), some (.int (nI mk)), some (.int (nI 0)), some (.ref 75)]) (st' := [.int (nI 2), .int (nI 0)]) (σ' := σ) rfl ?_
            refine am_ic (ty := 31) (tn := 34) rfl (by decide) rfl rfl (fun (h_3 : nI 2 < nI 0) => ?_) (fun (h_3 : ¬ (nI 2 < nI 0)) => ?_)
            · exact absurd h_3 (by decide)
            refine am_run 2 (pc' := 37) (ls' := [some (.ref 41), some (.int (nI 1)), some (.int (nI mk)), some (.int (nI 0)), some (.ref 75)]) (st' := [.ref 75, .ref 41]) (σ' := σ) rfl ?_
            refine am_invv (y := 66) (b := 75) (as := []) (rest := [.ref 41]) rfl rfl rfl rfl rfl rfl rfl (Nat.le_of_ble_eq_true rfl) ?_
            refine am_enter' rfl rfl rfl (by omega) (ls := [some (.ref 75)]) rfl (fun d_4 hd_4 => ?_)
            refine am_run 2 (pc' := 4) (ls' := [some (.ref 75)]) (st' := [.ref (σ.2 75 1)]) (σ' := σ) rfl ?_
            refine am_reta rfl rfl (Or.inr ⟨_, rfl⟩) ?_
            show am_G _ M_X9_states _ 40 [some (.ref 41), some (.int (nI 1)), some (.int (nI mk)), some (.int (nI 0)), some (.ref 75)] [.ref (σ.2 75 1), .ref 41] σ
            refine am_run 1 (pc' := 41) (ls' := [some (.ref 41), some (.int (nI 1)), some (.int (nI mk)), some (.int (nI 0)), some (.ref 75)]) (st' := [.int (nI mk), .ref (σ.2 75 1), .ref 41]) (σ' := σ) rfl ?_
            refine am_invv (y := 145) (b := 41) (as := [.ref (σ.2 75 1), .int (nI mk)]) (rest := []) rfl rfl rfl rfl rfl rfl rfl (Nat.le_of_ble_eq_true rfl) ?_
            refine c_drawChart (by omega) hW hR hrn hro hmk hmv hVo (fun σ1 _ he => absurd (hco.symm.trans he) (fun z => by cases z)) (fun σ1 T1 hK1 he hC1 h41 hl1 hl2 => ?_)
            obtain rfl : T' = T1 := Option.some.inj (hco.symm.trans he)
            show am_G _ M_X9_states _ 44 [some (.ref 41), some (.int (nI 1)), some (.int (nI mk)), some (.int (nI 0)), some (.ref 75)] [.int (nI 1)] σ1
            refine am_if (ty := 47) (tn := 50) rfl (by decide) rfl rfl (fun (h_5 : nI 1 = 0) => ?_) (fun (h_5 : ¬ (nI 1 = 0)) => ?_)
            · exact absurd h_5 (by decide)
            refine am_run 1 (pc' := 51) (ls' := [some (.ref 41), some (.int (nI 1)), some (.int (nI mk)), some (.int (nI 0)), some (.ref 75)]) (st' := [.int (nI 0)]) (σ' := σ1) rfl ?_
            refine am_if (ty := 54) (tn := 62) rfl (by decide) rfl rfl (fun (h_6 : nI 0 = 0) => ?_) (fun (h_6 : ¬ (nI 0 = 0)) => ?_)
            rotate_left
            · exact absurd (by decide) h_6
            refine am_run 2 (pc' := 58) (ls' := [some (.ref 41), some (.int (nI 1)), some (.int (nI mk)), some (.int (nI 0)), some (.ref 75)]) (st' := [.ref 83]) (σ' := σ1) rfl ?_
            refine am_invv (y := 28) (b := 83) (as := []) (rest := []) rfl rfl rfl rfl rfl rfl rfl (Nat.le_of_ble_eq_true rfl) ?_
            refine am_enter' rfl rfl rfl (by omega) (ls := [some (.ref 83)]) rfl (fun d_7 hd_7 => ?_)
            refine am_run 2 (pc' := 4) (ls' := [some (.ref 83)]) (st' := [.int (σ1.1 83 4)]) (σ' := σ1) rfl ?_
            refine am_top (v' := nI T'.1) h41 ?_
            refine am_reti rfl rfl ?_
            show am_G _ M_X9_states _ 61 [some (.ref 41), some (.int (nI 1)), some (.int (nI mk)), some (.int (nI 0)), some (.ref 75)] [.int (nI T'.1)] σ1
            refine am_reti rfl rfl ?_
            refine ⟨rfl, ?_⟩
            have hM5 := hM.keep2 (σ' := σ1) (fun c a => hK1.1 c (by omega))
            have hn25 := hM5.1.2.2.2.1
            refine am_enter' (M := M_X10_states) rfl rfl rfl (by omega) (ls := [some (.ref 0), some (.int (nI 1)), some (.int (nI mk)), some (.int (nI 0))]) rfl (fun d2 hd2 => ?_)
            refine am_run 2 (pc' := 2) (ls' := [some (.ref 0), some (.int (nI 1)), some (.int (nI mk)), some (.int (nI 0))]) (st' := [.int (nI 1), .ref 0]) (σ' := σ1) rfl ?_
            refine am_invv (y := 151) (b := 0) (as := [.int (nI 1)]) (rest := []) rfl rfl rfl rfl rfl rfl rfl (Nat.le_of_ble_eq_true rfl) ?_
            refine c_prog1_1 (by omega) (n := n) (by exact hn25) hn1 hn60 ?_
            show am_G _ M_X10_states _ 5 [some (.ref 0), some (.int (nI 1)), some (.int (nI mk)), some (.int (nI 0))] [.int (nI 1)] σ1
            refine am_if (ty := 8) (tn := 11) rfl (by decide) rfl rfl (fun (h_101 : nI 1 = 0) => ?_) (fun (h_101 : ¬ (nI 1 = 0)) => ?_)
            · exact absurd h_101 (by decide)
            refine am_run 1 (pc' := 12) (ls' := [some (.ref 0), some (.int (nI 1)), some (.int (nI mk)), some (.int (nI 0))]) (st' := [.int (nI mk)]) (σ' := σ1) rfl ?_
            refine am_invs (y := 240) (as := [.int (nI mk)]) (rest := []) rfl rfl rfl rfl rfl rfl (Nat.le_of_ble_eq_true rfl) ?_
            refine c_mask1_model (by omega) hmk hmv ?_
            show am_G _ M_X10_states _ 15 [some (.ref 0), some (.int (nI 1)), some (.int (nI mk)), some (.int (nI 0))] [.int (nI 1)] σ1
            refine am_if (ty := 27) (tn := 18) rfl (by decide) rfl rfl (fun (h_102 : nI 1 = 0) => ?_) (fun (h_102 : ¬ (nI 1 = 0)) => ?_)
            · exact absurd h_102 (by decide)
            refine am_run 3 (pc' := 21) (ls' := [some (.ref 0), some (.int (nI 1)), some (.int (nI mk)), some (.int (nI 0))]) (st' := [.int (nI 2), .int (nI 0), .int (nI 0)]) (σ' := σ1) rfl ?_
            refine am_invs (y := 148) (as := [.int (nI 0), .int (nI 0), .int (nI 2)]) (rest := []) rfl rfl rfl rfl rfl rfl (Nat.le_of_ble_eq_true rfl) ?_
            refine c_in1 (by omega) (by omega) (by omega) (by omega) ?_
            show am_G _ M_X10_states _ 24 [some (.ref 0), some (.int (nI 1)), some (.int (nI mk)), some (.int (nI 0))] [.int (nI 1)] σ1
            refine am_if (ty := 27) (tn := 30) rfl (by decide) rfl rfl (fun (h_103 : nI 1 = 0) => ?_) (fun (h_103 : ¬ (nI 1 = 0)) => ?_)
            · exact absurd h_103 (by decide)
            refine am_run 3 (pc' := 33) (ls' := [some (.ref 0), some (.int (nI 1)), some (.int (nI mk)), some (.int (nI 0))]) (st' := [.int (nI mk), .int (nI 1), .ref 0]) (σ' := σ1) rfl ?_
            refine am_invv (y := 243) (b := 0) (as := [.int (nI 1), .int (nI mk)]) (rest := []) rfl rfl rfl rfl rfl rfl rfl (Nat.le_of_ble_eq_true rfl) ?_
            refine c_laysStates (by omega) hM5 hmk hmv (fun σ6 _ he => absurd (hco.symm.trans he) (fun z => by cases z)) (fun σ6 T2 hK6 he6 hC6 h496 hl3 hl4 => ?_)
            obtain rfl : T' = T2 := Option.some.inj (hco.symm.trans he6)
            show am_G _ M_X10_states _ 36 [some (.ref 0), some (.int (nI 1)), some (.int (nI mk)), some (.int (nI 0))] [.int (nI 1)] σ6
            refine am_if (ty := 39) (tn := 42) rfl (by decide) rfl rfl (fun (h_104 : nI 1 = 0) => ?_) (fun (h_104 : ¬ (nI 1 = 0)) => ?_)
            · exact absurd h_104 (by decide)
            refine am_run 1 (pc' := 43) (ls' := [some (.ref 0), some (.int (nI 1)), some (.int (nI mk)), some (.int (nI 0))]) (st' := [.int (nI 0)]) (σ' := σ6) rfl ?_
            refine am_if (ty := 46) (tn := 53) rfl (by decide) rfl rfl (fun (h_105 : nI 0 = 0) => ?_) (fun (h_105 : ¬ (nI 0 = 0)) => ?_)
            rotate_left
            · exact absurd (by decide) h_105
            refine am_run 2 (pc' := 50) (ls' := [some (.ref 0), some (.int (nI 1)), some (.int (nI mk)), some (.int (nI 0))]) (st' := [.int (σ6.1 0 49)]) (σ' := σ6) rfl ?_
            refine am_top (v' := nI T'.1) h496 ?_
            refine am_run 1 (pc' := 75) (ls' := [some (.ref 0), some (.int (nI 1)), some (.int (nI mk)), some (.int (nI 0))]) (st' := [.int (nI T'.1)]) (σ' := σ6) rfl ?_
            refine am_reti rfl rfl ?_
            exact ⟨rfl, (hK1.KI.tr hK6.KI).inv hI⟩
          · skip
            refine ⟨nI (cls T'.2.2.1 T'.2.2.2.1 (2 ^ pcn mk 21) T'.1 100 z0 0 1), ?_⟩
            refine am_enter' (M := M_X9_states) rfl rfl rfl (by omega) (ls := [some (.ref 41), some (.int (nI 1)), some (.int (nI mk)), some (.int (nI 1)), none]) rfl (fun d' hd' => ?_)
            refine am_run 2 (pc' := 2) (ls' := [some (.ref 41), some (.int (nI 1)), some (.int (nI mk)), some (.int (nI 1)), none]) (st' := [.int (nI 1), .ref 41]) (σ' := σ) rfl ?_
            refine am_invv (y := 140) (b := 41) (as := [.int (nI 1)]) (rest := []) rfl rfl rfl rfl rfl rfl rfl (Nat.le_of_ble_eq_true rfl) ?_
            refine c_filled1_1 (by omega) hf ?_
            show am_G _ M_X9_states _ 5 [some (.ref 41), some (.int (nI 1)), some (.int (nI mk)), some (.int (nI 1)), none] [.ref 75] σ
            refine am_run 4 (pc' := 16) (ls' := [some (.ref 41), some (.int (nI 1)), some (.int (nI mk)), some (.int (nI 1)), some (.ref 75)]) (st' := [.int (nI mk)]) (σ' := σ) rfl ?_
            refine am_invs (y := 142) (as := [.int (nI mk)]) (rest := []) rfl rfl rfl rfl rfl rfl (Nat.le_of_ble_eq_true rfl) ?_
            refine c_mask1_class (by omega) hmk hmv ?_
            show am_G _ M_X9_states _ 19 [some (.ref 41), some (.int (nI 1)), some (.int (nI mk)), some (.int (nI 1)), some (.ref 75)] [.int (nI 1)] σ
            refine am_if (ty := 31) (tn := 22) rfl (by decide) rfl rfl (fun (h_1 : nI 1 = 0) => ?_) (fun (h_1 : ¬ (nI 1 = 0)) => ?_)
            · exact absurd h_1 (by decide)
            refine am_run 1 (pc' := 23) (ls' := [some (.ref 41), some (.int (nI 1)), some (.int (nI mk)), some (.int (nI 1)), some (.ref 75)]) (st' := [.int (nI 1)]) (σ' := σ) rfl ?_
            refine am_if (ty := 31) (tn := 26) rfl (by decide) rfl rfl (fun (h_2 : nI 1 < 0) => ?_) (fun (h_2 : ¬ (nI 1 < 0)) => ?_)
            · exact absurd h_2 (by decide)
            refine am_run 2 (pc' := 28) (ls' := [some (.ref 41), some (.int (nI 1)), some (.int (nI mk)), some (.int (nI 1)), some (.ref 75)]) (st' := [.int (nI 2), .int (nI 1)]) (σ' := σ) rfl ?_
            refine am_ic (ty := 31) (tn := 34) rfl (by decide) rfl rfl (fun (h_3 : nI 2 < nI 1) => ?_) (fun (h_3 : ¬ (nI 2 < nI 1)) => ?_)
            · exact absurd h_3 (by decide)
            refine am_run 2 (pc' := 37) (ls' := [some (.ref 41), some (.int (nI 1)), some (.int (nI mk)), some (.int (nI 1)), some (.ref 75)]) (st' := [.ref 75, .ref 41]) (σ' := σ) rfl ?_
            refine am_invv (y := 66) (b := 75) (as := []) (rest := [.ref 41]) rfl rfl rfl rfl rfl rfl rfl (Nat.le_of_ble_eq_true rfl) ?_
            refine am_enter' rfl rfl rfl (by omega) (ls := [some (.ref 75)]) rfl (fun d_4 hd_4 => ?_)
            refine am_run 2 (pc' := 4) (ls' := [some (.ref 75)]) (st' := [.ref (σ.2 75 1)]) (σ' := σ) rfl ?_
            refine am_reta rfl rfl (Or.inr ⟨_, rfl⟩) ?_
            show am_G _ M_X9_states _ 40 [some (.ref 41), some (.int (nI 1)), some (.int (nI mk)), some (.int (nI 1)), some (.ref 75)] [.ref (σ.2 75 1), .ref 41] σ
            refine am_run 1 (pc' := 41) (ls' := [some (.ref 41), some (.int (nI 1)), some (.int (nI mk)), some (.int (nI 1)), some (.ref 75)]) (st' := [.int (nI mk), .ref (σ.2 75 1), .ref 41]) (σ' := σ) rfl ?_
            refine am_invv (y := 145) (b := 41) (as := [.ref (σ.2 75 1), .int (nI mk)]) (rest := []) rfl rfl rfl rfl rfl rfl rfl (Nat.le_of_ble_eq_true rfl) ?_
            refine c_drawChart (by omega) hW hR hrn hro hmk hmv hVo (fun σ1 _ he => absurd (hco.symm.trans he) (fun z => by cases z)) (fun σ1 T1 hK1 he hC1 h41 hl1 hl2 => ?_)
            obtain rfl : T' = T1 := Option.some.inj (hco.symm.trans he)
            show am_G _ M_X9_states _ 44 [some (.ref 41), some (.int (nI 1)), some (.int (nI mk)), some (.int (nI 1)), some (.ref 75)] [.int (nI 1)] σ1
            refine am_if (ty := 47) (tn := 50) rfl (by decide) rfl rfl (fun (h_5 : nI 1 = 0) => ?_) (fun (h_5 : ¬ (nI 1 = 0)) => ?_)
            · exact absurd h_5 (by decide)
            refine am_run 1 (pc' := 51) (ls' := [some (.ref 41), some (.int (nI 1)), some (.int (nI mk)), some (.int (nI 1)), some (.ref 75)]) (st' := [.int (nI 1)]) (σ' := σ1) rfl ?_
            refine am_if (ty := 54) (tn := 62) rfl (by decide) rfl rfl (fun (h_6 : nI 1 = 0) => ?_) (fun (h_6 : ¬ (nI 1 = 0)) => ?_)
            · exact absurd h_6 (by decide)
            refine am_run 2 (pc' := 64) (ls' := [some (.ref 41), some (.int (nI 1)), some (.int (nI mk)), some (.int (nI 1)), some (.ref 75)]) (st' := [.int (nI 1), .int (nI 1)]) (σ' := σ1) rfl ?_
            refine am_ic (ty := 67) (tn := 77) rfl (by decide) rfl rfl (fun (h_7 : nI 1 = nI 1) => ?_) (fun (h_7 : ¬ (nI 1 = nI 1)) => ?_)
            rotate_left
            · exact absurd (by decide) h_7
            refine am_run 2 (pc' := 71) (ls' := [some (.ref 41), some (.int (nI 1)), some (.int (nI mk)), some (.int (nI 1)), some (.ref 75)]) (st' := [.ref 83]) (σ' := σ1) rfl ?_
            refine am_invv (y := 30) (b := 83) (as := []) (rest := []) rfl rfl rfl rfl rfl rfl rfl (Nat.le_of_ble_eq_true rfl) ?_
            refine c_classes (by omega) (hK1.2.2 hI.2.2.2.1) (hC1.ce h41 hl1) (fun σ2 hK2_ => ?_)
            have hK2 := hK1.tr hK2_
            show am_G _ M_X9_states _ 74 [some (.ref 41), some (.int (nI 1)), some (.int (nI mk)), some (.int (nI 1)), some (.ref 75)] [.int (nI (cls T'.2.2.1 T'.2.2.2.1 (2 ^ pcn mk 21) T'.1 100 z0 0 1))] σ2
            refine am_run 1 (pc' := 84) (ls' := [some (.ref 41), some (.int (nI 1)), some (.int (nI mk)), some (.int (nI 1)), some (.ref 75)]) (st' := [.int (nI (cls T'.2.2.1 T'.2.2.2.1 (2 ^ pcn mk 21) T'.1 100 z0 0 1))]) (σ' := σ2) rfl ?_
            refine am_reti rfl rfl ?_
            refine ⟨rfl, ?_⟩
            have hM5 := hM.keep2 (σ' := σ2) (fun c a => hK2.1 c (by omega))
            have hn25 := hM5.1.2.2.2.1
            refine am_enter' (M := M_X10_states) rfl rfl rfl (by omega) (ls := [some (.ref 0), some (.int (nI 1)), some (.int (nI mk)), some (.int (nI 1))]) rfl (fun d2 hd2 => ?_)
            refine am_run 2 (pc' := 2) (ls' := [some (.ref 0), some (.int (nI 1)), some (.int (nI mk)), some (.int (nI 1))]) (st' := [.int (nI 1), .ref 0]) (σ' := σ2) rfl ?_
            refine am_invv (y := 151) (b := 0) (as := [.int (nI 1)]) (rest := []) rfl rfl rfl rfl rfl rfl rfl (Nat.le_of_ble_eq_true rfl) ?_
            refine c_prog1_1 (by omega) (n := n) (by exact hn25) hn1 hn60 ?_
            show am_G _ M_X10_states _ 5 [some (.ref 0), some (.int (nI 1)), some (.int (nI mk)), some (.int (nI 1))] [.int (nI 1)] σ2
            refine am_if (ty := 8) (tn := 11) rfl (by decide) rfl rfl (fun (h_101 : nI 1 = 0) => ?_) (fun (h_101 : ¬ (nI 1 = 0)) => ?_)
            · exact absurd h_101 (by decide)
            refine am_run 1 (pc' := 12) (ls' := [some (.ref 0), some (.int (nI 1)), some (.int (nI mk)), some (.int (nI 1))]) (st' := [.int (nI mk)]) (σ' := σ2) rfl ?_
            refine am_invs (y := 240) (as := [.int (nI mk)]) (rest := []) rfl rfl rfl rfl rfl rfl (Nat.le_of_ble_eq_true rfl) ?_
            refine c_mask1_model (by omega) hmk hmv ?_
            show am_G _ M_X10_states _ 15 [some (.ref 0), some (.int (nI 1)), some (.int (nI mk)), some (.int (nI 1))] [.int (nI 1)] σ2
            refine am_if (ty := 27) (tn := 18) rfl (by decide) rfl rfl (fun (h_102 : nI 1 = 0) => ?_) (fun (h_102 : ¬ (nI 1 = 0)) => ?_)
            · exact absurd h_102 (by decide)
            refine am_run 3 (pc' := 21) (ls' := [some (.ref 0), some (.int (nI 1)), some (.int (nI mk)), some (.int (nI 1))]) (st' := [.int (nI 2), .int (nI 0), .int (nI 1)]) (σ' := σ2) rfl ?_
            refine am_invs (y := 148) (as := [.int (nI 1), .int (nI 0), .int (nI 2)]) (rest := []) rfl rfl rfl rfl rfl rfl (Nat.le_of_ble_eq_true rfl) ?_
            refine c_in1 (by omega) (by omega) (by omega) (by omega) ?_
            show am_G _ M_X10_states _ 24 [some (.ref 0), some (.int (nI 1)), some (.int (nI mk)), some (.int (nI 1))] [.int (nI 1)] σ2
            refine am_if (ty := 27) (tn := 30) rfl (by decide) rfl rfl (fun (h_103 : nI 1 = 0) => ?_) (fun (h_103 : ¬ (nI 1 = 0)) => ?_)
            · exact absurd h_103 (by decide)
            refine am_run 3 (pc' := 33) (ls' := [some (.ref 0), some (.int (nI 1)), some (.int (nI mk)), some (.int (nI 1))]) (st' := [.int (nI mk), .int (nI 1), .ref 0]) (σ' := σ2) rfl ?_
            refine am_invv (y := 243) (b := 0) (as := [.int (nI 1), .int (nI mk)]) (rest := []) rfl rfl rfl rfl rfl rfl rfl (Nat.le_of_ble_eq_true rfl) ?_
            refine c_laysStates (by omega) hM5 hmk hmv (fun σ6 _ he => absurd (hco.symm.trans he) (fun z => by cases z)) (fun σ6 T2 hK6 he6 hC6 h496 hl3 hl4 => ?_)
            obtain rfl : T' = T2 := Option.some.inj (hco.symm.trans he6)
            show am_G _ M_X10_states _ 36 [some (.ref 0), some (.int (nI 1)), some (.int (nI mk)), some (.int (nI 1))] [.int (nI 1)] σ6
            refine am_if (ty := 39) (tn := 42) rfl (by decide) rfl rfl (fun (h_104 : nI 1 = 0) => ?_) (fun (h_104 : ¬ (nI 1 = 0)) => ?_)
            · exact absurd h_104 (by decide)
            refine am_run 1 (pc' := 43) (ls' := [some (.ref 0), some (.int (nI 1)), some (.int (nI mk)), some (.int (nI 1))]) (st' := [.int (nI 1)]) (σ' := σ6) rfl ?_
            refine am_if (ty := 46) (tn := 53) rfl (by decide) rfl rfl (fun (h_105 : nI 1 = 0) => ?_) (fun (h_105 : ¬ (nI 1 = 0)) => ?_)
            · exact absurd h_105 (by decide)
            refine am_run 2 (pc' := 55) (ls' := [some (.ref 0), some (.int (nI 1)), some (.int (nI mk)), some (.int (nI 1))]) (st' := [.int (nI 1), .int (nI 1)]) (σ' := σ6) rfl ?_
            refine am_ic (ty := 58) (tn := 71) rfl (by decide) rfl rfl (fun (h_106 : nI 1 = nI 1) => ?_) (fun (h_106 : ¬ (nI 1 = nI 1)) => ?_)
            rotate_left
            · exact absurd (by decide) h_106
            refine am_run 3 (pc' := 61) (ls' := [some (.ref 0), some (.int (nI 1)), some (.int (nI mk)), some (.int (nI 1))]) (st' := [.int (nI mk), .int (nI 1), .ref 0]) (σ' := σ6) rfl ?_
            refine am_invs (y := 150) (as := [.int (nI mk)]) (rest := [.int (nI 1), .ref 0]) rfl rfl rfl rfl rfl rfl (Nat.le_of_ble_eq_true rfl) ?_
            refine c_ones (by omega) (by omega) ?_
            show am_G _ M_X10_states _ 64 [some (.ref 0), some (.int (nI 1)), some (.int (nI mk)), some (.int (nI 1))] [.int (nI (pcn mk 21)), .int (nI 1), .ref 0] σ6
            refine am_run 1 (pc' := 65) (ls' := [some (.ref 0), some (.int (nI 1)), some (.int (nI mk)), some (.int (nI 1))]) (st' := [.int ((nI 1) <<< ((nI (pcn mk 21)) &&& 31)), .ref 0]) (σ' := σ6) rfl ?_
            refine am_top (v' := nI (2 ^ pcn mk 21)) (by rw [nx_shl _ (by omega), Nat.one_mul]) ?_
            refine am_invv (y := 245) (b := 0) (as := [.int (nI (2 ^ pcn mk 21))]) (rest := []) rfl rfl rfl rfl rfl rfl rfl (Nat.le_of_ble_eq_true rfl) ?_
            refine c_sorts (by omega) (hC6.cn h496 hl4 hl3) (fun σ7 hK7 => ?_)
            show am_G _ M_X10_states _ 68 [some (.ref 0), some (.int (nI 1)), some (.int (nI mk)), some (.int (nI 1))] [.int (nI (cls T'.2.2.1 T'.2.2.2.1 (2 ^ pcn mk 21) T'.1 100 z0 0 1))] σ7
            refine am_run 1 (pc' := 75) (ls' := [some (.ref 0), some (.int (nI 1)), some (.int (nI mk)), some (.int (nI 1))]) (st' := [.int (nI (cls T'.2.2.1 T'.2.2.2.1 (2 ^ pcn mk 21) T'.1 100 z0 0 1))]) (σ' := σ7) rfl ?_
            refine am_reti rfl rfl ?_
            exact ⟨rfl, (hK2.KI.tr (hK6.tr hK7).KI).inv hI⟩
          · skip
            refine ⟨nI T'.2.2.2.2, ?_⟩
            refine am_enter' (M := M_X9_states) rfl rfl rfl (by omega) (ls := [some (.ref 41), some (.int (nI 1)), some (.int (nI mk)), some (.int (nI 2)), none]) rfl (fun d' hd' => ?_)
            refine am_run 2 (pc' := 2) (ls' := [some (.ref 41), some (.int (nI 1)), some (.int (nI mk)), some (.int (nI 2)), none]) (st' := [.int (nI 1), .ref 41]) (σ' := σ) rfl ?_
            refine am_invv (y := 140) (b := 41) (as := [.int (nI 1)]) (rest := []) rfl rfl rfl rfl rfl rfl rfl (Nat.le_of_ble_eq_true rfl) ?_
            refine c_filled1_1 (by omega) hf ?_
            show am_G _ M_X9_states _ 5 [some (.ref 41), some (.int (nI 1)), some (.int (nI mk)), some (.int (nI 2)), none] [.ref 75] σ
            refine am_run 4 (pc' := 16) (ls' := [some (.ref 41), some (.int (nI 1)), some (.int (nI mk)), some (.int (nI 2)), some (.ref 75)]) (st' := [.int (nI mk)]) (σ' := σ) rfl ?_
            refine am_invs (y := 142) (as := [.int (nI mk)]) (rest := []) rfl rfl rfl rfl rfl rfl (Nat.le_of_ble_eq_true rfl) ?_
            refine c_mask1_class (by omega) hmk hmv ?_
            show am_G _ M_X9_states _ 19 [some (.ref 41), some (.int (nI 1)), some (.int (nI mk)), some (.int (nI 2)), some (.ref 75)] [.int (nI 1)] σ
            refine am_if (ty := 31) (tn := 22) rfl (by decide) rfl rfl (fun (h_1 : nI 1 = 0) => ?_) (fun (h_1 : ¬ (nI 1 = 0)) => ?_)
            · exact absurd h_1 (by decide)
            refine am_run 1 (pc' := 23) (ls' := [some (.ref 41), some (.int (nI 1)), some (.int (nI mk)), some (.int (nI 2)), some (.ref 75)]) (st' := [.int (nI 2)]) (σ' := σ) rfl ?_
            refine am_if (ty := 31) (tn := 26) rfl (by decide) rfl rfl (fun (h_2 : nI 2 < 0) => ?_) (fun (h_2 : ¬ (nI 2 < 0)) => ?_)
            · exact absurd h_2 (by decide)
            refine am_run 2 (pc' := 28) (ls' := [some (.ref 41), some (.int (nI 1)), some (.int (nI mk)), some (.int (nI 2)), some (.ref 75)]) (st' := [.int (nI 2), .int (nI 2)]) (σ' := σ) rfl ?_
            refine am_ic (ty := 31) (tn := 34) rfl (by decide) rfl rfl (fun (h_3 : nI 2 < nI 2) => ?_) (fun (h_3 : ¬ (nI 2 < nI 2)) => ?_)
            · exact absurd h_3 (by decide)
            refine am_run 2 (pc' := 37) (ls' := [some (.ref 41), some (.int (nI 1)), some (.int (nI mk)), some (.int (nI 2)), some (.ref 75)]) (st' := [.ref 75, .ref 41]) (σ' := σ) rfl ?_
            refine am_invv (y := 66) (b := 75) (as := []) (rest := [.ref 41]) rfl rfl rfl rfl rfl rfl rfl (Nat.le_of_ble_eq_true rfl) ?_
            refine am_enter' rfl rfl rfl (by omega) (ls := [some (.ref 75)]) rfl (fun d_4 hd_4 => ?_)
            refine am_run 2 (pc' := 4) (ls' := [some (.ref 75)]) (st' := [.ref (σ.2 75 1)]) (σ' := σ) rfl ?_
            refine am_reta rfl rfl (Or.inr ⟨_, rfl⟩) ?_
            show am_G _ M_X9_states _ 40 [some (.ref 41), some (.int (nI 1)), some (.int (nI mk)), some (.int (nI 2)), some (.ref 75)] [.ref (σ.2 75 1), .ref 41] σ
            refine am_run 1 (pc' := 41) (ls' := [some (.ref 41), some (.int (nI 1)), some (.int (nI mk)), some (.int (nI 2)), some (.ref 75)]) (st' := [.int (nI mk), .ref (σ.2 75 1), .ref 41]) (σ' := σ) rfl ?_
            refine am_invv (y := 145) (b := 41) (as := [.ref (σ.2 75 1), .int (nI mk)]) (rest := []) rfl rfl rfl rfl rfl rfl rfl (Nat.le_of_ble_eq_true rfl) ?_
            refine c_drawChart (by omega) hW hR hrn hro hmk hmv hVo (fun σ1 _ he => absurd (hco.symm.trans he) (fun z => by cases z)) (fun σ1 T1 hK1 he hC1 h41 hl1 hl2 => ?_)
            obtain rfl : T' = T1 := Option.some.inj (hco.symm.trans he)
            show am_G _ M_X9_states _ 44 [some (.ref 41), some (.int (nI 1)), some (.int (nI mk)), some (.int (nI 2)), some (.ref 75)] [.int (nI 1)] σ1
            refine am_if (ty := 47) (tn := 50) rfl (by decide) rfl rfl (fun (h_5 : nI 1 = 0) => ?_) (fun (h_5 : ¬ (nI 1 = 0)) => ?_)
            · exact absurd h_5 (by decide)
            refine am_run 1 (pc' := 51) (ls' := [some (.ref 41), some (.int (nI 1)), some (.int (nI mk)), some (.int (nI 2)), some (.ref 75)]) (st' := [.int (nI 2)]) (σ' := σ1) rfl ?_
            refine am_if (ty := 54) (tn := 62) rfl (by decide) rfl rfl (fun (h_6 : nI 2 = 0) => ?_) (fun (h_6 : ¬ (nI 2 = 0)) => ?_)
            · exact absurd h_6 (by decide)
            refine am_run 2 (pc' := 64) (ls' := [some (.ref 41), some (.int (nI 1)), some (.int (nI mk)), some (.int (nI 2)), some (.ref 75)]) (st' := [.int (nI 1), .int (nI 2)]) (σ' := σ1) rfl ?_
            refine am_ic (ty := 67) (tn := 77) rfl (by decide) rfl rfl (fun (h_7 : nI 2 = nI 1) => ?_) (fun (h_7 : ¬ (nI 2 = nI 1)) => ?_)
            · exact absurd h_7 (by decide)
            refine am_run 2 (pc' := 81) (ls' := [some (.ref 41), some (.int (nI 1)), some (.int (nI mk)), some (.int (nI 2)), some (.ref 75)]) (st' := [.ref 83]) (σ' := σ1) rfl ?_
            refine am_invv (y := 29) (b := 83) (as := []) (rest := []) rfl rfl rfl rfl rfl rfl rfl (Nat.le_of_ble_eq_true rfl) ?_
            refine am_enter' rfl rfl rfl (by omega) (ls := [some (.ref 83)]) rfl (fun d_8 hd_8 => ?_)
            refine am_run 2 (pc' := 4) (ls' := [some (.ref 83)]) (st' := [.int (σ1.1 83 6)]) (σ' := σ1) rfl ?_
            refine am_top (v' := nI T'.2.2.2.2) hC1.2.2.1 ?_
            refine am_reti rfl rfl ?_
            show am_G _ M_X9_states _ 84 [some (.ref 41), some (.int (nI 1)), some (.int (nI mk)), some (.int (nI 2)), some (.ref 75)] [.int (nI T'.2.2.2.2)] σ1
            refine am_reti rfl rfl ?_
            refine ⟨rfl, ?_⟩
            have hM5 := hM.keep2 (σ' := σ1) (fun c a => hK1.1 c (by omega))
            have hn25 := hM5.1.2.2.2.1
            refine am_enter' (M := M_X10_states) rfl rfl rfl (by omega) (ls := [some (.ref 0), some (.int (nI 1)), some (.int (nI mk)), some (.int (nI 2))]) rfl (fun d2 hd2 => ?_)
            refine am_run 2 (pc' := 2) (ls' := [some (.ref 0), some (.int (nI 1)), some (.int (nI mk)), some (.int (nI 2))]) (st' := [.int (nI 1), .ref 0]) (σ' := σ1) rfl ?_
            refine am_invv (y := 151) (b := 0) (as := [.int (nI 1)]) (rest := []) rfl rfl rfl rfl rfl rfl rfl (Nat.le_of_ble_eq_true rfl) ?_
            refine c_prog1_1 (by omega) (n := n) (by exact hn25) hn1 hn60 ?_
            show am_G _ M_X10_states _ 5 [some (.ref 0), some (.int (nI 1)), some (.int (nI mk)), some (.int (nI 2))] [.int (nI 1)] σ1
            refine am_if (ty := 8) (tn := 11) rfl (by decide) rfl rfl (fun (h_101 : nI 1 = 0) => ?_) (fun (h_101 : ¬ (nI 1 = 0)) => ?_)
            · exact absurd h_101 (by decide)
            refine am_run 1 (pc' := 12) (ls' := [some (.ref 0), some (.int (nI 1)), some (.int (nI mk)), some (.int (nI 2))]) (st' := [.int (nI mk)]) (σ' := σ1) rfl ?_
            refine am_invs (y := 240) (as := [.int (nI mk)]) (rest := []) rfl rfl rfl rfl rfl rfl (Nat.le_of_ble_eq_true rfl) ?_
            refine c_mask1_model (by omega) hmk hmv ?_
            show am_G _ M_X10_states _ 15 [some (.ref 0), some (.int (nI 1)), some (.int (nI mk)), some (.int (nI 2))] [.int (nI 1)] σ1
            refine am_if (ty := 27) (tn := 18) rfl (by decide) rfl rfl (fun (h_102 : nI 1 = 0) => ?_) (fun (h_102 : ¬ (nI 1 = 0)) => ?_)
            · exact absurd h_102 (by decide)
            refine am_run 3 (pc' := 21) (ls' := [some (.ref 0), some (.int (nI 1)), some (.int (nI mk)), some (.int (nI 2))]) (st' := [.int (nI 2), .int (nI 0), .int (nI 2)]) (σ' := σ1) rfl ?_
            refine am_invs (y := 148) (as := [.int (nI 2), .int (nI 0), .int (nI 2)]) (rest := []) rfl rfl rfl rfl rfl rfl (Nat.le_of_ble_eq_true rfl) ?_
            refine c_in1 (by omega) (by omega) (by omega) (by omega) ?_
            show am_G _ M_X10_states _ 24 [some (.ref 0), some (.int (nI 1)), some (.int (nI mk)), some (.int (nI 2))] [.int (nI 1)] σ1
            refine am_if (ty := 27) (tn := 30) rfl (by decide) rfl rfl (fun (h_103 : nI 1 = 0) => ?_) (fun (h_103 : ¬ (nI 1 = 0)) => ?_)
            · exact absurd h_103 (by decide)
            refine am_run 3 (pc' := 33) (ls' := [some (.ref 0), some (.int (nI 1)), some (.int (nI mk)), some (.int (nI 2))]) (st' := [.int (nI mk), .int (nI 1), .ref 0]) (σ' := σ1) rfl ?_
            refine am_invv (y := 243) (b := 0) (as := [.int (nI 1), .int (nI mk)]) (rest := []) rfl rfl rfl rfl rfl rfl rfl (Nat.le_of_ble_eq_true rfl) ?_
            refine c_laysStates (by omega) hM5 hmk hmv (fun σ6 _ he => absurd (hco.symm.trans he) (fun z => by cases z)) (fun σ6 T2 hK6 he6 hC6 h496 hl3 hl4 => ?_)
            obtain rfl : T' = T2 := Option.some.inj (hco.symm.trans he6)
            show am_G _ M_X10_states _ 36 [some (.ref 0), some (.int (nI 1)), some (.int (nI mk)), some (.int (nI 2))] [.int (nI 1)] σ6
            refine am_if (ty := 39) (tn := 42) rfl (by decide) rfl rfl (fun (h_104 : nI 1 = 0) => ?_) (fun (h_104 : ¬ (nI 1 = 0)) => ?_)
            · exact absurd h_104 (by decide)
            refine am_run 1 (pc' := 43) (ls' := [some (.ref 0), some (.int (nI 1)), some (.int (nI mk)), some (.int (nI 2))]) (st' := [.int (nI 2)]) (σ' := σ6) rfl ?_
            refine am_if (ty := 46) (tn := 53) rfl (by decide) rfl rfl (fun (h_105 : nI 2 = 0) => ?_) (fun (h_105 : ¬ (nI 2 = 0)) => ?_)
            · exact absurd h_105 (by decide)
            refine am_run 2 (pc' := 55) (ls' := [some (.ref 0), some (.int (nI 1)), some (.int (nI mk)), some (.int (nI 2))]) (st' := [.int (nI 1), .int (nI 2)]) (σ' := σ6) rfl ?_
            refine am_ic (ty := 58) (tn := 71) rfl (by decide) rfl rfl (fun (h_106 : nI 2 = nI 1) => ?_) (fun (h_106 : ¬ (nI 2 = nI 1)) => ?_)
            · exact absurd h_106 (by decide)
            refine am_run 2 (pc' := 75) (ls' := [some (.ref 0), some (.int (nI 1)), some (.int (nI mk)), some (.int (nI 2))]) (st' := [.int (σ6.1 0 54)]) (σ' := σ6) rfl ?_
            refine am_top (v' := nI T'.2.2.2.2) hC6.2.1 ?_
            refine am_reti rfl rfl ?_
            exact ⟨rfl, (hK1.KI.tr hK6.KI).inv hI⟩
      · rcases id hz with hzn | ⟨hz0, hzb⟩
        · skip
          refine ⟨-1000002, ?_⟩
          refine am_enter' (M := M_X9_states) rfl rfl rfl (by omega) (ls := [some (.ref 41), some (.int (nI 1)), some (.int (nI mk)), some (.int z), none]) rfl (fun d' hd' => ?_)
          refine am_run 2 (pc' := 2) (ls' := [some (.ref 41), some (.int (nI 1)), some (.int (nI mk)), some (.int z), none]) (st' := [.int (nI 1), .ref 41]) (σ' := σ) rfl ?_
          refine am_invv (y := 140) (b := 41) (as := [.int (nI 1)]) (rest := []) rfl rfl rfl rfl rfl rfl rfl (Nat.le_of_ble_eq_true rfl) ?_
          refine c_filled1_1 (by omega) hf ?_
          show am_G _ M_X9_states _ 5 [some (.ref 41), some (.int (nI 1)), some (.int (nI mk)), some (.int z), none] [.ref 75] σ
          refine am_run 4 (pc' := 16) (ls' := [some (.ref 41), some (.int (nI 1)), some (.int (nI mk)), some (.int z), some (.ref 75)]) (st' := [.int (nI mk)]) (σ' := σ) rfl ?_
          refine am_invs (y := 142) (as := [.int (nI mk)]) (rest := []) rfl rfl rfl rfl rfl rfl (Nat.le_of_ble_eq_true rfl) ?_
          refine c_mask1_class (by omega) hmk hmv ?_
          show am_G _ M_X9_states _ 19 [some (.ref 41), some (.int (nI 1)), some (.int (nI mk)), some (.int z), some (.ref 75)] [.int (nI 1)] σ
          refine am_if (ty := 31) (tn := 22) rfl (by decide) rfl rfl (fun (h_1 : nI 1 = 0) => ?_) (fun (h_1 : ¬ (nI 1 = 0)) => ?_)
          · exact absurd h_1 (by decide)
          refine am_run 1 (pc' := 23) (ls' := [some (.ref 41), some (.int (nI 1)), some (.int (nI mk)), some (.int z), some (.ref 75)]) (st' := [.int z]) (σ' := σ) rfl ?_
          refine am_if (ty := 31) (tn := 26) rfl (by decide) rfl rfl (fun (h_2 : z < 0) => ?_) (fun (h_2 : ¬ (z < 0)) => ?_)
          rotate_left
          · exact absurd hzn h_2
          refine am_run 1 (pc' := 33) (ls' := [some (.ref 41), some (.int (nI 1)), some (.int (nI mk)), some (.int z), some (.ref 75)]) (st' := [.int (-1000002)]) (σ' := σ) rfl ?_
          refine am_reti rfl rfl ?_
          refine ⟨rfl, ?_⟩
          refine am_enter' (M := M_X10_states) rfl rfl rfl (by omega) (ls := [some (.ref 0), some (.int (nI 1)), some (.int (nI mk)), some (.int z)]) rfl (fun d2 hd2 => ?_)
          refine am_run 2 (pc' := 2) (ls' := [some (.ref 0), some (.int (nI 1)), some (.int (nI mk)), some (.int z)]) (st' := [.int (nI 1), .ref 0]) (σ' := σ) rfl ?_
          refine am_invv (y := 151) (b := 0) (as := [.int (nI 1)]) (rest := []) rfl rfl rfl rfl rfl rfl rfl (Nat.le_of_ble_eq_true rfl) ?_
          refine c_prog1_1 (by omega) (n := n) (by exact hn2) hn1 hn60 ?_
          show am_G _ M_X10_states _ 5 [some (.ref 0), some (.int (nI 1)), some (.int (nI mk)), some (.int z)] [.int (nI 1)] σ
          refine am_if (ty := 8) (tn := 11) rfl (by decide) rfl rfl (fun (h_101 : nI 1 = 0) => ?_) (fun (h_101 : ¬ (nI 1 = 0)) => ?_)
          · exact absurd h_101 (by decide)
          refine am_run 1 (pc' := 12) (ls' := [some (.ref 0), some (.int (nI 1)), some (.int (nI mk)), some (.int z)]) (st' := [.int (nI mk)]) (σ' := σ) rfl ?_
          refine am_invs (y := 240) (as := [.int (nI mk)]) (rest := []) rfl rfl rfl rfl rfl rfl (Nat.le_of_ble_eq_true rfl) ?_
          refine c_mask1_model (by omega) hmk hmv ?_
          show am_G _ M_X10_states _ 15 [some (.ref 0), some (.int (nI 1)), some (.int (nI mk)), some (.int z)] [.int (nI 1)] σ
          refine am_if (ty := 27) (tn := 18) rfl (by decide) rfl rfl (fun (h_102 : nI 1 = 0) => ?_) (fun (h_102 : ¬ (nI 1 = 0)) => ?_)
          · exact absurd h_102 (by decide)
          refine am_run 3 (pc' := 21) (ls' := [some (.ref 0), some (.int (nI 1)), some (.int (nI mk)), some (.int z)]) (st' := [.int (nI 2), .int (nI 0), .int z]) (σ' := σ) rfl ?_
          refine am_invs (y := 148) (as := [.int z, .int (nI 0), .int (nI 2)]) (rest := []) rfl rfl rfl rfl rfl rfl (Nat.le_of_ble_eq_true rfl) ?_
          refine c_in0 (by omega) hz ?_
          show am_G _ M_X10_states _ 24 [some (.ref 0), some (.int (nI 1)), some (.int (nI mk)), some (.int z)] [.int (nI 0)] σ
          refine am_if (ty := 27) (tn := 30) rfl (by decide) rfl rfl (fun (h_103 : nI 0 = 0) => ?_) (fun (h_103 : ¬ (nI 0 = 0)) => ?_)
          rotate_left
          · exact absurd (by decide) h_103
          refine am_run 1 (pc' := 29) (ls' := [some (.ref 0), some (.int (nI 1)), some (.int (nI mk)), some (.int z)]) (st' := [.int (-1000002)]) (σ' := σ) rfl ?_
          refine am_reti rfl rfl ?_
          exact ⟨rfl, hI⟩
        · skip
          refine ⟨-1000002, ?_⟩
          refine am_enter' (M := M_X9_states) rfl rfl rfl (by omega) (ls := [some (.ref 41), some (.int (nI 1)), some (.int (nI mk)), some (.int z), none]) rfl (fun d' hd' => ?_)
          refine am_run 2 (pc' := 2) (ls' := [some (.ref 41), some (.int (nI 1)), some (.int (nI mk)), some (.int z), none]) (st' := [.int (nI 1), .ref 41]) (σ' := σ) rfl ?_
          refine am_invv (y := 140) (b := 41) (as := [.int (nI 1)]) (rest := []) rfl rfl rfl rfl rfl rfl rfl (Nat.le_of_ble_eq_true rfl) ?_
          refine c_filled1_1 (by omega) hf ?_
          show am_G _ M_X9_states _ 5 [some (.ref 41), some (.int (nI 1)), some (.int (nI mk)), some (.int z), none] [.ref 75] σ
          refine am_run 4 (pc' := 16) (ls' := [some (.ref 41), some (.int (nI 1)), some (.int (nI mk)), some (.int z), some (.ref 75)]) (st' := [.int (nI mk)]) (σ' := σ) rfl ?_
          refine am_invs (y := 142) (as := [.int (nI mk)]) (rest := []) rfl rfl rfl rfl rfl rfl (Nat.le_of_ble_eq_true rfl) ?_
          refine c_mask1_class (by omega) hmk hmv ?_
          show am_G _ M_X9_states _ 19 [some (.ref 41), some (.int (nI 1)), some (.int (nI mk)), some (.int z), some (.ref 75)] [.int (nI 1)] σ
          refine am_if (ty := 31) (tn := 22) rfl (by decide) rfl rfl (fun (h_1 : nI 1 = 0) => ?_) (fun (h_1 : ¬ (nI 1 = 0)) => ?_)
          · exact absurd h_1 (by decide)
          refine am_run 1 (pc' := 23) (ls' := [some (.ref 41), some (.int (nI 1)), some (.int (nI mk)), some (.int z), some (.ref 75)]) (st' := [.int z]) (σ' := σ) rfl ?_
          refine am_if (ty := 31) (tn := 26) rfl (by decide) rfl rfl (fun (h_2 : z < 0) => ?_) (fun (h_2 : ¬ (z < 0)) => ?_)
          · exact absurd h_2 hz0
          refine am_run 2 (pc' := 28) (ls' := [some (.ref 41), some (.int (nI 1)), some (.int (nI mk)), some (.int z), some (.ref 75)]) (st' := [.int (nI 2), .int z]) (σ' := σ) rfl ?_
          refine am_ic (ty := 31) (tn := 34) rfl (by decide) rfl rfl (fun (h_3 : nI 2 < z) => ?_) (fun (h_3 : ¬ (nI 2 < z)) => ?_)
          rotate_left
          · exact absurd hzb h_3
          refine am_run 1 (pc' := 33) (ls' := [some (.ref 41), some (.int (nI 1)), some (.int (nI mk)), some (.int z), some (.ref 75)]) (st' := [.int (-1000002)]) (σ' := σ) rfl ?_
          refine am_reti rfl rfl ?_
          refine ⟨rfl, ?_⟩
          refine am_enter' (M := M_X10_states) rfl rfl rfl (by omega) (ls := [some (.ref 0), some (.int (nI 1)), some (.int (nI mk)), some (.int z)]) rfl (fun d2 hd2 => ?_)
          refine am_run 2 (pc' := 2) (ls' := [some (.ref 0), some (.int (nI 1)), some (.int (nI mk)), some (.int z)]) (st' := [.int (nI 1), .ref 0]) (σ' := σ) rfl ?_
          refine am_invv (y := 151) (b := 0) (as := [.int (nI 1)]) (rest := []) rfl rfl rfl rfl rfl rfl rfl (Nat.le_of_ble_eq_true rfl) ?_
          refine c_prog1_1 (by omega) (n := n) (by exact hn2) hn1 hn60 ?_
          show am_G _ M_X10_states _ 5 [some (.ref 0), some (.int (nI 1)), some (.int (nI mk)), some (.int z)] [.int (nI 1)] σ
          refine am_if (ty := 8) (tn := 11) rfl (by decide) rfl rfl (fun (h_101 : nI 1 = 0) => ?_) (fun (h_101 : ¬ (nI 1 = 0)) => ?_)
          · exact absurd h_101 (by decide)
          refine am_run 1 (pc' := 12) (ls' := [some (.ref 0), some (.int (nI 1)), some (.int (nI mk)), some (.int z)]) (st' := [.int (nI mk)]) (σ' := σ) rfl ?_
          refine am_invs (y := 240) (as := [.int (nI mk)]) (rest := []) rfl rfl rfl rfl rfl rfl (Nat.le_of_ble_eq_true rfl) ?_
          refine c_mask1_model (by omega) hmk hmv ?_
          show am_G _ M_X10_states _ 15 [some (.ref 0), some (.int (nI 1)), some (.int (nI mk)), some (.int z)] [.int (nI 1)] σ
          refine am_if (ty := 27) (tn := 18) rfl (by decide) rfl rfl (fun (h_102 : nI 1 = 0) => ?_) (fun (h_102 : ¬ (nI 1 = 0)) => ?_)
          · exact absurd h_102 (by decide)
          refine am_run 3 (pc' := 21) (ls' := [some (.ref 0), some (.int (nI 1)), some (.int (nI mk)), some (.int z)]) (st' := [.int (nI 2), .int (nI 0), .int z]) (σ' := σ) rfl ?_
          refine am_invs (y := 148) (as := [.int z, .int (nI 0), .int (nI 2)]) (rest := []) rfl rfl rfl rfl rfl rfl (Nat.le_of_ble_eq_true rfl) ?_
          refine c_in0 (by omega) hz ?_
          show am_G _ M_X10_states _ 24 [some (.ref 0), some (.int (nI 1)), some (.int (nI mk)), some (.int z)] [.int (nI 0)] σ
          refine am_if (ty := 27) (tn := 30) rfl (by decide) rfl rfl (fun (h_103 : nI 0 = 0) => ?_) (fun (h_103 : ¬ (nI 0 = 0)) => ?_)
          rotate_left
          · exact absurd (by decide) h_103
          refine am_run 1 (pc' := 29) (ls' := [some (.ref 0), some (.int (nI 1)), some (.int (nI mk)), some (.int z)]) (st' := [.int (-1000002)]) (σ' := σ) rfl ?_
          refine am_reti rfl rfl ?_
          exact ⟨rfl, hI⟩
    · skip
      refine ⟨-1000002, ?_⟩
      refine am_enter' (M := M_X9_states) rfl rfl rfl (by omega) (ls := [some (.ref 41), some (.int (nI 1)), some (.int y), some (.int z), none]) rfl (fun d' hd' => ?_)
      refine am_run 2 (pc' := 2) (ls' := [some (.ref 41), some (.int (nI 1)), some (.int y), some (.int z), none]) (st' := [.int (nI 1), .ref 41]) (σ' := σ) rfl ?_
      refine am_invv (y := 140) (b := 41) (as := [.int (nI 1)]) (rest := []) rfl rfl rfl rfl rfl rfl rfl (Nat.le_of_ble_eq_true rfl) ?_
      refine c_filled1_1 (by omega) hf ?_
      show am_G _ M_X9_states _ 5 [some (.ref 41), some (.int (nI 1)), some (.int y), some (.int z), none] [.ref 75] σ
      refine am_run 4 (pc' := 16) (ls' := [some (.ref 41), some (.int (nI 1)), some (.int y), some (.int z), some (.ref 75)]) (st' := [.int y]) (σ' := σ) rfl ?_
      refine am_invs (y := 142) (as := [.int y]) (rest := []) rfl rfl rfl rfl rfl rfl (Nat.le_of_ble_eq_true rfl) ?_
      refine c_mask0_class (by omega) hNM ?_
      show am_G _ M_X9_states _ 19 [some (.ref 41), some (.int (nI 1)), some (.int y), some (.int z), some (.ref 75)] [.int (nI 0)] σ
      refine am_if (ty := 31) (tn := 22) rfl (by decide) rfl rfl (fun (h_1 : nI 0 = 0) => ?_) (fun (h_1 : ¬ (nI 0 = 0)) => ?_)
      rotate_left
      · exact absurd (by decide) h_1
      refine am_run 1 (pc' := 33) (ls' := [some (.ref 41), some (.int (nI 1)), some (.int y), some (.int z), some (.ref 75)]) (st' := [.int (-1000002)]) (σ' := σ) rfl ?_
      refine am_reti rfl rfl ?_
      refine ⟨rfl, ?_⟩
      refine am_enter' (M := M_X10_states) rfl rfl rfl (by omega) (ls := [some (.ref 0), some (.int (nI 1)), some (.int y), some (.int z)]) rfl (fun d2 hd2 => ?_)
      refine am_run 2 (pc' := 2) (ls' := [some (.ref 0), some (.int (nI 1)), some (.int y), some (.int z)]) (st' := [.int (nI 1), .ref 0]) (σ' := σ) rfl ?_
      refine am_invv (y := 151) (b := 0) (as := [.int (nI 1)]) (rest := []) rfl rfl rfl rfl rfl rfl rfl (Nat.le_of_ble_eq_true rfl) ?_
      refine c_prog1_1 (by omega) (n := n) (by exact hn2) hn1 hn60 ?_
      show am_G _ M_X10_states _ 5 [some (.ref 0), some (.int (nI 1)), some (.int y), some (.int z)] [.int (nI 1)] σ
      refine am_if (ty := 8) (tn := 11) rfl (by decide) rfl rfl (fun (h_101 : nI 1 = 0) => ?_) (fun (h_101 : ¬ (nI 1 = 0)) => ?_)
      · exact absurd h_101 (by decide)
      refine am_run 1 (pc' := 12) (ls' := [some (.ref 0), some (.int (nI 1)), some (.int y), some (.int z)]) (st' := [.int y]) (σ' := σ) rfl ?_
      refine am_invs (y := 240) (as := [.int y]) (rest := []) rfl rfl rfl rfl rfl rfl (Nat.le_of_ble_eq_true rfl) ?_
      refine c_mask0_model (by omega) hNM ?_
      show am_G _ M_X10_states _ 15 [some (.ref 0), some (.int (nI 1)), some (.int y), some (.int z)] [.int (nI 0)] σ
      refine am_if (ty := 27) (tn := 18) rfl (by decide) rfl rfl (fun (h_102 : nI 0 = 0) => ?_) (fun (h_102 : ¬ (nI 0 = 0)) => ?_)
      rotate_left
      · exact absurd (by decide) h_102
      refine am_run 1 (pc' := 29) (ls' := [some (.ref 0), some (.int (nI 1)), some (.int y), some (.int z)]) (st' := [.int (-1000002)]) (σ' := σ) rfl ?_
      refine am_reti rfl rfl ?_
      exact ⟨rfl, hI⟩

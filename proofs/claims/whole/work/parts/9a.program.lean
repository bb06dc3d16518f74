/-! the pair of program -/
theorem keepPL {μ μ' : Nat → Nat → Int32} {τ : Nat → Nat → Nat} {σ2 : am_M} {t : Nat} {v w : Int32} (hT : T3 t) (hK : KC μ μ' t) (hP : KPr (am_wr (am_wr (μ', τ) 42 1 v) 41 7 w) σ2) {j q : Nat} (hjq : (j = 0 ∧ q = 73) ∨ (j = 1 ∧ q = 75)) (hPL : PL (μ, τ) j q) (hq3 : T3 (τ q 1)) (hne : τ q 1 ≠ t) : PL σ2 j q := by
  obtain ⟨k1, k2, k3, k4, k5⟩ := hP
  unfold T3 at hT hq3
  have e1 : ∀ c, c ≠ 41 → c ≠ 42 → c ≠ 44 → (c < t ∨ t + 8 < c) → (am_wr (am_wr (μ', τ) 42 1 v) 41 7 w).1 c = μ c := fun c a b e f => by
    rw [am_wr_ne _ a, am_wr_ne _ b]
    exact hK c e f
  have hc : ∀ c, c = 1 ∨ (17 ≤ c ∧ c ≤ 19) ∨ 43 ≤ c → c ≠ 44 → (c < t ∨ t + 8 < c) → σ2.1 c = μ c := fun c a b e => (k1 c (by omega)).trans (e1 c (by omega) (by omega) b e)
  refine hPL.keepS ⟨fun c a b => ?_, fun c x a b e f => ?_, fun x f => ?_, ?_, ?_, fun i f => ?_⟩ (fun c a b => ?_) ?_ ?_ ?_
  · rw [k3 c j a b (by omega), e1 c (by omega) (by omega) (by omega) (by omega)]
  · rw [k4 c _ a b e (by omega), e1 c (by omega) (by omega) (by omega) (by omega)]
  · rw [k5 _ (by omega), e1 11 (by omega) (by omega) (by omega) (by omega)]
  · rw [hc 17 (by omega) (by omega) (by omega)]
  · rw [hc 19 (by omega) (by omega) (by omega)]
  · rw [hc 18 (by omega) (by omega) (by omega)]
  · have a : τ q 1 ≤ c := a
    have b : c ≤ τ q 1 + 8 := b
    exact hc c (by omega) (by omega) (by omega)
  · rw [k2]
    rfl
  · exact hc q (by omega) (by omega) (by omega)
  · exact hc (q + 1) (by omega) (by omega) (by omega)
/-- a text that isn't sound leaves both places as they were -/
theorem Inv.bad {μ μ' : Nat → Nat → Int32} {τ : Nat → Nat → Nat} {σ2 : am_M} {k : Nat} (hI : Inv (μ, τ)) (hK : KC μ μ' (τ 44 1)) (hP : KPr (am_wr (am_wr (μ', τ) 42 1 (nI 0)) 41 7 (nI k)) σ2) (h01 : σ2.1 0 1 = nI 0) (h02 : σ2.1 0 2 = nI k) : Inv σ2 := by
  obtain ⟨-, -, hT, hG, i0, i1⟩ := hI
  have hT0 := hT
  obtain ⟨t1, t2, t3, t4, t5, t6⟩ := hT
  have t1 : T3 (τ 44 1) := t1
  have t2 : T3 (τ 73 1) := t2
  have t3 : T3 (τ 75 1) := t3
  have t4 : τ 44 1 ≠ τ 73 1 := t4
  have t5 : τ 44 1 ≠ τ 75 1 := t5
  refine ⟨⟨0, by decide, ?_, h01, fun i hi => absurd hi (Nat.not_lt_zero _)⟩, ?_, ?_, ?_, keepPL t1 hK hP (Or.inl ⟨rfl, rfl⟩) i0 t2 (fun z => t4 z.symm), keepPL t1 hK hP (Or.inr ⟨rfl, rfl⟩) i1 t3 (fun z => t5 z.symm)⟩
  · rw [hP.1 42 (by omega), am_wr_ne _ (by decide), am_same]
  · rw [hP.1 41 (by omega), am_same, h02]
  · unfold TS
    rw [hP.2.1]
    exact hT0
  · unfold GS
    rw [hP.2.1]
    exact hG
/-- a sound text: the place has its program, the other one is as it was -/
theorem Inv.good {μ μ' : Nat → Nat → Int32} {τ : Nat → Nat → Nat} {σ3 σ2 : am_M} {L r j q j' q' p : Nat} {S : PS} {g : Nat → Nat → Nat} (hI : Inv (μ, τ)) (hK : KC μ μ' (τ 44 1)) (hjq : (j = 0 ∧ q = 73 ∧ j' = 1 ∧ q' = 75) ∨ (j = 1 ∧ q = 75 ∧ j' = 0 ∧ q' = 73)) (hC : CR μ' (τ 44 1) L (ps_at S p)) (hr : μ' (τ 44 1) 10 = nI r) (hP : KPr (MCx μ' τ q (τ 44 1) (τ q 1)) σ3) (hS : SPR σ3 S.2.2.2 g S.2.1 r S.2.2.1) (h01 : σ3.1 0 1 = nI 0) (h02 : σ3.1 0 2 = nI 0) (hb : BC σ3 σ2 j) : Inv σ2 := by
  obtain ⟨-, -, hT, hG, i0, i1⟩ := hI
  obtain ⟨t1, t2, t3, t4, t5, t6⟩ := hT
  have t1 : T3 (τ 44 1) := t1
  have t2 : T3 (τ 73 1) := t2
  have t3 : T3 (τ 75 1) := t3
  have t4 : τ 44 1 ≠ τ 73 1 := t4
  have t5 : τ 44 1 ≠ τ 75 1 := t5
  have t6 : τ 73 1 ≠ τ 75 1 := t6
  obtain ⟨t, ht⟩ : ∃ t, t = τ 44 1 := ⟨_, rfl⟩
  rw [← ht] at hK hC hr hP t1 t4 t5
  have u1 := t1
  have u2 := t2
  have u3 := t3
  unfold T3 at u1 u2 u3
  obtain ⟨k1, k2, k3, k4, k5⟩ := hP
  obtain ⟨b1, b2, b3, b4, b5, b6, b7⟩ := id hb
  have q7 : q = 73 ∨ q = 75 := by omega
  have q7' : q' = 73 ∨ q' = 75 := by omega
  -- the class's memory
  have m0 : ∀ c, c ≠ q → c ≠ 41 → c ≠ 42 → (MCx μ' τ q t (τ q 1)).1 c = μ' c := fun c a b e => by
    unfold MCx
    rw [am_wr_ne _ a, am_wr_ne _ a, am_wr_ne _ a]
    show (am_wr (am_wr (μ', τ) 42 1 (nI 0)) 41 7 (nI 0)).1 c = μ' c
    rw [am_wr_ne _ b, am_wr_ne _ e]
  have m1 : ∀ c, c ≠ q → c ≠ 41 → c ≠ 42 → c ≠ 44 → (c < t ∨ t + 8 < c) → (MCx μ' τ q t (τ q 1)).1 c = μ c := fun c a b e f h => (m0 c a b e).trans (hK c f h)
  have mR : ∀ c k, σ2.2 c k = if c = q ∧ k = 1 then t else if c = 44 ∧ k = 1 then τ q 1 else τ c k := fun c k => by
    rw [b2, k2]
    rfl
  have s1 : ∀ c, 41 ≤ c → σ2.1 c = (MCx μ' τ q t (τ q 1)).1 c := fun c a => (b1 c (by omega)).trans (k1 c (by omega))
  have w2 : (MCx μ' τ q t (τ q 1)).1 q 2 = nI 1 := by unfold MCx; rw [am_diff _ _ _ _ _ (by decide), am_diff _ _ _ _ _ (by decide), am_same]
  have w3 : (MCx μ' τ q t (τ q 1)).1 q 3 = nI 1048576 := by unfold MCx; rw [am_diff _ _ _ _ _ (by decide), am_same]
  have w4 : (MCx μ' τ q t (τ q 1)).1 q 4 = nI 0 := by unfold MCx; rw [am_same]
  have w41 : (MCx μ' τ q t (τ q 1)).1 41 7 = nI 0 := by
    unfold MCx
    rw [am_wr_ne _ (by omega), am_wr_ne _ (by omega), am_wr_ne _ (by omega)]
    show (am_wr (am_wr (μ', τ) 42 1 (nI 0)) 41 7 (nI 0)).1 41 7 = nI 0
    rw [am_same]
  have w42 : (MCx μ' τ q t (τ q 1)).1 42 1 = nI 0 := by
    unfold MCx
    rw [am_wr_ne _ (by omega), am_wr_ne _ (by omega), am_wr_ne _ (by omega)]
    show (am_wr (am_wr (μ', τ) 42 1 (nI 0)) 41 7 (nI 0)).1 42 1 = nI 0
    rw [am_wr_ne _ (by decide), am_same]
  obtain ⟨c1, c2, c3, c4, c5, c6, c7, c8⟩ := hC
  have st : ∀ c, t ≤ c → c ≤ t + 8 → σ2.1 c = μ' c := fun c a b => (s1 c (by omega)).trans (m0 c (by omega) (by omega) (by omega))
  have hnew : PL σ2 j q := by
    refine newPL (t := t) (by omega) hS hb (by rw [mR, if_pos ⟨rfl, rfl⟩]) ⟨t1, by rw [st t (by omega) (by omega)]; exact c6, fun i hi => ?_⟩ (by rw [st t (by omega) (by omega)]; exact hr) (by rw [st t (by omega) (by omega)]; exact c7) (fun i hi => ?_) (by rw [s1 q (by omega)]; exact w2) (by rw [s1 q (by omega)]; exact w3) (by rw [s1 q (by omega)]; exact w4)
    · obtain ⟨r1, r2, r3, r4, r5, r6, r7, r8, -⟩ := c8 i hi
      rw [st _ (by omega) (by omega), st _ (by omega) (by omega), st _ (by omega) (by omega), st _ (by omega) (by omega), st _ (by omega) (by omega)]
      exact ⟨r1, r2, r4, r5, r8⟩
    · obtain ⟨r1, r2, r3, r4, r5, r6, r7, r8, -⟩ := c8 i hi
      rw [st _ (by omega) (by omega), st _ (by omega) (by omega)]
      exact ⟨r6, r7⟩
  have hold : PL (μ, τ) j' q' := by
    rcases hjq with ⟨-, -, rfl, rfl⟩ | ⟨-, -, rfl, rfl⟩
    · exact i1
    · exact i0
  have tq' : T3 (τ q' 1) ∧ τ q' 1 ≠ t := by
    rcases q7' with rfl | rfl
    · exact ⟨t2, fun z => t4 z.symm⟩
    · exact ⟨t3, fun z => t5 z.symm⟩
  have u4 := tq'.1
  have u5 := tq'.2
  unfold T3 at u4
  have hoth : PL σ2 j' q' := by
    refine hold.keepS ⟨fun c a b => ?_, fun c x a b e f => ?_, fun x f => ?_, ?_, ?_, fun i f => ?_⟩ (fun c a b => ?_) ?_ ?_ ?_
    · rw [(b3 c a b).2 j' (by omega), k3 c j' a b (by omega), m1 c (by omega) (by omega) (by omega) (by omega) (by omega)]
    · rw [(b4 c a b e).2 _ (by omega), k4 c _ a b e (by omega), m1 c (by omega) (by omega) (by omega) (by omega) (by omega)]
    · rw [b5.2 _ (by omega), k5 _ (by omega), m1 11 (by omega) (by omega) (by omega) (by omega) (by omega)]
    · rw [b6.2 j' (by omega), k1 17 (by omega), m1 17 (by omega) (by omega) (by omega) (by omega) (by omega)]
    · rw [b7.2 j' (by omega), k1 19 (by omega), m1 19 (by omega) (by omega) (by omega) (by omega) (by omega)]
    · rw [b1 18 (by omega), k1 18 (by omega), m1 18 (by omega) (by omega) (by omega) (by omega) (by omega)]
    · have a : τ q' 1 ≤ c := a
      have b : c ≤ τ q' 1 + 8 := b
      exact (s1 c (by omega)).trans (m1 c (by omega) (by omega) (by omega) (by omega) (by omega))
    · funext k
      rw [mR, if_neg (by omega), if_neg (by omega)]
    · exact (s1 q' (by omega)).trans (m1 q' (by omega) (by omega) (by omega) (by omega) (by omega))
    · exact (s1 (q' + 1) (by omega)).trans (m1 (q' + 1) (by omega) (by omega) (by omega) (by omega) (by omega))
  refine ⟨⟨0, by decide, ?_, ?_, fun i hi => absurd hi (Nat.not_lt_zero _)⟩, ?_, ?_, ?_, ?_, ?_⟩
  · rw [s1 42 (by decide)]
    exact w42
  · rw [b1 0 (by omega)]
    exact h01
  · rw [s1 41 (by decide), b1 0 (by omega), w41, h02]
  · unfold TS
    rw [mR, mR, mR, if_neg (show ¬ (44 = q ∧ 1 = 1) by omega), if_pos (⟨rfl, rfl⟩ : (44 = 44 ∧ 1 = 1)), if_neg (show ¬ (73 = 44 ∧ 1 = 1) by omega), if_neg (show ¬ (75 = 44 ∧ 1 = 1) by omega)]
    rcases q7 with rfl | rfl
    · rw [if_pos (⟨rfl, rfl⟩ : (73 = 73 ∧ 1 = 1)), if_neg (show ¬ (75 = 73 ∧ 1 = 1) by omega)]
      exact ⟨t2, t1, t3, fun z => t4 z.symm, t6, t5⟩
    · rw [if_neg (show ¬ (73 = 75 ∧ 1 = 1) by omega), if_pos (⟨rfl, rfl⟩ : (75 = 75 ∧ 1 = 1))]
      exact ⟨t3, t2, t1, fun z => t6 z.symm, fun z => t5 z.symm, fun z => t4 z.symm⟩
  · unfold GS
    rw [mR, mR, if_neg (by omega), if_neg (by omega), if_neg (by omega), if_neg (by omega)]
    exact hG
  · rcases hjq with ⟨rfl, rfl, rfl, rfl⟩ | ⟨rfl, rfl, rfl, rfl⟩
    · exact hnew
    · exact hoth
  · rcases hjq with ⟨rfl, rfl, rfl, rfl⟩ | ⟨rfl, rfl, rfl, rfl⟩
    · exact hoth
    · exact hnew
set_option maxRecDepth 10000 in
set_option maxHeartbeats 2000000 in
theorem pr_program0 {d : Nat} (hd : 600 ≤ d) {σ : am_M} (hI : Inv σ) : PR d 124 182 [.int (nI 0)] σ := by
  obtain ⟨μ, τ⟩ := σ
  obtain ⟨⟨L, hL, t42, t01, hb⟩, -, hTS, -⟩ := id hI
  have t1 : T3 (τ 44 1) := hTS.1
  have ex : ∀ i, ∃ b, i < L → b < 256 ∧ μ 43 i = nI b ∧ μ 1 i = nI b := fun i => by
    by_cases hi : i < L
    · obtain ⟨b, hb⟩ := hb i hi
      exact ⟨b, fun _ => hb⟩
    · exact ⟨0, fun z => absurd z hi⟩
  obtain ⟨tx, htx⟩ := Classical.axiomOfChoice ex
  have hX : XC μ L tx := ⟨hL, t42, fun i hi => ⟨(htx i hi).1, (htx i hi).2.1⟩⟩
  have u1 := t1
  unfold T3 at u1
  have lo : ∀ {μ' : Nat → Nat → Int32}, KC μ μ' (τ 44 1) → ∀ c, c < 41 → μ' c = μ c := fun hK c hc => hK c (by omega) (by omega)
  have tm : ∀ {σ1 : am_M}, (∀ c, c < 41 → σ1.1 c = μ c) → TXm σ1 L tx := fun h => ⟨hL, by rw [h 0 (by decide)]; exact t01, fun i hi => ⟨(htx i hi).1, by rw [h 1 (by decide)]; exact (htx i hi).2.2⟩⟩
  have l2 : ∀ {μ' : Nat → Nat → Int32} {v w : Int32}, KC μ μ' (τ 44 1) → ∀ c, c < 41 → (am_wr (am_wr (μ', τ) 42 1 v) 41 7 w).1 c = μ c := fun hK c hc => by
    rw [am_wr_ne _ (by omega), am_wr_ne _ (by omega)]
    exact lo hK c hc
  match hrt : p_rt tx L with
  | .inl (k, fp) =>
    refine ⟨Int32.ofInt (-100) - nI fp, c_x_program0 (by omega) t1 rfl rfl hX (fun k' fp' μ' hx hK hF => ?_) (fun S r μ' hx _ _ => ?_) (fun S q r μ' hx _ _ _ _ => ?_)⟩
    · rw [hrt] at hx
      have e := Sum.inl.inj hx
      have e1 : k = k' := congrArg Prod.fst e
      have e2 : fp = fp' := congrArg Prod.snd e
      subst e1
      subst e2
      refine ⟨rfl, c_m_program (j := 0) (by omega) (tm (l2 hK)) (by decide) (fun k' pl hy => ?_) (fun k' pl σ2 hy hP h01 h02 => ?_) (fun S r σ2 hy _ _ _ _ => ?_) (fun S r g σ3 σ2 hy _ _ _ _ _ _ => ?_)⟩
      · rw [hrt] at hy
        have e1 : k = k' := congrArg Prod.fst (Sum.inl.inj hy)
        rw [← e1]
        exact hF.2.2
      · rw [hrt] at hy
        have e := Sum.inl.inj hy
        have e1 : k = k' := congrArg Prod.fst e
        have e2 : fp = pl := congrArg Prod.snd e
        subst e1
        subst e2
        exact ⟨rfl, hI.bad hK hP h01 h02⟩
      · rw [hrt] at hy
        cases hy
      · rw [hrt] at hy
        cases hy
    · rw [hrt] at hx
      cases hx
    · rw [hrt] at hx
      cases hx
  | .inr (S, r) =>
    have inj : ∀ {S' : PS} {r' : Nat}, p_rt tx L = .inr (S', r') → S = S' ∧ r = r' := fun hy => by
      rw [hrt] at hy
      have e := Sum.inr.inj hy
      exact ⟨congrArg Prod.fst e, congrArg Prod.snd e⟩
    rcases fz_k (p := S.2.2.2) (n := S.2.1) S.2.1 (Nat.le_refl _) with hz | ⟨hz, -⟩
    · refine ⟨nI S.2.2.1, c_x_program0 (by omega) t1 rfl rfl hX (fun k' fp' μ' hx _ _ => ?_) (fun S' r' μ' hx hz' _ => ?_) (fun S' p r' μ' hx _ hK hC hr => ?_)⟩
      · rw [hrt] at hx
        cases hx
      · obtain ⟨rfl, rfl⟩ := inj hx
        omega
      · obtain ⟨rfl, rfl⟩ := inj hx
        have l3 : ∀ c, c < 41 → (MCx μ' τ 73 (τ 44 1) (τ 73 1)).1 c = μ c := fun c hc => by
          unfold MCx
          rw [am_wr_ne _ (by omega), am_wr_ne _ (by omega), am_wr_ne _ (by omega)]
          exact l2 hK c hc
        refine ⟨rfl, c_m_program (j := 0) (by omega) (tm l3) (by decide) (fun k' pl hy => ?_) (fun k' pl σ2 hy _ _ _ => ?_) (fun S' r' σ2 hy hz' _ _ _ => ?_) (fun S' r' g σ3 σ2 hy _ hP hS h01 h02 hb => ?_)⟩
        · rw [hrt] at hy
          cases hy
        · rw [hrt] at hy
          cases hy
        · obtain ⟨rfl, rfl⟩ := inj hy
          omega
        · obtain ⟨rfl, rfl⟩ := inj hy
          exact ⟨rfl, hI.good (j := 0) (q := 73) (j' := 1) (q' := 75) hK (by omega) hC hr hP hS h01 h02 hb⟩
    · refine ⟨Int32.ofInt (-100) - nI (S.2.2.2 5 (fz S.2.2.2 S.2.1 S.2.1)), c_x_program0 (by omega) t1 rfl rfl hX (fun k' fp' μ' hx _ _ => ?_) (fun S' r' μ' hx _ hK => ?_) (fun S' p r' μ' hx hz' _ _ _ => ?_)⟩
      · rw [hrt] at hx
        cases hx
      · obtain ⟨rfl, rfl⟩ := inj hx
        refine ⟨rfl, c_m_program (j := 0) (by omega) (tm (l2 hK)) (by decide) (fun k' pl hy => ?_) (fun k' pl σ2 hy _ _ _ => ?_) (fun S' r' σ2 hy _ hP h01 h02 => ?_) (fun S' r' g σ3 σ2 hy hz' _ _ _ _ _ => ?_)⟩
        · rw [hrt] at hy
          cases hy
        · rw [hrt] at hy
          cases hy
        · obtain ⟨rfl, rfl⟩ := inj hy
          exact ⟨rfl, hI.bad hK hP h01 h02⟩
        · obtain ⟨rfl, rfl⟩ := inj hy
          omega
      · obtain ⟨rfl, rfl⟩ := inj hx
        omega
set_option maxRecDepth 10000 in
set_option maxHeartbeats 2000000 in
theorem pr_program1 {d : Nat} (hd : 600 ≤ d) {σ : am_M} (hI : Inv σ) : PR d 124 182 [.int (nI 1)] σ := by
  obtain ⟨μ, τ⟩ := σ
  obtain ⟨⟨L, hL, t42, t01, hb⟩, -, hTS, -⟩ := id hI
  have t1 : T3 (τ 44 1) := hTS.1
  have ex : ∀ i, ∃ b, i < L → b < 256 ∧ μ 43 i = nI b ∧ μ 1 i = nI b := fun i => by
    by_cases hi : i < L
    · obtain ⟨b, hb⟩ := hb i hi
      exact ⟨b, fun _ => hb⟩
    · exact ⟨0, fun z => absurd z hi⟩
  obtain ⟨tx, htx⟩ := Classical.axiomOfChoice ex
  have hX : XC μ L tx := ⟨hL, t42, fun i hi => ⟨(htx i hi).1, (htx i hi).2.1⟩⟩
  have u1 := t1
  unfold T3 at u1
  have lo : ∀ {μ' : Nat → Nat → Int32}, KC μ μ' (τ 44 1) → ∀ c, c < 41 → μ' c = μ c := fun hK c hc => hK c (by omega) (by omega)
  have tm : ∀ {σ1 : am_M}, (∀ c, c < 41 → σ1.1 c = μ c) → TXm σ1 L tx := fun h => ⟨hL, by rw [h 0 (by decide)]; exact t01, fun i hi => ⟨(htx i hi).1, by rw [h 1 (by decide)]; exact (htx i hi).2.2⟩⟩
  have l2 : ∀ {μ' : Nat → Nat → Int32} {v w : Int32}, KC μ μ' (τ 44 1) → ∀ c, c < 41 → (am_wr (am_wr (μ', τ) 42 1 v) 41 7 w).1 c = μ c := fun hK c hc => by
    rw [am_wr_ne _ (by omega), am_wr_ne _ (by omega)]
    exact lo hK c hc
  match hrt : p_rt tx L with
  | .inl (k, fp) =>
    refine ⟨Int32.ofInt (-100) - nI fp, c_x_program1 (by omega) t1 rfl rfl hX (fun k' fp' μ' hx hK hF => ?_) (fun S r μ' hx _ _ => ?_) (fun S q r μ' hx _ _ _ _ => ?_)⟩
    · rw [hrt] at hx
      have e := Sum.inl.inj hx
      have e1 : k = k' := congrArg Prod.fst e
      have e2 : fp = fp' := congrArg Prod.snd e
      subst e1
      subst e2
      refine ⟨rfl, c_m_program (j := 1) (by omega) (tm (l2 hK)) (by decide) (fun k' pl hy => ?_) (fun k' pl σ2 hy hP h01 h02 => ?_) (fun S r σ2 hy _ _ _ _ => ?_) (fun S r g σ3 σ2 hy _ _ _ _ _ _ => ?_)⟩
      · rw [hrt] at hy
        have e1 : k = k' := congrArg Prod.fst (Sum.inl.inj hy)
        rw [← e1]
        exact hF.2.2
      · rw [hrt] at hy
        have e := Sum.inl.inj hy
        have e1 : k = k' := congrArg Prod.fst e
        have e2 : fp = pl := congrArg Prod.snd e
        subst e1
        subst e2
        exact ⟨rfl, hI.bad hK hP h01 h02⟩
      · rw [hrt] at hy
        cases hy
      · rw [hrt] at hy
        cases hy
    · rw [hrt] at hx
      cases hx
    · rw [hrt] at hx
      cases hx
  | .inr (S, r) =>
    have inj : ∀ {S' : PS} {r' : Nat}, p_rt tx L = .inr (S', r') → S = S' ∧ r = r' := fun hy => by
      rw [hrt] at hy
      have e := Sum.inr.inj hy
      exact ⟨congrArg Prod.fst e, congrArg Prod.snd e⟩
    rcases fz_k (p := S.2.2.2) (n := S.2.1) S.2.1 (Nat.le_refl _) with hz | ⟨hz, -⟩
    · refine ⟨nI S.2.2.1, c_x_program1 (by omega) t1 rfl rfl hX (fun k' fp' μ' hx _ _ => ?_) (fun S' r' μ' hx hz' _ => ?_) (fun S' p r' μ' hx _ hK hC hr => ?_)⟩
      · rw [hrt] at hx
        cases hx
      · obtain ⟨rfl, rfl⟩ := inj hx
        omega
      · obtain ⟨rfl, rfl⟩ := inj hx
        have l3 : ∀ c, c < 41 → (MCx μ' τ 75 (τ 44 1) (τ 75 1)).1 c = μ c := fun c hc => by
          unfold MCx
          rw [am_wr_ne _ (by omega), am_wr_ne _ (by omega), am_wr_ne _ (by omega)]
          exact l2 hK c hc
        refine ⟨rfl, c_m_program (j := 1) (by omega) (tm l3) (by decide) (fun k' pl hy => ?_) (fun k' pl σ2 hy _ _ _ => ?_) (fun S' r' σ2 hy hz' _ _ _ => ?_) (fun S' r' g σ3 σ2 hy _ hP hS h01 h02 hb => ?_)⟩
        · rw [hrt] at hy
          cases hy
        · rw [hrt] at hy
          cases hy
        · obtain ⟨rfl, rfl⟩ := inj hy
          omega
        · obtain ⟨rfl, rfl⟩ := inj hy
          exact ⟨rfl, hI.good (j := 1) (q := 75) (j' := 0) (q' := 73) hK (by omega) hC hr hP hS h01 h02 hb⟩
    · refine ⟨Int32.ofInt (-100) - nI (S.2.2.2 5 (fz S.2.2.2 S.2.1 S.2.1)), c_x_program1 (by omega) t1 rfl rfl hX (fun k' fp' μ' hx _ _ => ?_) (fun S' r' μ' hx _ hK => ?_) (fun S' p r' μ' hx hz' _ _ _ => ?_)⟩
      · rw [hrt] at hx
        cases hx
      · obtain ⟨rfl, rfl⟩ := inj hx
        refine ⟨rfl, c_m_program (j := 1) (by omega) (tm (l2 hK)) (by decide) (fun k' pl hy => ?_) (fun k' pl σ2 hy _ _ _ => ?_) (fun S' r' σ2 hy _ hP h01 h02 => ?_) (fun S' r' g σ3 σ2 hy hz' _ _ _ _ _ => ?_)⟩
        · rw [hrt] at hy
          cases hy
        · rw [hrt] at hy
          cases hy
        · obtain ⟨rfl, rfl⟩ := inj hy
          exact ⟨rfl, hI.bad hK hP h01 h02⟩
        · obtain ⟨rfl, rfl⟩ := inj hy
          omega
      · obtain ⟨rfl, rfl⟩ := inj hx
        omega
set_option maxRecDepth 10000 in
set_option maxHeartbeats 2000000 in
theorem pr_program {d : Nat} (hd : 600 ≤ d) {σ : am_M} (hI : Inv σ) (x : Int32) : PR d 124 182 [.int x] σ := by
  rcases i32_in x (k := 1) (by decide) with ⟨u, hu, rfl⟩ | h
  · rcases (show u = 0 ∨ u = 1 by omega) with rfl | rfl
    · exact pr_program0 hd hI
    · exact pr_program1 hd hI
  · refine ⟨-1000001, ?_⟩
    have h0 := h
    rcases h with hx | ⟨hx0, hx⟩
    · refine am_enter' (M := M_X9_program) rfl rfl rfl (by omega) (ls := [some (.ref 41), some (.int x), none]) rfl (fun d' hd' => ?_)
      refine am_run 2 (pc' := 2) (ls' := [some (.ref 41), some (.int x), none]) (st' := [.int x, .ref 41]) (σ' := σ) rfl ?_
      refine am_invv (y := 139) (b := 41) (as := [.int x]) (rest := []) rfl rfl rfl rfl rfl rfl rfl (Nat.le_of_ble_eq_true rfl) ?_
      refine am_enter' rfl rfl rfl (by omega) (ls := [some (.ref 41), some (.int x)]) rfl (fun d_1 hd_1 => ?_)
      refine am_run 1 (pc' := 1) (ls' := [some (.ref 41), some (.int x)]) (st' := [.int x]) (σ' := σ) rfl ?_
      refine am_if (ty := 22) (tn := 4) rfl (by decide) rfl rfl (fun (h_2 : x < 0) => ?_) (fun (h_2 : ¬ (x < 0)) => ?_)
      rotate_left
      · exact absurd hx h_2
      refine am_run 1 (pc' := 23) (ls' := [some (.ref 41), some (.int x)]) (st' := [.null]) (σ' := σ) rfl ?_
      refine am_reta rfl rfl (Or.inl rfl) ?_
      show am_G _ M_X9_program _ 5 [some (.ref 41), some (.int x), none] [.null] σ
      refine am_run 4 (pc' := 12) (ls' := [some (.ref 41), some (.int x), some (.null)]) (st' := [.int (-1000001)]) (σ' := σ) rfl ?_
      refine am_reti rfl rfl ?_
      refine ⟨rfl, ?_⟩
      refine am_enter' (M := M_X10_program) rfl rfl rfl (by omega) (ls := [some (.ref 0), some (.int x), none, none]) rfl (fun d2 hd2 => ?_)
      refine am_run 3 (pc' := 3) (ls' := [some (.ref 0), some (.int x), none, none]) (st' := [.int (nI 1), .int (nI 0), .int x]) (σ' := σ) rfl ?_
      refine am_invs (y := 148) (as := [.int x, .int (nI 0), .int (nI 1)]) (rest := []) rfl rfl rfl rfl rfl rfl (Nat.le_of_ble_eq_true rfl) ?_
      refine c_in0 (b := 1) (by omega) h0 ?_
      show am_G _ M_X10_program _ 6 [some (.ref 0), some (.int x), none, none] [.int (nI 0)] σ
      refine am_if (ty := 9) (tn := 12) rfl (by decide) rfl rfl (fun (h_101 : nI 0 = 0) => ?_) (fun (h_101 : ¬ (nI 0 = 0)) => ?_)
      rotate_left
      · exact absurd (by decide) h_101
      refine am_run 1 (pc' := 11) (ls' := [some (.ref 0), some (.int x), none, none]) (st' := [.int (-1000001)]) (σ' := σ) rfl ?_
      refine am_reti rfl rfl ?_
      exact ⟨rfl, hI⟩
    · refine am_enter' (M := M_X9_program) rfl rfl rfl (by omega) (ls := [some (.ref 41), some (.int x), none]) rfl (fun d' hd' => ?_)
      refine am_run 2 (pc' := 2) (ls' := [some (.ref 41), some (.int x), none]) (st' := [.int x, .ref 41]) (σ' := σ) rfl ?_
      refine am_invv (y := 139) (b := 41) (as := [.int x]) (rest := []) rfl rfl rfl rfl rfl rfl rfl (Nat.le_of_ble_eq_true rfl) ?_
      refine am_enter' rfl rfl rfl (by omega) (ls := [some (.ref 41), some (.int x)]) rfl (fun d_1 hd_1 => ?_)
      refine am_run 1 (pc' := 1) (ls' := [some (.ref 41), some (.int x)]) (st' := [.int x]) (σ' := σ) rfl ?_
      refine am_if (ty := 22) (tn := 4) rfl (by decide) rfl rfl (fun (h_2 : x < 0) => ?_) (fun (h_2 : ¬ (x < 0)) => ?_)
      · exact absurd h_2 hx0
      refine am_run 4 (pc' := 10) (ls' := [some (.ref 41), some (.int x)]) (st' := [.int (nI 2), .int x]) (σ' := σ) rfl ?_
      refine am_ic (ty := 13) (tn := 22) rfl (by decide) rfl rfl (fun (h_3 : x < nI 2) => ?_) (fun (h_3 : ¬ (x < nI 2)) => ?_)
      · exact absurd h_3 (big2 hx)
      refine am_run 1 (pc' := 23) (ls' := [some (.ref 41), some (.int x)]) (st' := [.null]) (σ' := σ) rfl ?_
      refine am_reta rfl rfl (Or.inl rfl) ?_
      show am_G _ M_X9_program _ 5 [some (.ref 41), some (.int x), none] [.null] σ
      refine am_run 4 (pc' := 12) (ls' := [some (.ref 41), some (.int x), some (.null)]) (st' := [.int (-1000001)]) (σ' := σ) rfl ?_
      refine am_reti rfl rfl ?_
      refine ⟨rfl, ?_⟩
      refine am_enter' (M := M_X10_program) rfl rfl rfl (by omega) (ls := [some (.ref 0), some (.int x), none, none]) rfl (fun d2 hd2 => ?_)
      refine am_run 3 (pc' := 3) (ls' := [some (.ref 0), some (.int x), none, none]) (st' := [.int (nI 1), .int (nI 0), .int x]) (σ' := σ) rfl ?_
      refine am_invs (y := 148) (as := [.int x, .int (nI 0), .int (nI 1)]) (rest := []) rfl rfl rfl rfl rfl rfl (Nat.le_of_ble_eq_true rfl) ?_
      refine c_in0 (b := 1) (by omega) h0 ?_
      show am_G _ M_X10_program _ 6 [some (.ref 0), some (.int x), none, none] [.int (nI 0)] σ
      refine am_if (ty := 9) (tn := 12) rfl (by decide) rfl rfl (fun (h_101 : nI 0 = 0) => ?_) (fun (h_101 : ¬ (nI 0 = 0)) => ?_)
      rotate_left
      · exact absurd (by decide) h_101
      refine am_run 1 (pc' := 11) (ls' := [some (.ref 0), some (.int x), none, none]) (st' := [.int (-1000001)]) (σ' := σ) rfl ?_
      refine am_reti rfl rfl ?_
      exact ⟨rfl, hI⟩

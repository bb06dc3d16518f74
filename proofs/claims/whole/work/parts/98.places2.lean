/-! the invariant of a place when another program is read -/
/-- what the reference holds of the place j is as it was -/
def SLj (σ σ' : am_M) (j : Nat) : Prop := (∀ c, 2 ≤ c → c ≤ 4 → σ'.1 c j = σ.1 c j) ∧ (∀ c x, 5 ≤ c → c ≤ 16 → c ≠ 11 → x < 60 → σ'.1 c (60 * j + x) = σ.1 c (60 * j + x)) ∧ (∀ x, x < 180 → σ'.1 11 (3 * (60 * j) + x) = σ.1 11 (3 * (60 * j) + x)) ∧ σ'.1 17 j = σ.1 17 j ∧ σ'.1 19 j = σ.1 19 j ∧ ∀ i, i < 20 → σ'.1 18 (20 * j + i) = σ.1 18 (20 * j + i)
theorem PL.keepS {σ σ' : am_M} {j q : Nat} (hP : PL σ j q) (hS : SLj σ σ' j) (hc : ∀ c, σ.2 q 1 ≤ c → c ≤ σ.2 q 1 + 8 → σ'.1 c = σ.1 c) (e : σ'.2 q = σ.2 q) (hq : σ'.1 q = σ.1 q) (hq1 : σ'.1 (q + 1) = σ.1 (q + 1)) : PL σ' j q := by
  obtain ⟨s1, s2, s3, s4, s5, s6⟩ := hS
  rcases hP with hP | ⟨h1, p, n, r, kk, rk, od, dp, ow, s, m, h2, h3⟩
  · exact Or.inl ⟨by rw [hq]; exact hP.1, by rw [s1 2 (by decide) (by decide)]; exact hP.2⟩
  · refine Or.inr ⟨by rw [hq]; exact h1, p, n, r, kk, rk, od, dp, ow, s, m, ?_, h3.keep hq hq1 s4 s5 s6⟩
    obtain ⟨g1, g2, g3, g4, g5, g6, g7, g8⟩ := h2
    obtain ⟨⟨hj, hW, hWT, hn2, hod, hrk, hMN⟩, hR, hO⟩ := g4
    have hn := hW.1
    have c0 : σ'.1 (σ.2 q 1) = σ.1 (σ.2 q 1) := hc _ (Nat.le_refl _) (by omega)
    obtain ⟨fs, ls, pa, hf⟩ := g8
    have h60 : ∀ c i, 5 ≤ c → c ≤ 16 → c ≠ 11 → i < n → σ'.1 c (60 * j + i) = σ.1 c (60 * j + i) := fun c i a b e f => s2 c i a b e (by omega)
    unfold PP ROOT
    rw [e, c0, s1 3 (by decide) (by decide)]
    refine ⟨g1, ⟨g2.1, by rw [c0]; exact g2.2.1, fun i hi => ?_⟩, g3, ⟨⟨hj, hW, hWT, by rw [s1 2 (by decide) (by decide)]; exact hn2, fun a ha => by rw [h60 9 a (by decide) (by decide) (by decide) ha]; exact hod a ha, hrk, fun i hi => ?_⟩, ⟨by rw [s1 4 (by decide) (by decide)]; exact hR.1, hR.2⟩, fun i hi z => by rw [h60 12 i (by decide) (by decide) (by decide) hi]; exact hO i hi z⟩, g5, g6, g7, fs, ls, pa, fun i hi => ?_⟩
    · rw [hc _ (by omega) (by omega), hc _ (by omega) (by omega), hc _ (by omega) (by omega), hc _ (by omega) (by omega), hc _ (by omega) (by omega)]
      exact g2.2.2 i hi
    · obtain ⟨m5, m6, m7, m8, m13, m10, m11⟩ := hMN i hi
      have hd3 := (hWT i hi).2.2.2.2.2.2.2.1
      refine ⟨by rw [h60 5 i (by decide) (by decide) (by decide) hi]; exact m5, by rw [h60 6 i (by decide) (by decide) (by decide) hi]; exact m6, by rw [h60 7 i (by decide) (by decide) (by decide) hi]; exact m7, by rw [h60 8 i (by decide) (by decide) (by decide) hi]; exact m8, by rw [h60 13 i (by decide) (by decide) (by decide) hi]; exact m13, by rw [h60 10 i (by decide) (by decide) (by decide) hi]; exact m10, fun a ha => ?_⟩
      have z := s3 (3 * i + a) (by omega)
      rw [show 3 * (60 * j) + (3 * i + a) = 3 * (60 * j + i) + a by omega] at z
      rw [z]
      exact m11 a ha
    · rw [hc _ (by omega) (by omega), hc _ (by omega) (by omega), h60 14 i (by decide) (by decide) (by decide) hi, h60 15 i (by decide) (by decide) (by decide) hi, h60 16 i (by decide) (by decide) (by decide) hi]
      exact hf i hi
/-- the place holds the program that has been read -/
theorem newPL {σ3 σ' : am_M} {p g : Nat → Nat → Nat} {n r kk j q t : Nat} (hj : j ≤ 1) (hS : SPR σ3 p g n r kk) (hb : BC σ3 σ' j) (e : σ'.2 q 1 = t) (hR : TR σ' t p n) (h10 : σ'.1 t 10 = nI r) (h9 : σ'.1 t 9 = nI kk) (h67 : ∀ i, i < n → σ'.1 (t + 6) i = nI (p 6 i) ∧ σ'.1 (t + 7) i = nI (p 7 i)) (q2 : σ'.1 q 2 = nI 1) (q3 : σ'.1 q 3 = nI 1048576) (q4 : σ'.1 q 4 = nI 0) : PL σ' j q := by
  obtain ⟨hY, h1314, h16, k3, hkk, k4, k15⟩ := hS
  obtain ⟨b1, b2, b3, b4, ⟨b5, -⟩, ⟨b6, -⟩, b7, -⟩ := hb
  obtain ⟨od, hM⟩ := hY.mp (fun k hk => (h1314 k hk).1)
  obtain ⟨-, hW, hWT, hn2, hod, hrk, hMN⟩ := hM
  have hn := hW.1
  have hr := hY.2.2.2.1.2.1
  have g60 : ∀ c i, 5 ≤ c → c ≤ 16 → c ≠ 11 → i < n → σ'.1 c (60 * j + i) = σ3.1 c (120 + i) := fun c i a b e f => (b4 c a b e).1 i (by omega)
  refine Or.inr ⟨q2, p, n, r, kk, g 2, od, g 0, (fun i y => g (7 + y) i), 1048576, 0, ⟨by omega, by rw [e]; exact hR, ?_, ⟨⟨by omega, hW, hWT, ?_, fun a ha => ?_, hrk, fun i hi => ?_⟩, ⟨?_, hr, hY.2.2.2.1.2.2.2.2.2.1⟩, fun i hi z => ?_⟩, by rw [e]; exact h9, ?_, hkk, p 6, p 7, (fun i => if i = r then 0 else g 1 i), fun i hi => ?_⟩, q3, b6, ⟨Nat.le_refl _, Or.inr (Or.inl rfl)⟩, q4, b7, by decide, fun i hi => absurd hi (Nat.not_lt_zero _)⟩
  · unfold ROOT
    rw [e, h10, oI_s]
  · rw [(b3 2 (by decide) (by decide)).1]
    exact hY.1
  · rw [g60 9 a (by decide) (by decide) (by decide) ha]
    exact hod a ha
  · obtain ⟨m5, m6, m7, m8, m13, m10, m11⟩ := hMN i hi
    have hd3 := (hWT i hi).2.2.2.2.2.2.2.1
    refine ⟨by rw [g60 5 i (by decide) (by decide) (by decide) hi]; exact m5, by rw [g60 6 i (by decide) (by decide) (by decide) hi]; exact m6, by rw [g60 7 i (by decide) (by decide) (by decide) hi]; exact m7, by rw [g60 8 i (by decide) (by decide) (by decide) hi]; exact m8, by rw [g60 13 i (by decide) (by decide) (by decide) hi]; exact m13, by rw [g60 10 i (by decide) (by decide) (by decide) hi]; exact m10, fun a ha => ?_⟩
    have z := b5 (3 * i + a) (by omega)
    rw [show 3 * (60 * j) + (3 * i + a) = 3 * (60 * j + i) + a by omega] at z
    rw [z]
    have y := m11 a ha
    rw [show 3 * (60 * 2 + i) + a = 360 + (3 * i + a) by omega] at y
    exact y
  · rw [(b3 4 (by decide) (by decide)).1]
    exact k4
  · rw [g60 12 i (by decide) (by decide) (by decide) hi]
    obtain ⟨⟨-, -, -, -, -, -, m12⟩, -, -⟩ := hY.2.2.1 i (Nat.zero_le _) hi
    obtain ⟨⟨⟨-, -, -, -, -, -, -, -, -, -, -, c46⟩, -⟩, -⟩ := hY.nd hi
    obtain ⟨c1, c2⟩ := c46 z
    refine ⟨g 6 i, ?_, c2, c1⟩
    rw [m12, if_pos]
    unfold isP
    rw [Bool.or_eq_true, beq_iff_eq, beq_iff_eq]
    exact z
  · rw [(b3 3 (by decide) (by decide)).1]
    exact k3
  · rw [e, g60 14 i (by decide) (by decide) (by decide) hi, g60 15 i (by decide) (by decide) (by decide) hi, g60 16 i (by decide) (by decide) (by decide) hi]
    obtain ⟨-, ⟨p1, p2, p3, p4, p5⟩, -, -⟩ := hY.nd hi
    obtain ⟨-, m15, -⟩ := hY.2.2.1 i (Nat.zero_le _) hi
    refine ⟨(h67 i hi).1, (h67 i hi).2, p2, p3, p4, (h1314 i hi).2, ?_, ?_, h16 i hi, fun z => ?_, fun z => ?_⟩
    · show σ3.1 15 (120 + i) = oI (if i = r then 0 else g 1 i)
      by_cases hz : i = r
      · rw [if_pos hz, hz, oI_0]
        exact k15
      · rw [if_neg hz]
        exact m15 hz
    · show (if i = r then 0 else g 1 i) ≤ n
      by_cases hz : i = r
      · rw [if_pos hz]
        exact Nat.zero_le _
      · rw [if_neg hz]
        have := (p5 hz).2.2.1
        omega
    · have z : (if i = r then 0 else g 1 i) = 0 := z
      by_cases hz : i = r
      · rw [hz]
        exact fun o ho hne => hY.2.2.2.1.2.2.2.2.2.2.2.1 o (Nat.zero_le _) ho hne
      · rw [if_neg hz] at z
        exact absurd z (p5 hz).1
    · have z : (if i = r then 0 else g 1 i) ≠ 0 := z
      by_cases hz : i = r
      · rw [if_pos hz] at z
        exact absurd rfl z
      · obtain ⟨-, -, -, w1, w2, w3, w4⟩ := p5 hz
        show g 2 i < g 2 ((if i = r then 0 else g 1 i) - 1) ∧ (p 6 ((if i = r then 0 else g 1 i) - 1) ≤ i ∧ i ≤ p 7 ((if i = r then 0 else g 1 i) - 1)) ∧ ¬ (p 6 i ≤ (if i = r then 0 else g 1 i) - 1 ∧ (if i = r then 0 else g 1 i) - 1 ≤ p 7 i) ∧ ∀ o, o < n → o ≠ i → o ≠ (if i = r then 0 else g 1 i) - 1 → (p 6 o ≤ i ∧ i ≤ p 7 o ↔ p 6 o ≤ (if i = r then 0 else g 1 i) - 1 ∧ (if i = r then 0 else g 1 i) - 1 ≤ p 7 o)
        rw [if_neg hz]
        exact ⟨w1, w2, w3, fun o ho h1 h2 => w4 o (Nat.zero_le _) ho h1 h2⟩

/-! segments: the statements a .. b - 1 are a tree with the root r. p: the rows of the reader; g: 0 how many local signals are around, 1 parent + 1, 2 rank, 6 number of the rest, 7 + x the x-th local signal around -/
def tSig (c : Nat) : Prop := c = 33 ∨ c = 38 ∨ c = 63 ∨ c = 64 ∨ c = 126 ∨ c = 36
def tUn (c : Nat) : Prop := c = 42 ∨ c = 94 ∨ c = 64 ∨ c = 126 ∨ c = 36
def tBi (c : Nat) : Prop := c = 63 ∨ c = 59 ∨ c = 124
def tIn (c : Nat) : Prop := c = 36 ∨ c = 38 ∨ c = 42 ∨ c = 46 ∨ c = 59 ∨ c = 63 ∨ c = 64 ∨ c = 94 ∨ c = 124 ∨ c = 126
/-- what a statement is by itself -/
def TC (p g : Nat → Nat → Nat) (i : Nat) : Prop := p 0 i < 256 ∧ p 1 i ≤ 8 ∧ p 4 i < 1048576 ∧ (tSig (p 0 i) → 1 ≤ p 1 i) ∧ (p 0 i = 120 → 1 ≤ p 1 i ∧ p 1 i ≤ 5) ∧ (p 0 i = 36 → p 3 i = 0 ∧ g 0 i ≤ 2) ∧ (tUn (p 0 i) → p 2 i ≠ 0) ∧ (tBi (p 0 i) → p 2 i ≠ 0) ∧ (tIn (p 0 i) ∨ p 4 i = 0) ∧ g 0 i ≤ 3 ∧ (∀ y, y < g 0 i → g (7 + y) i < 8) ∧ (p 0 i = 46 ∨ p 0 i = 38 → p 4 i = 2 ^ g 6 i ∧ g 6 i < 20)
/-- an operand x (+ 1) of i in the segment -/
def KO (p g : Nat → Nat → Nat) (a b i x dd : Nat) : Prop := x = 0 ∨ (a ≤ x - 1 ∧ x - 1 < b ∧ g 2 (x - 1) < g 2 i ∧ g 0 (x - 1) = dd ∧ ∀ y, y < g 0 i → g (7 + y) (x - 1) = g (7 + y) i)
def szo (p : Nat → Nat → Nat) (x : Nat) : Nat := if x = 0 then 0 else p 7 (x - 1) + 1 - p 6 (x - 1)
def pzo (p : Nat → Nat → Nat) (x : Nat) : Nat := if x = 0 then 0 else p 4 (x - 1)
/-- a statement and its operands -/
def NL (p g : Nat → Nat → Nat) (a b i : Nat) : Prop := TC p g i ∧ KO p g a b i (p 2 i) (if p 0 i = 36 then g 0 i + 1 else g 0 i) ∧ KO p g a b i (p 3 i) (g 0 i) ∧ p 7 i = p 6 i + szo p (p 2 i) + szo p (p 3 i) ∧ (p 0 i = 36 → g (7 + g 0 i) (p 2 i - 1) = p 1 i - 1) ∧ (tUn (p 0 i) ∨ tBi (p 0 i) → p 4 i = pzo p (p 2 i) ||| pzo p (p 3 i)) ∧ (tUn (p 0 i) → p 3 i = 0)
/-- where it lies, and its parent -/
def NP (p g : Nat → Nat → Nat) (a b r i : Nat) : Prop := a ≤ p 6 i ∧ p 6 i ≤ i ∧ i ≤ p 7 i ∧ p 7 i < b ∧ (i ≠ r → g 1 i ≠ 0 ∧ a ≤ g 1 i - 1 ∧ g 1 i - 1 < b ∧ g 2 i < g 2 (g 1 i - 1) ∧ (p 6 (g 1 i - 1) ≤ i ∧ i ≤ p 7 (g 1 i - 1)) ∧ ¬ (p 6 i ≤ g 1 i - 1 ∧ g 1 i - 1 ≤ p 7 i) ∧ ∀ o, a ≤ o → o < b → o ≠ i → o ≠ g 1 i - 1 → (p 6 o ≤ i ∧ i ≤ p 7 o ↔ p 6 o ≤ g 1 i - 1 ∧ g 1 i - 1 ≤ p 7 o))
def SG (p g : Nat → Nat → Nat) (a b r e D : Nat) (O : Nat → Nat) : Prop := a ≤ r ∧ r < b ∧ p 6 r = a ∧ p 7 r + 1 = b ∧ g 2 r + 1 = e + (b - a) ∧ g 0 r = D ∧ (∀ y, y < D → g (7 + y) r = O y) ∧ (∀ o, a ≤ o → o < b → o ≠ r → ¬ (p 6 o ≤ r ∧ r ≤ p 7 o)) ∧ (∀ x, e ≤ x → x < e + (b - a) → ∃ i, a ≤ i ∧ i < b ∧ g 2 i = x) ∧ ∀ i, a ≤ i → i < b → NL p g a b i ∧ NP p g a b r i ∧ e ≤ g 2 i ∧ g 2 i < e + (b - a)
theorem TC.congr {p g p' g' : Nat → Nat → Nat} {i : Nat} (h : TC p g i) (hp : ∀ w, p' w i = p w i) (hg : ∀ w, w ≠ 1 → g' w i = g w i) : TC p' g' i := by
  unfold TC
  rw [hp 0, hp 1, hp 2, hp 3, hp 4, hg 0 (by decide), hg 6 (by decide)]
  obtain ⟨h1, h2, h3, h4, h5, h6, h7, h8, h9, h10, h11, h12⟩ := h
  exact ⟨h1, h2, h3, h4, h5, h6, h7, h8, h9, h10, fun y hy => by rw [hg (7 + y) (by omega)]; exact h11 y hy, h12⟩
theorem KO.congr {p g p' g' : Nat → Nat → Nat} {a b i x dd : Nat} (h : KO p g a b i x dd) (hg : ∀ w j, a ≤ j → j < b → w ≠ 1 → g' w j = g w j) (hi : a ≤ i ∧ i < b) : KO p' g' a b i x dd := by
  rcases h with h | ⟨h1, h2, h3, h4, h5⟩
  · exact Or.inl h
  · refine Or.inr ⟨h1, h2, ?_, ?_, fun y hy => ?_⟩
    · rw [hg 2 _ h1 h2 (by decide), hg 2 _ hi.1 hi.2 (by decide)]; exact h3
    · rw [hg 0 _ h1 h2 (by decide)]; exact h4
    · rw [hg 0 _ hi.1 hi.2 (by decide)] at hy
      rw [hg (7 + y) _ h1 h2 (by omega), hg (7 + y) _ hi.1 hi.2 (by omega)]; exact h5 y hy
/-- only what lies in the segment matters; the root's parent doesn't -/
theorem SG.congr {p g p' g' : Nat → Nat → Nat} {a b r e D : Nat} {O : Nat → Nat} (h : SG p g a b r e D O) (hp : ∀ w j, a ≤ j → j < b → p' w j = p w j) (hg : ∀ w j, a ≤ j → j < b → w ≠ 1 → g' w j = g w j) (h1 : ∀ j, a ≤ j → j < b → j ≠ r → g' 1 j = g 1 j) : SG p' g' a b r e D O := by
  obtain ⟨s1, s2, s3, s4, s5, s6, s7, s8, s9, s10⟩ := h
  refine ⟨s1, s2, by rw [hp 6 r s1 s2]; exact s3, by rw [hp 7 r s1 s2]; exact s4, by rw [hg 2 r s1 s2 (by decide)]; exact s5, by rw [hg 0 r s1 s2 (by decide)]; exact s6, fun y hy => by rw [hg (7 + y) r s1 s2 (by omega)]; exact s7 y hy, fun o o1 o2 => by rw [hp 6 o o1 o2, hp 7 o o1 o2]; exact s8 o o1 o2, fun x x1 x2 => ?_, fun i i1 i2 => ?_⟩
  · obtain ⟨i, i1, i2, i3⟩ := s9 x x1 x2
    exact ⟨i, i1, i2, by rw [hg 2 i i1 i2 (by decide)]; exact i3⟩
  · obtain ⟨⟨n1, n2, n3, n4, n5, n6, n7⟩, ⟨q1, q2, q3, q4, q5⟩, r1, r2⟩ := s10 i i1 i2
    have hz : ∀ x d, KO p g a b i x d → szo p' x = szo p x ∧ pzo p' x = pzo p x := by
      intro x d hk
      unfold szo pzo
      by_cases e : x = 0
      · rw [if_pos e, if_pos e, if_pos e, if_pos e]; exact ⟨rfl, rfl⟩
      · obtain ⟨k1, k2, -⟩ := hk.resolve_left e
        rw [if_neg e, if_neg e, if_neg e, if_neg e, hp 7 _ k1 k2, hp 6 _ k1 k2, hp 4 _ k1 k2]
        exact ⟨rfl, rfl⟩
    refine ⟨⟨n1.congr (fun w => hp w i i1 i2) (fun w hw => hg w i i1 i2 hw), ?_, ?_, ?_, ?_, ?_, ?_⟩, ⟨?_, ?_, ?_, ?_, ?_⟩, ?_, ?_⟩
    · rw [hp 2 i i1 i2, hp 0 i i1 i2, hg 0 i i1 i2 (by decide)]; exact n2.congr hg ⟨i1, i2⟩
    · rw [hp 3 i i1 i2, hg 0 i i1 i2 (by decide)]; exact n3.congr hg ⟨i1, i2⟩
    · rw [hp 7 i i1 i2, hp 6 i i1 i2, hp 2 i i1 i2, hp 3 i i1 i2, (hz _ _ n2).1, (hz _ _ n3).1]; exact n4
    · rw [hp 0 i i1 i2, hp 1 i i1 i2, hp 2 i i1 i2, hg 0 i i1 i2 (by decide)]
      intro h36
      have k0 := n1.2.2.2.2.2.2.1 (Or.inr (Or.inr (Or.inr (Or.inr h36))))
      obtain ⟨k1, k2, -⟩ := n2.resolve_left k0
      rw [hg (7 + g 0 i) _ k1 k2 (by omega)]
      exact n5 h36
    · rw [hp 0 i i1 i2, hp 4 i i1 i2, hp 2 i i1 i2, hp 3 i i1 i2, (hz _ _ n2).2, (hz _ _ n3).2]; exact n6
    · rw [hp 0 i i1 i2, hp 3 i i1 i2]; exact n7
    · rw [hp 6 i i1 i2]; exact q1
    · rw [hp 6 i i1 i2]; exact q2
    · rw [hp 7 i i1 i2]; exact q3
    · rw [hp 7 i i1 i2]; exact q4
    · intro hne
      obtain ⟨t1, t2, t3, t4, t5, t6, t7⟩ := q5 hne
      rw [h1 i i1 i2 hne, hg 2 i i1 i2 (by decide), hg 2 _ t2 t3 (by decide), hp 6 _ t2 t3, hp 7 _ t2 t3, hp 6 i i1 i2, hp 7 i i1 i2]
      refine ⟨t1, t2, t3, t4, t5, t6, fun o o1 o2 o3 o4 => ?_⟩
      rw [hp 6 o o1 o2, hp 7 o o1 o2]
      exact t7 o o1 o2 o3 o4
    · rw [hg 2 i i1 i2 (by decide)]; exact r1
    · rw [hg 2 i i1 i2 (by decide)]; exact r2
theorem SG.leaf {p g : Nat → Nat → Nat} {n e D : Nat} {O : Nat → Nat} (hT : TC p g n) (h2 : p 2 n = 0) (h3 : p 3 n = 0) (h6 : p 6 n = n) (h7 : p 7 n = n) (hr : g 2 n = e) (h0 : g 0 n = D) (hO : ∀ y, y < D → g (7 + y) n = O y) (hu : ¬ tUn (p 0 n)) (hb : ¬ tBi (p 0 n)) : SG p g n (n + 1) n e D O := by
  refine ⟨Nat.le_refl n, by omega, h6, by omega, by omega, h0, hO, fun o o1 o2 o3 => absurd o3 (by omega), fun x x1 x2 => ⟨n, Nat.le_refl n, by omega, by omega⟩, fun i i1 i2 => ?_⟩
  have e : i = n := by omega
  subst e
  refine ⟨⟨hT, Or.inl h2, Or.inl h3, by rw [h2, h3]; show p 7 i = p 6 i + 0 + 0; omega, fun h => absurd (Or.inr (Or.inr (Or.inr (Or.inr h)))) hu, fun h => h.elim (fun z => absurd z hu) (fun z => absurd z hb), fun h => absurd h hu⟩, ⟨by omega, by omega, by omega, by omega, fun z => absurd rfl z⟩, by omega, by omega⟩
/-- a statement k over one or two segments (the second may be empty) -/
theorem SG.node {p g : Nat → Nat → Nat} {A B k a1 b1 r1 a2 b2 r2 e D D1 : Nat} {O O1 : Nat → Nat} (h1 : SG p g a1 b1 r1 e D1 O1) (h2 : (a2 = b2 ∧ p 3 k = 0) ∨ (p 3 k = r2 + 1 ∧ SG p g a2 b2 r2 (e + (b1 - a1)) D O)) (hA : A ≤ k ∧ k < B) (hin : ∀ i, (A ≤ i ∧ i < B) ↔ (i = k ∨ (a1 ≤ i ∧ i < b1) ∨ (a2 ≤ i ∧ i < b2))) (hk1 : k < a1 ∨ b1 ≤ k) (hk2 : a2 = b2 ∨ k < a2 ∨ b2 ≤ k) (h12 : a2 = b2 ∨ b1 ≤ a2) (hsz : B = A + 1 + (b1 - a1) + (b2 - a2)) (h21 : a2 ≤ b2) (p2 : p 2 k = r1 + 1) (p6 : p 6 k = A) (p7 : p 7 k + 1 = B) (gr : g 2 k + 1 = e + (B - A)) (gk : g 0 k = D) (gO : ∀ y, y < D → g (7 + y) k = O y) (g1 : g 1 r1 = k + 1) (g2 : a2 = b2 ∨ g 1 r2 = k + 1) (hT : TC p g k) (hD : D1 = if p 0 k = 36 then D + 1 else D) (hO : ∀ y, y < D → O1 y = O y) (h36 : p 0 k = 36 → O1 D = p 1 k - 1) (h4 : tUn (p 0 k) ∨ tBi (p 0 k) → p 4 k = pzo p (p 2 k) ||| pzo p (p 3 k)) (hu : tUn (p 0 k) → p 3 k = 0) : SG p g A B k e D O := by
  obtain ⟨s1, s2, s3, s4, s5, s6, s7, s8, s9, s10⟩ := h1
  have in1 : ∀ i, a1 ≤ i → i < b1 → A ≤ i ∧ i < B := fun i i1 i2 => (hin i).mpr (Or.inr (Or.inl ⟨i1, i2⟩))
  have in2 : ∀ i, a2 ≤ i → i < b2 → A ≤ i ∧ i < B := fun i i1 i2 => (hin i).mpr (Or.inr (Or.inr ⟨i1, i2⟩))
  have b1r := in1 r1 s1 s2
  have sp1 : ∀ o, a1 ≤ o → o < b1 → a1 ≤ p 6 o ∧ p 6 o ≤ o ∧ o ≤ p 7 o ∧ p 7 o < b1 := fun o o1 o2 => ⟨(s10 o o1 o2).2.1.1, (s10 o o1 o2).2.1.2.1, (s10 o o1 o2).2.1.2.2.1, (s10 o o1 o2).2.1.2.2.2.1⟩
  have sp2 : ∀ o, a2 ≤ o → o < b2 → a2 ≤ p 6 o ∧ p 6 o ≤ o ∧ o ≤ p 7 o ∧ p 7 o < b2 := by
    intro o o1 o2
    rcases h2 with ⟨z, -⟩ | ⟨-, h2⟩
    · omega
    · exact ⟨(h2.2.2.2.2.2.2.2.2.2 o o1 o2).2.1.1, (h2.2.2.2.2.2.2.2.2.2 o o1 o2).2.1.2.1, (h2.2.2.2.2.2.2.2.2.2 o o1 o2).2.1.2.2.1, (h2.2.2.2.2.2.2.2.2.2 o o1 o2).2.1.2.2.2.1⟩
  have ndj : ∀ i j, a1 ≤ i → i < b1 → a2 ≤ j → j < b2 → ¬ (p 6 j ≤ i ∧ i ≤ p 7 j) ∧ ¬ (p 6 i ≤ j ∧ j ≤ p 7 i) := by
    intro i j i1 i2 j1 j2
    have q1 := sp1 i i1 i2
    have q2 := sp2 j j1 j2
    omega
  have ncov1 : ∀ o, a1 ≤ o → o < b1 → ¬ (p 6 o ≤ k ∧ k ≤ p 7 o) := fun o o1 o2 => by have := sp1 o o1 o2; omega
  have ncov2 : ∀ o, a2 ≤ o → o < b2 → ¬ (p 6 o ≤ k ∧ k ≤ p 7 o) := fun o o1 o2 => by have := sp2 o o1 o2; omega
  have wid : ∀ {i x dd a b}, KO p g a b i x dd → (∀ j, a ≤ j → j < b → A ≤ j ∧ j < B) → KO p g A B i x dd := by
    intro i x dd a b hk hj
    rcases hk with hk | ⟨k1, k2, k3⟩
    · exact Or.inl hk
    · exact Or.inr ⟨(hj _ k1 k2).1, (hj _ k1 k2).2, k3⟩
  have kB : p 6 k ≤ k ∧ k ≤ p 7 k := by omega
  refine ⟨hA.1, hA.2, p6, p7, gr, gk, gO, fun o o1 o2 o3 => ?_, fun x x1 x2 => ?_, fun i i1 i2 => ?_⟩
  · rcases (hin o).mp ⟨o1, o2⟩ with z | ⟨z1, z2⟩ | ⟨z1, z2⟩
    · exact absurd z o3
    · exact ncov1 o z1 z2
    · exact ncov2 o z1 z2
  · by_cases c1 : x < e + (b1 - a1)
    · obtain ⟨i, i1, i2, i3⟩ := s9 x x1 c1
      exact ⟨i, (in1 i i1 i2).1, (in1 i i1 i2).2, i3⟩
    · by_cases c2 : x < e + (b1 - a1) + (b2 - a2)
      · rcases h2 with ⟨z, -⟩ | ⟨-, h2⟩
        · omega
        · obtain ⟨i, i1, i2, i3⟩ := h2.2.2.2.2.2.2.2.2.1 x (by omega) (by omega)
          exact ⟨i, (in2 i i1 i2).1, (in2 i i1 i2).2, i3⟩
      · exact ⟨k, hA.1, hA.2, by omega⟩
  · rcases (hin i).mp ⟨i1, i2⟩ with z | ⟨z1, z2⟩ | ⟨z1, z2⟩
    · subst z
      have sz1 : szo p (p 2 i) = b1 - a1 := by
        rw [p2]
        show p 7 (r1 + 1 - 1) + 1 - p 6 (r1 + 1 - 1) = _
        rw [Nat.add_sub_cancel]
        omega
      have sz2 : szo p (p 3 i) = b2 - a2 := by
        rcases h2 with ⟨z, z3⟩ | ⟨z3, h2⟩
        · rw [z3]; show 0 = _; omega
        · rw [z3]
          show p 7 (r2 + 1 - 1) + 1 - p 6 (r2 + 1 - 1) = _
          rw [Nat.add_sub_cancel]
          have q3 := h2.2.2.1
          have q4 := h2.2.2.2.1
          omega
      refine ⟨⟨hT, ?_, ?_, by rw [sz1, sz2]; omega, ?_, h4, hu⟩, ⟨by omega, kB.1, kB.2, by omega, fun z => absurd rfl z⟩, by omega, by omega⟩
      · refine Or.inr ⟨by rw [p2]; exact b1r.1, by rw [p2]; exact b1r.2, ?_, ?_, fun y hy => ?_⟩
        · rw [p2, Nat.add_sub_cancel]; omega
        · rw [p2, Nat.add_sub_cancel, s6, gk]; exact hD
        · rw [p2, Nat.add_sub_cancel]
          rw [gk] at hy
          rw [s7 y (by rw [hD]; split <;> omega), hO y hy, gO y hy]
      · rcases h2 with ⟨z, z3⟩ | ⟨z3, h2⟩
        · exact Or.inl z3
        · obtain ⟨t1, t2, t3, t4, t5, t6, t7, -⟩ := h2
          refine Or.inr ⟨by rw [z3]; exact (in2 r2 t1 t2).1, by rw [z3]; exact (in2 r2 t1 t2).2, ?_, ?_, fun y hy => ?_⟩
          · rw [z3, Nat.add_sub_cancel]; omega
          · rw [z3, Nat.add_sub_cancel, t6, gk]
          · rw [z3, Nat.add_sub_cancel]
            rw [gk] at hy
            rw [t7 y hy, gO y hy]
      · intro h
        rw [p2, Nat.add_sub_cancel, gk, s7 D (by rw [hD, if_pos h]; omega)]
        exact h36 h
    · obtain ⟨⟨n1, n2, n3, n4⟩, ⟨q1, q2, q3, q4, q5⟩, t1, t2⟩ := s10 i z1 z2
      refine ⟨⟨n1, wid n2 in1, wid n3 in1, n4⟩, ⟨by have := in1 _ (show a1 ≤ p 6 i from q1) (by omega); omega, q2, q3, by have := in1 (p 7 i) (by omega) q4; omega, fun hne => ?_⟩, t1, by omega⟩
      by_cases er : i = r1
      · subst er
        rw [g1, Nat.add_sub_cancel]
        refine ⟨Nat.succ_ne_zero k, hA.1, hA.2, by omega, by omega, ncov1 i z1 z2, fun o o1 o2 o3 o4 => ?_⟩
        rcases (hin o).mp ⟨o1, o2⟩ with y | ⟨y1, y2⟩ | ⟨y1, y2⟩
        · exact absurd y o4
        · exact ⟨fun w => absurd w (s8 o y1 y2 o3), fun w => absurd w (ncov1 o y1 y2)⟩
        · exact ⟨fun w => absurd w (ndj i o z1 z2 y1 y2).1, fun w => absurd w (ncov2 o y1 y2)⟩
      · obtain ⟨u1, u2, u3, u4, u5, u6, u7⟩ := q5 er
        refine ⟨u1, (in1 _ u2 u3).1, (in1 _ u2 u3).2, u4, u5, u6, fun o o1 o2 o3 o4 => ?_⟩
        rcases (hin o).mp ⟨o1, o2⟩ with y | ⟨y1, y2⟩ | ⟨y1, y2⟩
        · subst y
          have v1 := in1 i z1 z2
          have v2 := in1 _ u2 u3
          omega
        · exact u7 o y1 y2 o3 o4
        · exact ⟨fun w => absurd w (ndj i o z1 z2 y1 y2).1, fun w => absurd w (ndj _ o u2 u3 y1 y2).1⟩
    · rcases h2 with ⟨z, -⟩ | ⟨zz, h2⟩
      · omega
      · obtain ⟨w1, w2, w3, w4, w5, w6, w7, w8, w9, w10⟩ := h2
        obtain ⟨⟨n1, n2, n3, n4⟩, ⟨q1, q2, q3, q4, q5⟩, t1, t2⟩ := w10 i z1 z2
        refine ⟨⟨n1, wid n2 in2, wid n3 in2, n4⟩, ⟨by have := in2 _ (show a2 ≤ p 6 i from q1) (by omega); omega, q2, q3, by have := in2 (p 7 i) (by omega) q4; omega, fun hne => ?_⟩, by omega, by omega⟩
        by_cases er : i = r2
        · subst er
          have g2' := g2.resolve_left (by omega)
          rw [g2', Nat.add_sub_cancel]
          refine ⟨Nat.succ_ne_zero k, hA.1, hA.2, by omega, by omega, ncov2 i z1 z2, fun o o1 o2 o3 o4 => ?_⟩
          rcases (hin o).mp ⟨o1, o2⟩ with y | ⟨y1, y2⟩ | ⟨y1, y2⟩
          · exact absurd y o4
          · exact ⟨fun w => absurd w (ndj o i y1 y2 z1 z2).2, fun w => absurd w (ncov1 o y1 y2)⟩
          · exact ⟨fun w => absurd w (w8 o y1 y2 o3), fun w => absurd w (ncov2 o y1 y2)⟩
        · obtain ⟨u1, u2, u3, u4, u5, u6, u7⟩ := q5 er
          refine ⟨u1, (in2 _ u2 u3).1, (in2 _ u2 u3).2, u4, u5, u6, fun o o1 o2 o3 o4 => ?_⟩
          rcases (hin o).mp ⟨o1, o2⟩ with y | ⟨y1, y2⟩ | ⟨y1, y2⟩
          · subst y
            have v1 := in2 i z1 z2
            have v2 := in2 _ u2 u3
            omega
          · exact ⟨fun w => absurd w (ndj o i y1 y2 z1 z2).2, fun w => absurd w (ndj o _ y1 y2 u2 u3).2⟩
          · exact u7 o y1 y2 o3 o4

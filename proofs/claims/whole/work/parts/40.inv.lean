/-! the invariant of both memories -/
/-- a state that a program can be in -/
def VS (p : Pg) (r s : Nat) : Prop := s ≤ 1048576 ∧ (s = 0 ∨ s = ST ∨ lv p (r + 1) s = true)
/-- which statements lie in which, and what each can do at once -/
def ND (σ : am_M) (j t n : Nat) (p : Pg) (rk : Nat → Nat) : Prop := ∃ fs ls pa : Nat → Nat, ∀ i, i < n → σ.1 (t + 6) i = nI (fs i) ∧ σ.1 (t + 7) i = nI (ls i) ∧ fs i ≤ i ∧ i ≤ ls i ∧ ls i < n ∧ σ.1 14 (60 * j + i) = nI (ls i - fs i) ∧ σ.1 15 (60 * j + i) = oI (pa i) ∧ pa i ≤ n ∧ σ.1 16 (60 * j + i) = nI (an p 61 (i + 1) ST false 0 0).2.2.2 ∧ (pa i = 0 → ∀ o, o < n → o ≠ i → ¬ (fs o ≤ i ∧ i ≤ ls o)) ∧ (pa i ≠ 0 → rk i < rk (pa i - 1) ∧ (fs (pa i - 1) ≤ i ∧ i ≤ ls (pa i - 1)) ∧ ¬ (fs i ≤ pa i - 1 ∧ pa i - 1 ≤ ls i) ∧ ∀ o, o < n → o ≠ i → o ≠ pa i - 1 → (fs o ≤ i ∧ i ≤ ls o ↔ fs o ≤ pa i - 1 ∧ pa i - 1 ≤ ls o))
/-- one program in the class's place q and the reference's slot j -/
def PP (σ : am_M) (j q : Nat) (p : Pg) (n r kk : Nat) (rk od dp : Nat → Nat) (ow : Nat → Nat → Nat) : Prop := 1 ≤ n ∧ TR σ (σ.2 q 1) p n ∧ ROOT σ (σ.2 q 1) (r + 1) ∧ MI σ j p n r rk od dp ow ∧ σ.1 (σ.2 q 1) 9 = nI kk ∧ σ.1 3 j = nI kk ∧ kk ≤ 20 ∧ ND σ j (σ.2 q 1) n p rk
/-- its state and those before -/
def HS (σ : am_M) (j q : Nat) (p : Pg) (r s m : Nat) : Prop := σ.1 q 3 = nI s ∧ σ.1 17 j = nI s ∧ VS p r s ∧ σ.1 q 4 = nI m ∧ σ.1 19 j = nI m ∧ m ≤ 20 ∧ ∀ i, i < m → ∃ s', σ.1 (q + 1) i = nI s' ∧ σ.1 18 (20 * j + i) = nI s' ∧ VS p r s'
def PL (σ : am_M) (j q : Nat) : Prop := (σ.1 q 2 = nI 0 ∧ σ.1 2 j = nI 0) ∨ (σ.1 q 2 = nI 1 ∧ ∃ p n r kk rk od dp ow s m, PP σ j q p n r kk rk od dp ow ∧ HS σ j q p r s m)
def T3 (a : Nat) : Prop := a = 45 ∨ a = 54 ∨ a = 63
def TS (σ : am_M) : Prop := T3 (σ.2 44 1) ∧ T3 (σ.2 73 1) ∧ T3 (σ.2 75 1) ∧ σ.2 44 1 ≠ σ.2 73 1 ∧ σ.2 44 1 ≠ σ.2 75 1 ∧ σ.2 73 1 ≠ σ.2 75 1
def GS (σ : am_M) : Prop := (σ.2 83 2 = 86 ∧ σ.2 83 3 = 87) ∨ (σ.2 83 2 = 87 ∧ σ.2 83 3 = 86)
def XT (σ : am_M) (L : Nat) : Prop := L ≤ 120 ∧ σ.1 42 1 = nI L ∧ σ.1 0 1 = nI L ∧ ∀ i, i < L → ∃ b, b < 256 ∧ σ.1 43 i = nI b ∧ σ.1 1 i = nI b
def Inv (σ : am_M) : Prop := (∃ L, XT σ L) ∧ σ.1 41 7 = σ.1 0 2 ∧ TS σ ∧ GS σ ∧ PL σ 0 73 ∧ PL σ 1 75
/-- what the invariant looks at is as it was -/
def KI (σ σ' : am_M) : Prop := (∀ c, (1 ≤ c ∧ c ≤ 19) ∨ (41 ≤ c ∧ c ≤ 43) ∨ (45 ≤ c ∧ c ≤ 76) → σ'.1 c = σ.1 c) ∧ (∀ k, k < 38 ∨ 60 < k → σ'.1 0 k = σ.1 0 k) ∧ (∀ c, c ≠ 83 → σ'.2 c = σ.2 c) ∧ (GS σ → GS σ')
theorem KI.rf (σ : am_M) : KI σ σ := ⟨fun _ _ => rfl, fun _ _ => rfl, fun _ _ => rfl, id⟩
theorem KI.tr {σ σ' σ'' : am_M} (h : KI σ σ') (h' : KI σ' σ'') : KI σ σ'' := ⟨fun c a => (h'.1 c a).trans (h.1 c a), fun k a => (h'.2.1 k a).trans (h.2.1 k a), fun c a => (h'.2.2.1 c a).trans (h.2.2.1 c a), fun g => h'.2.2.2 (h.2.2.2 g)⟩
theorem KI.gs {σ σ' : am_M} (h : σ'.2 = σ.2) : GS σ → GS σ' := fun g => by unfold GS; rw [h]; exact g
theorem KS.KI {σ σ' : am_M} (h : KS σ σ') : KI σ σ' := ⟨fun c a => h.1 c (by omega) (by omega) (by omega) (by omega), fun k a => h.2.1 k (by omega), fun c _ => by rw [h.2.2], KI.gs h.2.2⟩
theorem Kc.KI {σ σ' : am_M} {o : Nat} (h : Kc σ σ' o) (ho : o = 77 ∨ o = 78) : KI σ σ' := ⟨fun c a => h.1 c (by omega), fun k a => by rw [h.1 0 (by omega)], fun c _ => by rw [h.2], KI.gs h.2⟩
theorem TR.t3 {σ : am_M} {t n : Nat} {p : Pg} (h : TR σ t p n) : T3 t := h.1
theorem ND.keep {σ σ' : am_M} {j t n : Nat} {p : Pg} {rk : Nat → Nat} (h : ND σ j t n p rk) (h6 : σ'.1 (t + 6) = σ.1 (t + 6)) (h7 : σ'.1 (t + 7) = σ.1 (t + 7)) (h14 : σ'.1 14 = σ.1 14) (h15 : σ'.1 15 = σ.1 15) (h16 : σ'.1 16 = σ.1 16) : ND σ' j t n p rk := by
  unfold ND
  rw [h6, h7, h14, h15, h16]
  exact h
theorem MI.keep2 {σ σ' : am_M} (h : ∀ c, 2 ≤ c ∧ c ≤ 16 → σ'.1 c = σ.1 c) {j n r : Nat} {p : Pg} {rk od dp : Nat → Nat} {ow : Nat → Nat → Nat} (hM : MI σ j p n r rk od dp ow) : MI σ' j p n r rk od dp ow := by
  obtain ⟨⟨hj, hW, hWT, hn2, hod, hrk, hMN⟩, hR, hO⟩ := hM
  refine ⟨⟨hj, hW, hWT, by rw [h 2 (by omega)]; exact hn2, fun a ha => by rw [h 9 (by omega)]; exact hod a ha, hrk, fun i hi => ?_⟩, ⟨by rw [h 4 (by omega)]; exact hR.1, hR.2⟩, hO.keep (h 12 (by omega))⟩
  have := hMN i hi
  unfold MN
  rw [h 5 (by omega), h 6 (by omega), h 7 (by omega), h 8 (by omega), h 13 (by omega), h 10 (by omega), h 11 (by omega)]
  exact this
theorem PP.keep {σ σ' : am_M} {j q n r kk : Nat} {p : Pg} {rk od dp : Nat → Nat} {ow : Nat → Nat → Nat} (hP : PP σ j q p n r kk rk od dp ow) (h : ∀ c, (2 ≤ c ∧ c ≤ 16) ∨ (45 ≤ c ∧ c ≤ 71) → σ'.1 c = σ.1 c) (e : σ'.2 q = σ.2 q) : PP σ' j q p n r kk rk od dp ow := by
  obtain ⟨h1, h2, h3, h4, h5, h6, h7, h8⟩ := hP
  have ht := h2.t3
  unfold T3 at ht
  have c0 : σ'.1 (σ.2 q 1) = σ.1 (σ.2 q 1) := h _ (by omega)
  unfold PP ROOT
  rw [e, c0, h 3 (by omega)]
  exact ⟨h1, h2.keep (fun j a b => h j (by omega)), h3, h4.keep2 (fun c a => h c (by omega)), h5, h6, h7, h8.keep (h _ (by omega)) (h _ (by omega)) (h _ (by omega)) (h _ (by omega)) (h _ (by omega))⟩
theorem HS.keep {σ σ' : am_M} {j q r s m : Nat} {p : Pg} (hP : HS σ j q p r s m) (hq : σ'.1 q = σ.1 q) (hq1 : σ'.1 (q + 1) = σ.1 (q + 1)) (h17 : σ'.1 17 j = σ.1 17 j) (h19 : σ'.1 19 j = σ.1 19 j) (h18 : ∀ i, i < 20 → σ'.1 18 (20 * j + i) = σ.1 18 (20 * j + i)) : HS σ' j q p r s m := by
  obtain ⟨a, b, c, e, f, g, k⟩ := hP
  refine ⟨by rw [hq]; exact a, by rw [h17]; exact b, c, by rw [hq]; exact e, by rw [h19]; exact f, g, fun i hi => ?_⟩
  rw [hq1, h18 i (by omega)]
  exact k i hi
theorem PL.keep {σ σ' : am_M} {j q : Nat} (hP : PL σ j q) (h : ∀ c, (2 ≤ c ∧ c ≤ 16) ∨ (45 ≤ c ∧ c ≤ 71) → σ'.1 c = σ.1 c) (e : σ'.2 q = σ.2 q) (hq : σ'.1 q = σ.1 q) (hq1 : σ'.1 (q + 1) = σ.1 (q + 1)) (h17 : σ'.1 17 j = σ.1 17 j) (h19 : σ'.1 19 j = σ.1 19 j) (h18 : ∀ i, i < 20 → σ'.1 18 (20 * j + i) = σ.1 18 (20 * j + i)) : PL σ' j q := by
  rcases hP with hP | ⟨h1, p, n, r, kk, rk, od, dp, ow, s, m, h2, h3⟩
  · exact Or.inl ⟨by rw [hq]; exact hP.1, by rw [h 2 (by omega)]; exact hP.2⟩
  · exact Or.inr ⟨by rw [hq]; exact h1, p, n, r, kk, rk, od, dp, ow, s, m, h2.keep h e, h3.keep hq hq1 h17 h19 h18⟩
theorem KI.pl {σ σ' : am_M} (h : KI σ σ') {j q : Nat} (hq : q = 73 ∨ q = 75) (hP : PL σ j q) : PL σ' j q := hP.keep (fun c a => h.1 c (by omega)) (h.2.2.1 q (by omega)) (h.1 q (by omega)) (h.1 (q + 1) (by omega)) (by rw [h.1 17 (by omega)]) (by rw [h.1 19 (by omega)]) (fun i _ => by rw [h.1 18 (by omega)])
theorem TS.keep {σ σ' : am_M} (hX : TS σ) (h : σ'.2 = σ.2) : TS σ' := by
  unfold TS
  rw [h]
  exact hX
/-- only the text changes -/
theorem Inv.tx {σ σ' : am_M} (hI : Inv σ) (h : ∀ c, c ≠ 0 → c ≠ 1 → c ≠ 42 → c ≠ 43 → σ'.1 c = σ.1 c) (h0 : ∀ k, k ≠ 1 → σ'.1 0 k = σ.1 0 k) (h2 : σ'.2 = σ.2) {L : Nat} (hX : XT σ' L) : Inv σ' := by
  obtain ⟨-, hf, ht, hg, i0, i1⟩ := hI
  refine ⟨⟨L, hX⟩, by rw [h 41 (by decide) (by decide) (by decide) (by decide), h0 2 (by decide)]; exact hf, ht.keep h2, KI.gs h2 hg, i0.keep (fun c a => h c (by omega) (by omega) (by omega) (by omega)) (by rw [h2]) (h _ (by decide) (by decide) (by decide) (by decide)) (h _ (by decide) (by decide) (by decide) (by decide)) (by rw [h 17 (by decide) (by decide) (by decide) (by decide)]) (by rw [h 19 (by decide) (by decide) (by decide) (by decide)]) (fun i _ => by rw [h 18 (by decide) (by decide) (by decide) (by decide)]), i1.keep (fun c a => h c (by omega) (by omega) (by omega) (by omega)) (by rw [h2]) (h _ (by decide) (by decide) (by decide) (by decide)) (h _ (by decide) (by decide) (by decide) (by decide)) (by rw [h 17 (by decide) (by decide) (by decide) (by decide)]) (by rw [h 19 (by decide) (by decide) (by decide) (by decide)]) (fun i _ => by rw [h 18 (by decide) (by decide) (by decide) (by decide)])⟩
theorem KI.xt {σ σ' : am_M} (h : KI σ σ') {L : Nat} (hX : XT σ L) : XT σ' L := by
  unfold XT
  rw [h.1 42 (by omega), h.2.1 1 (by omega), h.1 43 (by omega), h.1 1 (by omega)]
  exact hX
theorem KI.ts {σ σ' : am_M} (h : KI σ σ') (hX : TS σ) : TS σ' := by
  unfold TS
  rw [h.2.2.1 44 (by decide), h.2.2.1 73 (by decide), h.2.2.1 75 (by decide)]
  exact hX
theorem KI.inv {σ σ' : am_M} (h : KI σ σ') (hI : Inv σ) : Inv σ' := by
  obtain ⟨⟨L, hX⟩, hf, ht, hg, h0, h1⟩ := hI
  exact ⟨⟨L, h.xt hX⟩, by rw [h.1 41 (by omega), h.2.1 2 (by omega)]; exact hf, h.ts ht, h.2.2.2 hg, h.pl (Or.inl rfl) h0, h.pl (Or.inr rfl) h1⟩
/-! any int as an argument -/
theorem i32_nat {x : Int32} (h : ¬ x < 0) : ∃ u, u < 2 ^ 31 ∧ x = nI u := by
  refine ⟨x.toInt.toNat, ?_, ?_⟩
  · have h1 := Int32.toInt_lt x
    have h2 : ¬ x.toInt < 0 := fun z => h (Int32.lt_iff_toInt_lt.mpr z)
    omega
  · have h2 : ¬ x.toInt < 0 := fun z => h (Int32.lt_iff_toInt_lt.mpr z)
    have : x = Int32.ofInt x.toInt := (Int32.ofInt_toInt x).symm
    rw [this]
    have e : x.toInt = ((x.toInt.toNat : Nat) : Int) := by omega
    rw [← this]
    conv => lhs; rw [this, e]
    rfl
theorem i32_in (x : Int32) {k : Nat} (hk : k < 2 ^ 31) : (∃ u, u ≤ k ∧ x = nI u) ∨ x < 0 ∨ (¬ x < 0 ∧ nI k < x) := by
  by_cases h : x < 0
  · exact Or.inr (Or.inl h)
  · obtain ⟨u, hu, e⟩ := i32_nat h
    by_cases z : u ≤ k
    · exact Or.inl ⟨u, z, e⟩
    · exact Or.inr (Or.inr ⟨h, by rw [e]; exact (nI_ltI hk hu).mpr (by omega)⟩)
/-- the pair of an x-call and an m-call -/
def PR (d yx ym : Nat) (as : List Value) (σ : am_M) : Prop := ∃ a : Int32, am_C d yx (.ref 41 :: as) σ (fun v σ1 => v = some (.int a) ∧ am_C d ym (.ref 0 :: as) σ1 (fun v' σ2 => v' = some (.int a) ∧ Inv σ2))

/-! the tree: ranks, local signals around, pause points -/
def WT (p : Pg) (n : Nat) (rk dp : Nat → Nat) (ow : Nat → Nat → Nat) : Prop := ∀ i, i < n →
  (p 2 i = 0 ∨ (rk (p 2 i - 1) < rk i ∧ dp (p 2 i - 1) = (if p 0 i = 36 then dp i + 1 else dp i) ∧ (∀ b, b < dp i → ow (p 2 i - 1) b = ow i b) ∧ (p 0 i = 36 → ow (p 2 i - 1) (dp i) = p 1 i - 1)))
  ∧ (p 3 i = 0 ∨ (rk (p 3 i - 1) < rk i ∧ dp (p 3 i - 1) = dp i ∧ ∀ b, b < dp i → ow (p 3 i - 1) b = ow i b))
  ∧ (p 0 i = 36 → p 3 i = 0 ∧ dp i ≤ 2)
  ∧ (p 0 i = 42 ∨ p 0 i = 94 ∨ p 0 i = 64 ∨ p 0 i = 126 ∨ p 0 i = 36 → p 2 i ≠ 0 ∧ p 4 i = p 4 (p 2 i - 1))
  ∧ (p 0 i = 63 ∨ p 0 i = 59 ∨ p 0 i = 124 → p 2 i ≠ 0 ∧ p 4 i = p 4 (p 2 i - 1) ||| (if p 3 i = 0 then 0 else p 4 (p 3 i - 1)))
  ∧ (p 0 i = 36 ∨ p 0 i = 38 ∨ p 0 i = 42 ∨ p 0 i = 46 ∨ p 0 i = 59 ∨ p 0 i = 63 ∨ p 0 i = 64 ∨ p 0 i = 94 ∨ p 0 i = 124 ∨ p 0 i = 126 ∨ p 4 i = 0)
  ∧ rk i < n ∧ dp i ≤ 3 ∧ (∀ a, a < dp i → ow i a < 8)
theorem WT.RK {p : Pg} {n : Nat} {rk dp : Nat → Nat} {ow : Nat → Nat → Nat} (h : WT p n rk dp ow) : RK p n rk := fun i hi => by
  obtain ⟨h2, h3, -, -, -, -, hr, -⟩ := h i hi
  exact ⟨hr, h2.imp id (fun z => z.1), h3.imp id (fun z => z.1)⟩
theorem lv_s (p : Pg) (k s : Nat) : lv p (k + 1) s = true ↔ ¬ p 4 k &&& s = 0 := by
  unfold lv
  simp
theorem lv_p {p : Pg} {x s : Nat} (hx : x ≠ 0) : lv p x s = true ↔ ¬ p 4 (x - 1) &&& s = 0 := by
  unfold lv
  simp [hx]
section Live
variable {p : Pg} {n : Nat} {rk dp : Nat → Nat} {ow : Nat → Nat → Nat} {i s : Nat}
theorem WT.V2 (h : WT p n rk dp ow) (hi : i < n) (hl : lv p (i + 1) s = true) (ht : p 0 i = 42 ∨ p 0 i = 94 ∨ p 0 i = 64 ∨ p 0 i = 126 ∨ p 0 i = 36) : lv p (p 2 i) s = true := by
  obtain ⟨-, -, -, hu, -⟩ := h i hi
  obtain ⟨h0, h4⟩ := hu ht
  rw [lv_p h0, ← h4]
  exact (lv_s p i s).mp hl
theorem WT.V3 (h : WT p n rk dp ow) (hi : i < n) (hl : lv p (i + 1) s = true) (ht : p 0 i = 63 ∨ p 0 i = 59 ∨ p 0 i = 124) (hn : lv p (p 2 i) s = false) : lv p (p 3 i) s = true := by
  obtain ⟨-, -, -, -, hb, -⟩ := h i hi
  obtain ⟨h0, h4⟩ := hb ht
  have hl := (lv_s p i s).mp hl
  have hn : p 4 (p 2 i - 1) &&& s = 0 := by
    rcases Nat.eq_zero_or_pos (p 4 (p 2 i - 1) &&& s) with z | z
    · exact z
    · rw [(lv_p h0).mpr (by omega)] at hn; cases hn
  have e : (p 4 i &&& s) = (p 4 (p 2 i - 1) &&& s) ||| ((if p 3 i = 0 then 0 else p 4 (p 3 i - 1)) &&& s) := by
    rw [h4]
    apply Nat.eq_of_testBit_eq
    intro b
    simp only [Nat.testBit_and, Nat.testBit_or]
    cases (p 4 (p 2 i - 1)).testBit b <;> cases s.testBit b <;> simp
  rw [hn, Nat.zero_or] at e
  by_cases h3 : p 3 i = 0
  · rw [if_pos h3, Nat.zero_and] at e
    exact absurd e hl
  · rw [if_neg h3] at e
    rw [lv_p h3, ← e]
    exact hl
theorem WT.T0 (h : WT p n rk dp ow) (hi : i < n) (hl : lv p (i + 1) s = true) : p 0 i = 36 ∨ p 0 i = 38 ∨ p 0 i = 42 ∨ p 0 i = 46 ∨ p 0 i = 59 ∨ p 0 i = 63 ∨ p 0 i = 64 ∨ p 0 i = 94 ∨ p 0 i = 124 ∨ p 0 i = 126 := by
  obtain ⟨-, -, -, -, -, ht, -⟩ := h i hi
  have hl := (lv_s p i s).mp hl
  have : ¬ p 4 i = 0 := fun z => hl (by rw [z, Nat.zero_and])
  omega
end Live
/-- the table's entries of a statement -/
def TB (σ : am_M) (p : Pg) (dp : Nat → Nat) (ow : Nat → Nat → Nat) (s P A i w : Nat) : Prop := σ.1 28 ((i * 27 + w) * 4 + 0) = nI (eM (an p 61 (i + 1) ST true (evn (ow i) w P A (dp i)).1 (evn (ow i) w P A (dp i)).2)) ∧ σ.1 28 ((i * 27 + w) * 4 + 1) = nI (eM (an p 61 (i + 1) ST false (evn (ow i) w P A (dp i)).1 (evn (ow i) w P A (dp i)).2)) ∧ (lv p (i + 1) s = true → σ.1 28 ((i * 27 + w) * 4 + 2) = nI (eM (an p 61 (i + 1) s true (evn (ow i) w P A (dp i)).1 (evn (ow i) w P A (dp i)).2)) ∧ σ.1 28 ((i * 27 + w) * 4 + 3) = nI (eM (an p 61 (i + 1) s false (evn (ow i) w P A (dp i)).1 (evn (ow i) w P A (dp i)).2)))
theorem evn36 {ow ow' : Nat → Nat} {w P A a g h : Nat} (ha : a ≤ 2) (hw : w < 3 ^ a) (hh : h < 3) (ho : ∀ b, b < a → ow' b = ow b) (hg : ow' a = g) : evn ow' (w + h * 3 ^ a) P A (a + 1) = up3 (evn ow w P A a) g h := by
  show up3 (evn ow' (w + h * 3 ^ a) P A a) (ow' a) ((w + h * 3 ^ a) / 3 ^ a % 3) = _
  have e1 : evn ow' (w + h * 3 ^ a) P A a = evn ow w P A a := by
    refine evn_ext a (fun b hb => ⟨ho b hb, ?_⟩)
    rcases (show a = 0 ∨ a = 1 ∨ a = 2 by omega) with rfl | rfl | rfl
    · omega
    · obtain rfl : b = 0 := by omega
      show (w + h * 3) / 1 % 3 = w / 1 % 3
      omega
    · have : w < 9 := hw
      rcases (show b = 0 ∨ b = 1 by omega) with rfl | rfl
      · show (w + h * 9) / 1 % 3 = w / 1 % 3
        omega
      · show (w + h * 9) / 3 % 3 = w / 3 % 3
        omega
  have e2 : (w + h * 3 ^ a) / 3 ^ a % 3 = h := by
    rcases (show a = 0 ∨ a = 1 ∨ a = 2 by omega) with rfl | rfl | rfl
    · have : w < 1 := hw
      show (w + h * 1) / 1 % 3 = h
      omega
    · have : w < 3 := hw
      show (w + h * 3) / 3 % 3 = h
      omega
    · have : w < 9 := hw
      show (w + h * 9) / 9 % 3 = h
      omega
  rw [e1, e2, hg]
theorem wy3 {w a h : Nat} (ha : a ≤ 2) (hw : w < 3 ^ a) (hh : h < 3) : w + h * 3 ^ a < 3 ^ (a + 1) := by
  rcases (show a = 0 ∨ a = 1 ∨ a = 2 by omega) with rfl | rfl | rfl
  · have : w < 1 := hw
    show w + h * 1 < 3
    omega
  · have : w < 3 := hw
    show w + h * 3 < 9
    omega
  · have : w < 9 := hw
    show w + h * 9 < 27
    omega
section Kids
variable {σ : am_M} {p : Pg} {n : Nat} {rk dp : Nat → Nat} {ow : Nat → Nat → Nat} {i w s P A : Nat} {E : Nat × Nat}
/-- all statements of lower rank stand in the table: so does what a statement contains -/
theorem WT.kid (h : WT p n rk dp ow) (hi : i < n) (hw : w < 3 ^ dp i) (hE : evn (ow i) w P A (dp i) = E) (ht : ¬ p 0 i = 36) {x : Nat} (hx : x = p 2 i ∨ x = p 3 i) (hp : x ≤ n) (hT : ∀ c, c < n → rk c < rk i → ∀ w, w < 3 ^ dp c → TB σ p dp ow s P A c w) : (KD σ p x w 0 ST true E ∧ KD σ p x w 1 ST false E) ∧ (lv p x s = true → KD σ p x w 2 s true E ∧ KD σ p x w 3 s false E) := by
  obtain ⟨h2, h3, -⟩ := h i hi
  by_cases hx0 : x = 0
  · exact ⟨⟨Or.inl hx0, Or.inl hx0⟩, fun _ => ⟨Or.inl hx0, Or.inl hx0⟩⟩
  · have hc : rk (x - 1) < rk i ∧ dp (x - 1) = dp i ∧ ∀ b, b < dp i → ow (x - 1) b = ow i b := by
      rcases hx with rfl | rfl
      · have := h2.resolve_left hx0
        rw [if_neg ht] at this
        exact ⟨this.1, this.2.1, this.2.2.1⟩
      · exact h3.resolve_left hx0
    have hTB := hT (x - 1) (by omega) hc.1 w (by rw [hc.2.1]; exact hw)
    have hev : evn (ow (x - 1)) w P A (dp (x - 1)) = E := by
      rw [hc.2.1, ← hE]
      exact evn_ext _ (fun b hb => ⟨hc.2.2 b hb, rfl⟩)
    unfold TB at hTB
    rw [hev, Nat.sub_add_cancel (by omega)] at hTB
    exact ⟨⟨Or.inr hTB.1, Or.inr hTB.2.1⟩, fun z => ⟨Or.inr (hTB.2.2 z).1, Or.inr (hTB.2.2 z).2⟩⟩
theorem WT.kid36 (h : WT p n rk dp ow) (hi : i < n) (hw : w < 3 ^ dp i) (hE : evn (ow i) w P A (dp i) = E) (ht : p 0 i = 36) (hp : p 2 i ≤ n) (hT : ∀ c, c < n → rk c < rk i → ∀ w, w < 3 ^ dp c → TB σ p dp ow s P A c w) {h' : Nat} (hh : h' < 3) : (KD σ p (p 2 i) (w + h' * 3 ^ dp i) 0 ST true (up3 E (p 1 i - 1) h') ∧ KD σ p (p 2 i) (w + h' * 3 ^ dp i) 1 ST false (up3 E (p 1 i - 1) h')) ∧ (lv p (p 2 i) s = true → KD σ p (p 2 i) (w + h' * 3 ^ dp i) 2 s true (up3 E (p 1 i - 1) h') ∧ KD σ p (p 2 i) (w + h' * 3 ^ dp i) 3 s false (up3 E (p 1 i - 1) h')) := by
  obtain ⟨h2, -, h36, hu, -⟩ := h i hi
  obtain ⟨hx0, -⟩ := hu (by omega)
  obtain ⟨-, hd2⟩ := h36 ht
  have hc := h2.resolve_left hx0
  rw [if_pos ht] at hc
  have hTB := hT (p 2 i - 1) (by omega) hc.1 (w + h' * 3 ^ dp i) (by rw [hc.2.1]; exact wy3 hd2 hw hh)
  have hev : evn (ow (p 2 i - 1)) (w + h' * 3 ^ dp i) P A (dp (p 2 i - 1)) = up3 E (p 1 i - 1) h' := by
    rw [hc.2.1, ← hE]
    exact evn36 hd2 hw hh hc.2.2.1 (hc.2.2.2 ht)
  unfold TB at hTB
  rw [hev, Nat.sub_add_cancel (by omega)] at hTB
  exact ⟨⟨Or.inr hTB.1, Or.inr hTB.2.1⟩, fun z => ⟨Or.inr (hTB.2.2 z).1, Or.inr (hTB.2.2 z).2⟩⟩
end Kids
/-- all cells but the table's are as they were, and the place of nothing -/
def KT (σ σ' : am_M) : Prop := (∀ c, c ≠ 28 → σ'.1 c = σ.1 c) ∧ σ'.2 = σ.2 ∧ σ'.1 28 6480 = σ.1 28 6480
theorem KT.rf (σ : am_M) : KT σ σ := ⟨fun _ _ => rfl, rfl, rfl⟩
theorem KT.wr {σ σ' : am_M} (h : KT σ σ') {k : Nat} (hk : k < 6480) (x : Int32) : KT σ (am_wr σ' 28 k x) := ⟨fun c hc => by rw [am_wr_ne x hc]; exact h.1 c hc, h.2.1, by rw [am_diff _ _ _ _ _ (by omega)]; exact h.2.2⟩
theorem KT.MB {σ σ' : am_M} (h : KT σ σ') {j s P A n : Nat} {p : Pg} {dp : Nat → Nat} {ow : Nat → Nat → Nat} (hB : MB σ j s P A p n dp ow) : MB σ' j s P A p n dp ow := by
  obtain ⟨hj, ⟨hS1, hS2, hS3, hS4⟩, hW, hs, hN, hr⟩ := hB
  refine ⟨hj, ⟨?_, ?_, ?_, ?_⟩, hW, hs, ?_, hr⟩
  · rw [h.1 0 (by decide)]; exact hS1
  · rw [h.1 0 (by decide)]; exact hS2
  · intro g hg
    rw [h.1 29 (by decide)]
    exact hS3 g hg
  · rw [h.2.2]; exact hS4
  · intro i hi
    obtain ⟨⟨m0, m1, m2, m3, m4, m5, m6⟩, hd⟩ := hN i hi
    refine ⟨⟨?_, ?_, ?_, ?_, ?_, ?_, ?_⟩, hd⟩
    · rw [h.1 5 (by decide)]; exact m0
    · rw [h.1 6 (by decide)]; exact m1
    · rw [h.1 7 (by decide)]; exact m2
    · rw [h.1 8 (by decide)]; exact m3
    · rw [h.1 13 (by decide)]; exact m4
    · rw [h.1 10 (by decide)]; exact m5
    · intro a ha
      rw [h.1 11 (by decide)]
      exact m6 a ha

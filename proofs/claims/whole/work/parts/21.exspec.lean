/-! the execution: none: a local signal is unsettled; else code and pause points -/
abbrev E2 : Type := Option (Nat × Nat)
def cpl (c q : Nat) : Nat × Nat := (c, if c = 1 then q else 0)
def x_seq (a b : E2) : E2 := if a.map (fun z => z.1) = some 0 then b else a
def x_par : E2 → E2 → E2
  | some a, some b => some (cpl (max a.1 b.1) (a.2 ||| b.2))
  | some _, none => none
  | none, _ => none
def x_trap : E2 → E2
  | none => none
  | some a => if a.1 < 2 then some a else some (if a.1 = 2 then 0 else a.1 - 1, 0)
def x_weak : E2 → E2
  | none => none
  | some a => if a.1 = 1 then some (0, 0) else some a
def exB (p : Pg) (F : Nat → Nat → Nat → E2) (G : Nat → Nat → Bool → Nat → Nat → R4) (k s P : Nat) : E2 :=
  if p 0 k = 46 then some (cpl (if s = ST then 1 else 0) (p 4 k)) else
  if p 0 k = 120 then some (2 + (p 1 k - 1), 0) else
  if p 0 k = 38 then some (cpl (if ¬ s = ST ∧ P.testBit (p 1 k - 1) = true then 0 else 1) (p 4 k)) else
  if p 0 k = 63 then F (if (if s = ST then P.testBit (p 1 k - 1) else lv p (p 2 k) s) = true then p 2 k else p 3 k) s P else
  if p 0 k = 59 then (if ¬ s = ST ∧ lv p (p 2 k) s = false then F (p 3 k) s P else x_seq (F (p 2 k) s P) (F (p 3 k) ST P)) else
  if p 0 k = 124 then x_par (if s = ST ∨ lv p (p 2 k) s = true then F (p 2 k) s P else some (0, 0)) (if s = ST ∨ lv p (p 3 k) s = true then F (p 3 k) s P else some (0, 0)) else
  if p 0 k = 42 then (if s = ST then F (p 2 k) s P else x_seq (F (p 2 k) s P) (F (p 2 k) ST P)) else
  if p 0 k = 94 then x_trap (F (p 2 k) s P) else
  if p 0 k = 64 then (if ¬ s = ST ∧ P.testBit (p 1 k - 1) = true then some (0, 0) else F (p 2 k) s P) else
  if p 0 k = 126 then (if ¬ s = ST ∧ P.testBit (p 1 k - 1) = true then x_weak (F (p 2 k) s P) else F (p 2 k) s P) else
  if p 0 k = 36 then (if (G (p 2 k) s true (cl P (p 1 k - 1)) (cl (255 ^^^ P) (p 1 k - 1))).1.testBit (p 1 k - 1) = true then F (p 2 k) s (P ||| 2 ^ (p 1 k - 1)) else if (G (p 2 k) s true (cl P (p 1 k - 1)) (cl (255 ^^^ P) (p 1 k - 1))).2.1.testBit (p 1 k - 1) = false then F (p 2 k) s (cl P (p 1 k - 1)) else none) else
  some (0, 0)
def ex (p : Pg) : Nat → Nat → Nat → Nat → E2
  | 0, _, _, _ => some (0, 0)
  | _ + 1, 0, _, _ => some (0, 0)
  | f + 1, k + 1, s, P => exB p (ex p f) (an p f) k s P
theorem exB_46 {p : Pg} {F : Nat → Nat → Nat → E2} {G : Nat → Nat → Bool → Nat → Nat → R4} {k s P : Nat} (h : p 0 k = 46) : exB p F G k s P = some (cpl (if s = ST then 1 else 0) (p 4 k)) := by
  unfold exB
  rw [h]
  rfl
theorem exB_120 {p : Pg} {F : Nat → Nat → Nat → E2} {G : Nat → Nat → Bool → Nat → Nat → R4} {k s P : Nat} (h : p 0 k = 120) : exB p F G k s P = some (2 + (p 1 k - 1), 0) := by
  unfold exB
  rw [h]
  rfl
theorem exB_38 {p : Pg} {F : Nat → Nat → Nat → E2} {G : Nat → Nat → Bool → Nat → Nat → R4} {k s P : Nat} (h : p 0 k = 38) : exB p F G k s P = some (cpl (if ¬ s = ST ∧ P.testBit (p 1 k - 1) = true then 0 else 1) (p 4 k)) := by
  unfold exB
  rw [h]
  rfl
theorem exB_63 {p : Pg} {F : Nat → Nat → Nat → E2} {G : Nat → Nat → Bool → Nat → Nat → R4} {k s P : Nat} (h : p 0 k = 63) : exB p F G k s P = F (if (if s = ST then P.testBit (p 1 k - 1) else lv p (p 2 k) s) = true then p 2 k else p 3 k) s P := by
  unfold exB
  rw [h]
  rfl
theorem exB_59 {p : Pg} {F : Nat → Nat → Nat → E2} {G : Nat → Nat → Bool → Nat → Nat → R4} {k s P : Nat} (h : p 0 k = 59) : exB p F G k s P = (if ¬ s = ST ∧ lv p (p 2 k) s = false then F (p 3 k) s P else x_seq (F (p 2 k) s P) (F (p 3 k) ST P)) := by
  unfold exB
  rw [h]
  rfl
theorem exB_124 {p : Pg} {F : Nat → Nat → Nat → E2} {G : Nat → Nat → Bool → Nat → Nat → R4} {k s P : Nat} (h : p 0 k = 124) : exB p F G k s P = x_par (if s = ST ∨ lv p (p 2 k) s = true then F (p 2 k) s P else some (0, 0)) (if s = ST ∨ lv p (p 3 k) s = true then F (p 3 k) s P else some (0, 0)) := by
  unfold exB
  rw [h]
  rfl
theorem exB_42 {p : Pg} {F : Nat → Nat → Nat → E2} {G : Nat → Nat → Bool → Nat → Nat → R4} {k s P : Nat} (h : p 0 k = 42) : exB p F G k s P = (if s = ST then F (p 2 k) s P else x_seq (F (p 2 k) s P) (F (p 2 k) ST P)) := by
  unfold exB
  rw [h]
  rfl
theorem exB_94 {p : Pg} {F : Nat → Nat → Nat → E2} {G : Nat → Nat → Bool → Nat → Nat → R4} {k s P : Nat} (h : p 0 k = 94) : exB p F G k s P = x_trap (F (p 2 k) s P) := by
  unfold exB
  rw [h]
  rfl
theorem exB_64 {p : Pg} {F : Nat → Nat → Nat → E2} {G : Nat → Nat → Bool → Nat → Nat → R4} {k s P : Nat} (h : p 0 k = 64) : exB p F G k s P = (if ¬ s = ST ∧ P.testBit (p 1 k - 1) = true then some (0, 0) else F (p 2 k) s P) := by
  unfold exB
  rw [h]
  rfl
theorem exB_126 {p : Pg} {F : Nat → Nat → Nat → E2} {G : Nat → Nat → Bool → Nat → Nat → R4} {k s P : Nat} (h : p 0 k = 126) : exB p F G k s P = (if ¬ s = ST ∧ P.testBit (p 1 k - 1) = true then x_weak (F (p 2 k) s P) else F (p 2 k) s P) := by
  unfold exB
  rw [h]
  rfl
theorem exB_36 {p : Pg} {F : Nat → Nat → Nat → E2} {G : Nat → Nat → Bool → Nat → Nat → R4} {k s P : Nat} (h : p 0 k = 36) : exB p F G k s P = (if (G (p 2 k) s true (cl P (p 1 k - 1)) (cl (255 ^^^ P) (p 1 k - 1))).1.testBit (p 1 k - 1) = true then F (p 2 k) s (P ||| 2 ^ (p 1 k - 1)) else if (G (p 2 k) s true (cl P (p 1 k - 1)) (cl (255 ^^^ P) (p 1 k - 1))).2.1.testBit (p 1 k - 1) = false then F (p 2 k) s (cl P (p 1 k - 1)) else none) := by
  unfold exB
  rw [h]
  rfl
theorem exB_z {p : Pg} {F : Nat → Nat → Nat → E2} {G : Nat → Nat → Bool → Nat → Nat → R4} {k s P : Nat} (h46 : ¬ p 0 k = 46) (h120 : ¬ p 0 k = 120) (h38 : ¬ p 0 k = 38) (h63 : ¬ p 0 k = 63) (h59 : ¬ p 0 k = 59) (h124 : ¬ p 0 k = 124) (h42 : ¬ p 0 k = 42) (h94 : ¬ p 0 k = 94) (h64 : ¬ p 0 k = 64) (h126 : ¬ p 0 k = 126) (h36 : ¬ p 0 k = 36) : exB p F G k s P = some (0, 0) := by
  unfold exB
  rw [if_neg h46, if_neg h120, if_neg h38, if_neg h63, if_neg h59, if_neg h124, if_neg h42, if_neg h94, if_neg h64, if_neg h126, if_neg h36]
def okE (r : E2) : Prop := ∀ c q, r = some (c, q) → c ≤ 6 ∧ q < 1048576 ∧ (c = 1 ∨ q = 0)
theorem okE_0 : okE (some (0, 0)) := fun c q h => by cases h; exact ⟨by decide, by decide, Or.inr rfl⟩
theorem okE_n : okE none := fun c q h => by cases h
theorem okE_cpl {c q : Nat} (hc : c ≤ 6) (hq : q < 1048576) : okE (some (cpl c q)) := by
  intro c' q' h
  unfold cpl at h
  cases h
  refine ⟨hc, ?_, ?_⟩
  · split
    · exact hq
    · decide
  · by_cases h : c = 1
    · exact Or.inl h
    · exact Or.inr (if_neg h)
theorem okE_seq {a b : E2} (ha : okE a) (hb : okE b) : okE (x_seq a b) := by
  unfold x_seq
  split
  · exact hb
  · exact ha
theorem or_lt20 {a b : Nat} (ha : a < 1048576) (hb : b < 1048576) : a ||| b < 1048576 := Nat.or_lt_two_pow (n := 20) ha hb
theorem exB_ok {p : Pg} {n : Nat} (h : PW p n) {F : Nat → Nat → Nat → E2} {G : Nat → Nat → Bool → Nat → Nat → R4} (ih : ∀ x s P, x ≤ n → okE (F x s P)) {k s P : Nat} (hk : k < n) : okE (exB p F G k s P) := by
  obtain ⟨h0, h1, h2, h3, h4, h5, h6⟩ := h.2 k hk
  by_cases t1 : p 0 k = 46
  · rw [exB_46 t1]; exact okE_cpl (by split <;> decide) h4
  by_cases t2 : p 0 k = 120
  · rw [exB_120 t2]
    intro c q e
    cases e
    exact ⟨by have := h6 t2; omega, by decide, Or.inr rfl⟩
  by_cases t3 : p 0 k = 38
  · rw [exB_38 t3]; exact okE_cpl (by split <;> decide) h4
  by_cases t4 : p 0 k = 63
  · rw [exB_63 t4]
    refine ih _ _ _ ?_
    by_cases hz : (if s = ST then P.testBit (p 1 k - 1) else lv p (p 2 k) s) = true
    · rw [if_pos hz]; exact h2
    · rw [if_neg hz]; exact h3
  by_cases t5 : p 0 k = 59
  · rw [exB_59 t5]
    split
    · exact ih _ _ _ h3
    · exact okE_seq (ih _ _ _ h2) (ih _ _ _ h3)
  by_cases t6 : p 0 k = 124
  · rw [exB_124 t6]
    have a1 : okE (if s = ST ∨ lv p (p 2 k) s = true then F (p 2 k) s P else some (0, 0)) := by
      split
      · exact ih _ _ _ h2
      · exact okE_0
    have a2 : okE (if s = ST ∨ lv p (p 3 k) s = true then F (p 3 k) s P else some (0, 0)) := by
      split
      · exact ih _ _ _ h3
      · exact okE_0
    revert a1 a2
    generalize (if s = ST ∨ lv p (p 2 k) s = true then F (p 2 k) s P else some (0, 0)) = a
    generalize (if s = ST ∨ lv p (p 3 k) s = true then F (p 3 k) s P else some (0, 0)) = b
    intro a1 a2
    match a, b, a1, a2 with
    | none, _, _, _ => exact okE_n
    | some _, none, _, _ => exact okE_n
    | some a, some b, a1, a2 =>
      have e1 := a1 a.1 a.2 rfl
      have e2 := a2 b.1 b.2 rfl
      exact okE_cpl (Nat.max_le.mpr ⟨e1.1, e2.1⟩) (or_lt20 e1.2.1 e2.2.1)
  by_cases t7 : p 0 k = 42
  · rw [exB_42 t7]
    split
    · exact ih _ _ _ h2
    · exact okE_seq (ih _ _ _ h2) (ih _ _ _ h2)
  by_cases t8 : p 0 k = 94
  · rw [exB_94 t8]
    have a1 := ih (p 2 k) s P h2
    revert a1
    generalize F (p 2 k) s P = a
    intro a1
    match a, a1 with
    | none, _ => exact okE_n
    | some a, a1 =>
      have e1 := a1 a.1 a.2 rfl
      show okE (if a.1 < 2 then some a else some (if a.1 = 2 then 0 else a.1 - 1, 0))
      split
      · exact a1
      · intro c q e
        cases e
        exact ⟨by split <;> omega, by decide, Or.inr rfl⟩
  by_cases t9 : p 0 k = 64
  · rw [exB_64 t9]
    split
    · exact okE_0
    · exact ih _ _ _ h2
  by_cases t10 : p 0 k = 126
  · rw [exB_126 t10]
    have a1 := ih (p 2 k) s P h2
    split
    · revert a1
      generalize F (p 2 k) s P = a
      intro a1
      match a, a1 with
      | none, _ => exact okE_n
      | some a, a1 =>
        show okE (if a.1 = 1 then some (0, 0) else some a)
        split
        · exact okE_0
        · exact a1
    · exact a1
  by_cases t11 : p 0 k = 36
  · rw [exB_36 t11]
    split
    · exact ih _ _ _ h2
    · split
      · exact ih _ _ _ h2
      · exact okE_n
  rw [exB_z t1 t2 t3 t4 t5 t6 t7 t8 t9 t10 t11]
  exact okE_0
theorem ex_ok {p : Pg} {n : Nat} (h : PW p n) : ∀ (f x s P : Nat), x ≤ n → okE (ex p f x s P)
  | 0, _, _, _, _ => okE_0
  | _ + 1, 0, _, _, _ => okE_0
  | f + 1, _ + 1, _, _, hx => exB_ok h (ex_ok h f) (by omega)
theorem two_pow_ge8 {i : Nat} (h : ¬ i < 8) : 256 ≤ 2 ^ i := by
  have : 2 ^ 8 ≤ 2 ^ i := Nat.pow_le_pow_right (by decide) (by omega)
  exact this
theorem pq_pres {P g : Nat} (hP : P < 256) : nI P &&& nI (cl 255 g) = nI (cl P g) := by
  rw [nx_and]
  congr 1
  apply Nat.eq_of_testBit_eq
  intro i
  rw [Nat.testBit_and, cl_bit, cl_bit, show (255 : Nat) = 2 ^ 8 - 1 from rfl, Nat.testBit_two_pow_sub_one]
  by_cases h : i < 8
  · simp [h]
  · rw [Nat.testBit_lt_two_pow (Nat.lt_of_lt_of_le hP (show 256 ≤ 2 ^ i from two_pow_ge8 (by omega)))]
    simp
theorem pq_abs {P g : Nat} (hP : P < 256) : (nI P ^^^ -1) &&& nI (cl 255 g) = nI (cl (255 ^^^ P) g) := by
  rw [Int32.and_comm, nx_not]
  congr 1
  apply Nat.eq_of_testBit_eq
  intro i
  simp only [Nat.testBit_and, Nat.testBit_xor, cl_bit]
  rw [show (255 : Nat) = 2 ^ 8 - 1 from rfl, Nat.testBit_two_pow_sub_one]
  by_cases h : i < 8
  · simp only [h, decide_true, Bool.true_and]
    cases P.testBit i <;> cases decide (g = i) <;> rfl
  · rw [Nat.testBit_lt_two_pow (Nat.lt_of_lt_of_le hP (show 256 ≤ 2 ^ i from two_pow_ge8 (by omega)))]
    simp [h]
theorem xor_lt8 {P : Nat} (hP : P < 256) : 255 ^^^ P < 256 := Nat.xor_lt_two_pow (n := 8) (by decide) hP
/-- the class's execution goes f deep from the depth dep on -/
def EX (σ : am_M) (t : Nat) (p : Pg) (n f dep : Nat) : Prop := ∀ d, 8 * f + 12 ≤ d → ∀ (x s P : Nat) (Q : am_Q), x ≤ n → s ≤ 1048576 → P < 256 → (ex p f x s P = none → Q (some (.int (-1))) σ) → (∀ c q, ex p f x s P = some (c, q) → c ≤ 6 → q < 1048576 → (c = 1 ∨ q = 0) → Q (some (.int (nI (c * 1048576 + q)))) σ) → am_C d 41 [.ref t, .int (oI x), .int (nI s), .int (nI P), .int (nI dep)] σ Q

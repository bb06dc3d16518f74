/-! the analysis: what must be can be; at most one code must be; more that is known tells more; how deep it goes doesn't matter -/
def sb (a b : Nat) : Prop := ∀ i, a.testBit i = true → b.testBit i = true
theorem sb.rf (a : Nat) : sb a a := fun _ h => h
theorem sb.tr {a b c : Nat} (h : sb a b) (h' : sb b c) : sb a c := fun i q => h' i (h i q)
theorem sb.z (a : Nat) : sb 0 a := fun i h => by rw [Nat.zero_testBit] at h; cases h
theorem sb.or {a b c d : Nat} (h : sb a c) (h' : sb b d) : sb (a ||| b) (c ||| d) := fun i q => by
  rw [Nat.testBit_or] at q ⊢
  rcases Bool.or_eq_true _ _ ▸ q with q | q
  · rw [h i q]; rfl
  · rw [h' i q]; exact Bool.or_true _
theorem sb.l (a b : Nat) : sb a (a ||| b) := fun i q => by rw [Nat.testBit_or, q]; rfl
theorem sb.r (a b : Nat) : sb b (a ||| b) := fun i q => by rw [Nat.testBit_or, q]; exact Bool.or_true _
theorem sb_cl {a b : Nat} (h : sb a b) (g : Nat) : sb (cl a g) (cl b g) := fun i q => by
  rw [cl_bit] at q ⊢
  rw [Bool.and_eq_true] at q ⊢
  exact ⟨h i q.1, q.2⟩
theorem sb_cl1 (a g : Nat) : sb (cl a g) a := fun i q => by
  rw [cl_bit, Bool.and_eq_true] at q
  exact q.1
theorem sb_no0 {a b g : Nat} (h : sb a b) (hg : a.testBit g = false) : sb a (cl b g) := fun i q => by
  rw [cl_bit, Bool.and_eq_true]
  refine ⟨h i q, ?_⟩
  by_cases e : g = i
  · subst e; rw [hg] at q; cases q
  · simp [e]
theorem lb_bit : ∀ a, a < 128 → a ≠ 0 → ∃ l, l < 7 ∧ lb a = 2 ^ l ∧ a.testBit l = true ∧ ∀ i, i < l → a.testBit i = false := by decide +kernel
theorem mx_bit {a b : Nat} (ha : a < 128) (hb : b < 128) (j : Nat) : (mx a b).testBit j = true ↔ ∃ i1 i2, a.testBit i1 = true ∧ b.testBit i2 = true ∧ max i1 i2 = j := by
  by_cases ha0 : a = 0
  · subst ha0
    refine ⟨fun h => ?_, fun ⟨i1, i2, h, _⟩ => by rw [Nat.zero_testBit] at h; cases h⟩
    unfold mx at h
    rw [if_pos (Or.inl rfl), Nat.zero_testBit] at h
    cases h
  by_cases hb0 : b = 0
  · subst hb0
    refine ⟨fun h => ?_, fun ⟨i1, i2, _, h, _⟩ => by rw [Nat.zero_testBit] at h; cases h⟩
    unfold mx at h
    rw [if_pos (Or.inr rfl), Nat.zero_testBit] at h
    cases h
  obtain ⟨la, hla, ea, ba, na⟩ := lb_bit a ha ha0
  obtain ⟨l2, hl2, e2, b2, n2⟩ := lb_bit b hb hb0
  have key : (mx a b).testBit j = (decide (max la l2 ≤ j) && (a.testBit j || b.testBit j)) := by
    have hm : max (lb a) (lb b) = 2 ^ max la l2 := by
      rw [ea, e2]
      rcases Nat.le_total la l2 with h | h
      · rw [Nat.max_eq_right h, Nat.max_eq_right (Nat.pow_le_pow_right (by decide) h)]
      · rw [Nat.max_eq_left h, Nat.max_eq_left (Nat.pow_le_pow_right (by decide) h)]
    unfold mx
    rw [if_neg (by omega), hm, Nat.testBit_mul_two_pow, Nat.testBit_div_two_pow, Nat.testBit_or]
    by_cases h : max la l2 ≤ j
    · simp only [h, decide_true, Bool.true_and, Nat.sub_add_cancel h]
    · simp only [h, decide_false, Bool.false_and]
  have ge : ∀ i, a.testBit i = true → la ≤ i := fun i h => Nat.le_of_not_lt fun q => by rw [na i q] at h; cases h
  have ge2 : ∀ i, b.testBit i = true → l2 ≤ i := fun i h => Nat.le_of_not_lt fun q => by rw [n2 i q] at h; cases h
  rw [key, Bool.and_eq_true, decide_eq_true_eq, Bool.or_eq_true]
  constructor
  · rintro ⟨h1, h2 | h2⟩
    · exact ⟨j, l2, h2, b2, by omega⟩
    · exact ⟨la, j, ba, h2, by omega⟩
  · rintro ⟨i1, i2, h1, h2, rfl⟩
    have g1 := ge i1 h1
    have g2 := ge2 i2 h2
    refine ⟨by omega, ?_⟩
    rcases Nat.le_total i1 i2 with h | h
    · exact Or.inr (by rw [Nat.max_eq_right h]; exact h2)
    · exact Or.inl (by rw [Nat.max_eq_left h]; exact h1)
theorem sb_mx {a b c d : Nat} (hc : c < 128) (hd : d < 128) (ha : a < 128) (hb : b < 128) (h : sb a c) (h' : sb b d) : sb (mx a b) (mx c d) := fun j q => by
  obtain ⟨i1, i2, q1, q2, q3⟩ := (mx_bit ha hb j).mp q
  exact (mx_bit hc hd j).mpr ⟨i1, i2, h i1 q1, h' i2 q2, q3⟩
theorem ct_bit : ∀ k, k < 128 → ∀ i, i < 8 → (ct k).testBit i = (if i = 0 then k.testBit 0 || k.testBit 2 else if i = 1 then k.testBit 1 else k.testBit (i + 1)) := by decide +kernel
theorem sb_ct {a b : Nat} (ha : a < 128) (hb : b < 128) (h : sb a b) : sb (ct a) (ct b) := fun i q => by
  by_cases hi : i < 8
  · rw [ct_bit a ha i hi] at q
    rw [ct_bit b hb i hi]
    split
    · rename_i h0
      rw [if_pos h0, Bool.or_eq_true] at q
      rcases q with q | q
      · rw [h _ q]; rfl
      · rw [h _ q]; exact Bool.or_true _
    · rename_i h0
      rw [if_neg h0] at q
      split
      · rename_i h1
        rw [if_pos h1] at q
        exact h _ q
      · rename_i h1
        rw [if_neg h1] at q
        exact h _ q
  · rw [bit_lt8 (Nat.lt_trans (ct_lt ha) (by decide)) hi] at q
    cases q
theorem sb_en {a b : Nat} (h : sb a b) : sb (en a) (en b) := by
  unfold en
  by_cases h1 : a.testBit 1 = true
  · rw [if_pos h1, if_pos (h 1 h1)]
    exact h.or (sb.rf 1)
  · rw [if_neg h1]
    split
    · exact h.tr (sb.l b 1)
    · exact h
theorem sb_en1 (a : Nat) : sb a (en a) := by
  unfold en
  split
  · exact sb.l a 1
  · exact sb.rf a
/-- must: at most one code, and then it's all that can be -/
def one4 (r : R4) : Prop := r.2.2.1 = 0 ∨ (r.2.2.2 = r.2.2.1 ∧ ∃ j, j < 7 ∧ r.2.2.1 = 2 ^ j)
def inv4 (r : R4) : Prop := sb r.1 r.2.1 ∧ one4 r
theorem one_cd {j : Nat} (h : j < 7) : inv4 (r_cd (2 ^ j)) := ⟨sb.rf 0, Or.inr ⟨rfl, j, h, rfl⟩⟩
theorem one_me {r : R4} (h : one4 r) (hm : me r = true) : r.2.2.1 = 1 ∧ r.2.2.2 = 1 := by
  unfold me at hm
  rcases h with h | ⟨h1, j, hj, h2⟩
  · rw [h] at hm; cases hm
  · rw [h2, Nat.testBit_two_pow, decide_eq_true_eq] at hm
    subst hm
    exact ⟨h2, h1.trans h2⟩
theorem one_nm {r : R4} (h : one4 r) (hq : r.2.2.2.testBit 0 = true) (hm : me r = false) : r.2.2.1 = 0 := by
  unfold me at hm
  rcases h with h | ⟨h1, j, hj, h2⟩
  · exact h
  · rw [h1] at hq
    rw [hq] at hm
    cases hm
theorem inv_flw {b a : R4} (hb : inv4 b) (ha : inv4 a) : inv4 (r_flw b a) := by
  unfold r_flw
  split
  · exact hb
  · rename_i h0
    have h0 : b.2.2.2.testBit 0 = true := by simpa using h0
    split
    · rename_i hm
      obtain ⟨e1, e2⟩ := one_me hb.2 hm
      refine ⟨hb.1.or ha.1, ?_⟩
      have z : cl 1 0 = 0 := by decide
      unfold one4
      simp only [e1, e2, z, Nat.zero_or]
      exact ha.2
    · rename_i hm
      have e := one_nm hb.2 h0 (by simpa using hm)
      exact ⟨hb.1.tr (sb.l _ _), Or.inl e⟩
theorem mx_pow {i j : Nat} (hi : i < 7) (hj : j < 7) : mx (2 ^ i) (2 ^ j) = 2 ^ max i j := (by decide +kernel : ∀ i, i < 7 → ∀ j, j < 7 → mx (2 ^ i) (2 ^ j) = 2 ^ max i j) i hi j hj
theorem inv_par {a b : R4} (ha : inv4 a) (hb : inv4 b) : inv4 (r_par a b) := by
  refine ⟨ha.1.or hb.1, ?_⟩
  unfold one4 r_par
  rcases ha.2 with h | ⟨h1, i, hi, h2⟩
  · exact Or.inl (by show mx a.2.2.1 _ = 0; rw [h]; unfold mx; rw [if_pos (Or.inl rfl)])
  · rcases hb.2 with h | ⟨h3, j, hj, h4⟩
    · exact Or.inl (by show mx _ b.2.2.1 = 0; rw [h]; unfold mx; rw [if_pos (Or.inr rfl)])
    · refine Or.inr ⟨by show mx a.2.2.2 b.2.2.2 = mx a.2.2.1 b.2.2.1; rw [h1, h3], max i j, by omega, ?_⟩
      show mx a.2.2.1 b.2.2.1 = _
      rw [h2, h4, mx_pow hi hj]
theorem ct_pow : ∀ j, j < 7 → ∃ i, i < 7 ∧ ct (2 ^ j) = 2 ^ i := by decide +kernel
theorem wk_pow : ∀ j, j < 7 → ∃ i, i < 7 ∧ cl (en (2 ^ j)) 1 = 2 ^ i := by decide +kernel
theorem wu_pow : ∀ j, j < 7 → cl (2 ^ j) 1 = 0 ∨ (cl (2 ^ j) 1 = 2 ^ j ∧ en (2 ^ j) = 2 ^ j) := by decide +kernel
theorem inv_trap {a : R4} (ha : inv4 a) : inv4 (r_trap a) := by
  refine ⟨ha.1, ?_⟩
  unfold one4 r_trap
  rcases ha.2 with h | ⟨h1, i, hi, h2⟩
  · exact Or.inl (by show ct a.2.2.1 = 0; rw [h]; rfl)
  · obtain ⟨j, hj, e⟩ := ct_pow i hi
    exact Or.inr ⟨by show ct a.2.2.2 = ct a.2.2.1; rw [h1], j, hj, by show ct a.2.2.1 = _; rw [h2, e]⟩
theorem inv_weakP {a : R4} (ha : inv4 a) : inv4 (r_weakP a) := by
  refine ⟨ha.1, ?_⟩
  unfold one4 r_weakP
  rcases ha.2 with h | ⟨h1, i, hi, h2⟩
  · exact Or.inl (by show cl (en a.2.2.1) 1 = 0; rw [h]; rfl)
  · obtain ⟨j, hj, e⟩ := wk_pow i hi
    exact Or.inr ⟨by show cl (en a.2.2.2) 1 = cl (en a.2.2.1) 1; rw [h1], j, hj, by show cl (en a.2.2.1) 1 = _; rw [h2, e]⟩
theorem inv_weakU {a : R4} (ha : inv4 a) : inv4 (r_weakU a) := by
  refine ⟨ha.1, ?_⟩
  unfold one4 r_weakU
  rcases ha.2 with h | ⟨h1, i, hi, h2⟩
  · exact Or.inl (by show cl a.2.2.1 1 = 0; rw [h]; rfl)
  · rcases wu_pow i hi with e | ⟨e1, e2⟩
    · exact Or.inl (by show cl a.2.2.1 1 = 0; rw [h2, e])
    · exact Or.inr ⟨by show en a.2.2.2 = cl a.2.2.1 1; rw [h1, h2, e1, e2], i, hi, by show cl a.2.2.1 1 = _; rw [h2, e1]⟩
theorem inv_hide {a : R4} (ha : inv4 a) (g : Nat) : inv4 (r_hide a g) := ⟨sb_cl ha.1 g, ha.2⟩
theorem inv_1 : inv4 (r_cd 1) := one_cd (j := 0) (by decide)
theorem inv_2 : inv4 (r_cd 2) := one_cd (j := 1) (by decide)
theorem anB_inv {p : Pg} {n : Nat} (h : PW p n) {F : Nat → Nat → Bool → Nat → Nat → R4} (ih : ∀ x s u P A, x ≤ n → inv4 (F x s u P A)) {k s : Nat} {u : Bool} {P A : Nat} (hk : k < n) : inv4 (anB p F k s u P A) := by
  obtain ⟨h0, h1, h2, h3, h4, h5, h6⟩ := h.2 k hk
  by_cases t1 : p 0 k = 46
  · rw [anB_46 t1]
    split
    · exact inv_2
    · exact inv_1
  by_cases t2 : p 0 k = 33
  · rw [anB_33 t2]; exact ⟨sb.rf _, Or.inr ⟨rfl, 0, by decide, rfl⟩⟩
  by_cases t3 : p 0 k = 120
  · rw [anB_120 t3]
    have h7 := h6 t3
    have e : 4 * 2 ^ (p 1 k - 1) = 2 ^ (2 + (p 1 k - 1)) := by rw [Nat.pow_add]
    rw [e]
    exact one_cd (by omega)
  by_cases t4 : p 0 k = 38
  · rw [anB_38 t4]
    split
    · exact inv_2
    · split
      · exact inv_1
      · exact ⟨sb.rf 0, Or.inl rfl⟩
  by_cases t5 : p 0 k = 63
  · rw [anB_63 t5]
    split
    · split
      · exact ih _ _ _ _ _ h2
      · split
        · exact ih _ _ _ _ _ h3
        · exact ⟨sb.z _, Or.inl rfl⟩
    · split
      · exact ih _ _ _ _ _ h2
      · exact ih _ _ _ _ _ h3
  by_cases t6 : p 0 k = 59
  · rw [anB_59 t6]
    split
    · exact ih _ _ _ _ _ h3
    · exact inv_flw (ih _ _ _ _ _ h2) (ih _ _ _ _ _ h3)
  by_cases t7 : p 0 k = 124
  · rw [anB_124 t7]
    refine inv_par ?_ ?_
    · split
      · exact ih _ _ _ _ _ h2
      · exact inv_1
    · split
      · exact ih _ _ _ _ _ h3
      · exact inv_1
  by_cases t8 : p 0 k = 42
  · rw [anB_42 t8]
    split
    · exact ih _ _ _ _ _ h2
    · exact inv_flw (ih _ _ _ _ _ h2) (ih _ _ _ _ _ h2)
  by_cases t9 : p 0 k = 94
  · rw [anB_94 t9]; exact inv_trap (ih _ _ _ _ _ h2)
  by_cases t10 : p 0 k = 64
  · rw [anB_64 t10]
    split
    · exact ih _ _ _ _ _ h2
    · split
      · exact inv_1
      · exact ⟨sb.z _, Or.inl rfl⟩
  by_cases t11 : p 0 k = 126
  · rw [anB_126 t11]
    split
    · exact ih _ _ _ _ _ h2
    · split
      · exact inv_weakP (ih _ _ _ _ _ h2)
      · exact inv_weakU (ih _ _ _ _ _ h2)
  by_cases t12 : p 0 k = 36
  · rw [anB_36 t12]
    refine inv_hide ?_ _
    split
    · exact ih _ _ _ _ _ h2
    · split
      · exact ih _ _ _ _ _ h2
      · exact ih _ _ _ _ _ h2
  rw [anB_z t1 t2 t3 t4 t5 t6 t7 t8 t9 t10 t11 t12]
  exact inv_1
theorem an_inv {p : Pg} {n : Nat} (h : PW p n) : ∀ (f x s : Nat) (u : Bool) (P A : Nat), x ≤ n → inv4 (an p f x s u P A)
  | 0, _, _, _, _, _, _ => inv_1
  | _ + 1, 0, _, _, _, _, _ => inv_1
  | f + 1, _ + 1, _, _, _, _, hx => anB_inv h (an_inv h f) (by omega)
/-! more that is known tells more -/
def le4 (r r' : R4) : Prop := sb r.1 r'.1 ∧ sb r'.2.1 r.2.1 ∧ sb r.2.2.1 r'.2.2.1 ∧ sb r'.2.2.2 r.2.2.2
theorem le4.rf (r : R4) : le4 r r := ⟨sb.rf _, sb.rf _, sb.rf _, sb.rf _⟩
def dj (P A : Nat) : Prop := ∀ i, ¬ (P.testBit i = true ∧ A.testBit i = true)
theorem sb23 : sb 2 3 := sb.l 2 1
theorem sb13 : sb 1 3 := sb.l 1 2
theorem sb1 {k : Nat} (h : sb 1 k) : k.testBit 0 = true := h 0 rfl
theorem le_flw {b a b' a' : R4} (hb : inv4 b) (hb' : inv4 b') (h : le4 b b') (ha : le4 a a') : le4 (r_flw b a) (r_flw b' a') := by
  obtain ⟨h1, h2, h3, h4⟩ := h
  obtain ⟨a1, a2, a3, a4⟩ := ha
  have z : cl 1 0 = 0 := by decide
  by_cases q : b.2.2.2.testBit 0 = true
  · by_cases m : me b = true
    · obtain ⟨e1, e2⟩ := one_me hb.2 m
      have m' : me b' = true := sb1 (by rw [← e1]; exact h3)
      obtain ⟨e3, e4⟩ := one_me hb'.2 m'
      have q' : b'.2.2.2.testBit 0 = true := by rw [e4]; rfl
      unfold r_flw
      rw [if_neg (by rw [q]; decide), if_pos m, if_neg (by rw [q']; decide), if_pos m', e1, e2, e3, e4]
      exact ⟨h1.or a1, h2.or a2, (sb.rf _).or a3, (sb.rf _).or a4⟩
    · have m0 : me b = false := by simpa using m
      have e := one_nm hb.2 q m0
      have lhs : r_flw b a = (b.1, b.2.1 ||| a.2.1, b.2.2.1, cl b.2.2.2 0 ||| a.2.2.2) := by
        unfold r_flw
        rw [if_neg (by rw [q]; decide), if_neg m]
      rw [lhs]
      by_cases q' : b'.2.2.2.testBit 0 = true
      · by_cases m' : me b' = true
        · unfold r_flw
          rw [if_neg (by rw [q']; decide), if_pos m']
          refine ⟨h1.tr (sb.l _ _), h2.or a2, ?_, (sb_cl h4 0).or a4⟩
          rw [e]
          exact sb.z _
        · unfold r_flw
          rw [if_neg (by rw [q']; decide), if_neg m']
          exact ⟨h1, h2.or a2, h3, (sb_cl h4 0).or a4⟩
      · unfold r_flw
        have q'' : b'.2.2.2.testBit 0 = false := by simpa using q'
        rw [if_pos q'']
        exact ⟨h1, h2.tr (sb.l _ _), h3, (sb_no0 h4 q'').tr (sb.l _ _)⟩
  · have q0 : b.2.2.2.testBit 0 = false := by simpa using q
    have q' : b'.2.2.2.testBit 0 = false := by
      cases e : b'.2.2.2.testBit 0
      · rfl
      · rw [h4 0 e] at q0; cases q0
    unfold r_flw
    rw [if_pos q0, if_pos q']
    exact ⟨h1, h2, h3, h4⟩
theorem le_par {a b a' b' : R4} (oa : ok4 a) (ob : ok4 b) (oa' : ok4 a') (ob' : ok4 b') (h : le4 a a') (h' : le4 b b') : le4 (r_par a b) (r_par a' b') :=
  ⟨h.1.or h'.1, h.2.1.or h'.2.1, sb_mx oa'.2.2.1 ob'.2.2.1 oa.2.2.1 ob.2.2.1 h.2.2.1 h'.2.2.1, sb_mx oa.2.2.2 ob.2.2.2 oa'.2.2.2 ob'.2.2.2 h.2.2.2 h'.2.2.2⟩
theorem cl_no (P g : Nat) : (cl P g).testBit g = false := by rw [cl_bit]; simp
theorem cl_other {P g i : Nat} (h : ¬ g = i) : (cl P g).testBit i = P.testBit i := by rw [cl_bit]; simp [h]
theorem st_bit (P g i : Nat) : (cl P g ||| 2 ^ g).testBit i = (P.testBit i || decide (g = i)) := by
  rw [Nat.testBit_or, cl_bit, Nat.testBit_two_pow]
  cases P.testBit i <;> cases decide (g = i) <;> rfl
theorem dj_cl {P A : Nat} (h : dj P A) (g : Nat) : dj (cl P g) (cl A g) := fun i q => h i ⟨sb_cl1 P g i q.1, sb_cl1 A g i q.2⟩
theorem dj_p {P A : Nat} (h : dj P A) (g : Nat) : dj (cl P g ||| 2 ^ g) (cl A g) := fun i q => by
  by_cases e : g = i
  · subst e; rw [cl_no] at q; cases q.2
  · rw [st_bit, cl_other e] at q
    simp [e] at q
    exact h i q
theorem dj_a {P A : Nat} (h : dj P A) (g : Nat) : dj (cl P g) (cl A g ||| 2 ^ g) := fun i q => by
  by_cases e : g = i
  · subst e; rw [cl_no] at q; cases q.1
  · rw [st_bit, cl_other e] at q
    simp [e] at q
    exact h i q
theorem anB_mono {p : Pg} {n : Nat} (h : PW p n) {F : Nat → Nat → Bool → Nat → Nat → R4} (ok : ∀ x s u P A, x ≤ n → ok4 (F x s u P A)) (iv : ∀ x s u P A, x ≤ n → inv4 (F x s u P A))
    (ih : ∀ x s u u' P A P' A', x ≤ n → (u = true → u' = true) → sb P P' → sb A A' → dj P' A' → le4 (F x s u P A) (F x s u' P' A'))
    {k s : Nat} {u u' : Bool} {P A P' A' : Nat} (hk : k < n) (hu : u = true → u' = true) (hP : sb P P') (hA : sb A A') (hd : dj P' A') : le4 (anB p F k s u P A) (anB p F k s u' P' A') := by
  obtain ⟨h0, h1, h2, h3, h4, h5, h6⟩ := h.2 k hk
  have hf : false = true → u' = true := fun q => by cases q
  have hff : false = true → false = true := id
  have nP : ∀ i, P'.testBit i = false → P.testBit i = false := fun i q => by
    cases e : P.testBit i
    · rfl
    · rw [hP i e] at q; cases q
  have nA : ∀ i, A'.testBit i = false → A.testBit i = false := fun i q => by
    cases e : A.testBit i
    · rfl
    · rw [hA i e] at q; cases q
  have tt : ∀ b : Bool, b = true ∨ b = false := fun b => by cases b <;> simp
  have aP : ∀ i, P.testBit i = true → A'.testBit i = false := fun i q => by
    rcases tt (A'.testBit i) with e | e
    · exact absurd ⟨hP i q, e⟩ (hd i)
    · exact e
  have pA : ∀ i, A.testBit i = true → P'.testBit i = false := fun i q => by
    rcases tt (P'.testBit i) with e | e
    · exact absurd ⟨e, hA i q⟩ (hd i)
    · exact e
  by_cases t1 : p 0 k = 46
  · rw [anB_46 t1, anB_46 t1]; exact le4.rf _
  by_cases t2 : p 0 k = 33
  · rw [anB_33 t2, anB_33 t2]; exact le4.rf _
  by_cases t3 : p 0 k = 120
  · rw [anB_120 t3, anB_120 t3]; exact le4.rf _
  by_cases t4 : p 0 k = 38
  · rw [anB_38 t4, anB_38 t4]
    by_cases hs : s = ST
    · simp only [hs, true_or, if_true]; exact le4.rf _
    · simp only [hs, false_or]
      rcases tt (A.testBit (p 1 k - 1)) with a | a
      · rw [if_pos a, if_pos (hA _ a)]; exact le4.rf _
      · rw [if_neg (by rw [a]; decide)]
        rcases tt (P.testBit (p 1 k - 1)) with b | b
        · rw [if_pos b, if_neg (by rw [aP _ b]; decide), if_pos (hP _ b)]; exact le4.rf _
        · rw [if_neg (by rw [b]; decide)]
          split
          · exact ⟨sb.rf 0, sb.rf 0, sb.z _, sb23⟩
          · split
            · exact ⟨sb.rf 0, sb.rf 0, sb.z _, sb13⟩
            · exact le4.rf _
  by_cases t5 : p 0 k = 63
  · rw [anB_63 t5, anB_63 t5]
    by_cases hs : s = ST
    · simp only [hs, if_true]
      rcases tt (P.testBit (p 1 k - 1)) with b | b
      · rw [if_pos b, if_pos (hP _ b)]
        exact ih _ _ _ _ _ _ _ _ h2 hu hP hA hd
      · rw [if_neg (by rw [b]; decide)]
        rcases tt (A.testBit (p 1 k - 1)) with a | a
        · rw [if_pos a, if_neg (by rw [pA _ a]; decide), if_pos (hA _ a)]
          exact ih _ _ _ _ _ _ _ _ h3 hu hP hA hd
        · rw [if_neg (by rw [a]; decide)]
          split
          · have e := ih (p 2 k) ST false u' P A P' A' h2 hf hP hA hd
            exact ⟨sb.z _, e.2.1.tr (sb.l _ _), sb.z _, e.2.2.2.tr (sb.l _ _)⟩
          · split
            · have e := ih (p 3 k) ST false u' P A P' A' h3 hf hP hA hd
              exact ⟨sb.z _, e.2.1.tr (sb.r _ _), sb.z _, e.2.2.2.tr (sb.r _ _)⟩
            · have e := ih (p 2 k) ST false false P A P' A' h2 hff hP hA hd
              have e' := ih (p 3 k) ST false false P A P' A' h3 hff hP hA hd
              exact ⟨sb.z _, e.2.1.or e'.2.1, sb.z _, e.2.2.2.or e'.2.2.2⟩
    · simp only [hs, if_false]
      split
      · exact ih _ _ _ _ _ _ _ _ h2 hu hP hA hd
      · exact ih _ _ _ _ _ _ _ _ h3 hu hP hA hd
  have hme : ∀ x, x ≤ n → (u && me (F x s u P A)) = true → (u' && me (F x s u' P' A')) = true := by
    intro x hx q
    rw [Bool.and_eq_true] at q ⊢
    exact ⟨hu q.1, (ih x s u u' P A P' A' hx hu hP hA hd).2.2.1 0 q.2⟩
  by_cases t6 : p 0 k = 59
  · rw [anB_59 t6, anB_59 t6]
    split
    · exact ih _ _ _ _ _ _ _ _ h3 hu hP hA hd
    · exact le_flw (iv _ _ _ _ _ h2) (iv _ _ _ _ _ h2) (ih _ _ _ _ _ _ _ _ h2 hu hP hA hd) (ih _ _ _ _ _ _ _ _ h3 (hme _ h2) hP hA hd)
  by_cases t7 : p 0 k = 124
  · rw [anB_124 t7, anB_124 t7]
    have o1 : ∀ x u P A, x ≤ n → ok4 (if s = ST ∨ lv p x s = true then F x s u P A else r_cd 1) := by
      intro x u P A hx
      split
      · exact ok _ _ _ _ _ hx
      · exact ok_cd (by decide)
    have o2 : ∀ x, x ≤ n → le4 (if s = ST ∨ lv p x s = true then F x s u P A else r_cd 1) (if s = ST ∨ lv p x s = true then F x s u' P' A' else r_cd 1) := by
      intro x hx
      split
      · exact ih _ _ _ _ _ _ _ _ hx hu hP hA hd
      · exact le4.rf _
    exact le_par (o1 _ _ _ _ h2) (o1 _ _ _ _ h3) (o1 _ _ _ _ h2) (o1 _ _ _ _ h3) (o2 _ h2) (o2 _ h3)
  by_cases t8 : p 0 k = 42
  · rw [anB_42 t8, anB_42 t8]
    split
    · exact ih _ _ _ _ _ _ _ _ h2 hu hP hA hd
    · exact le_flw (iv _ _ _ _ _ h2) (iv _ _ _ _ _ h2) (ih _ _ _ _ _ _ _ _ h2 hu hP hA hd) (ih _ _ _ _ _ _ _ _ h2 (hme _ h2) hP hA hd)
  by_cases t9 : p 0 k = 94
  · rw [anB_94 t9, anB_94 t9]
    have e := ih (p 2 k) s u u' P A P' A' h2 hu hP hA hd
    have o1 := ok (p 2 k) s u P A h2
    have o2 := ok (p 2 k) s u' P' A' h2
    exact ⟨e.1, e.2.1, sb_ct o1.2.2.1 o2.2.2.1 e.2.2.1, sb_ct o2.2.2.2 o1.2.2.2 e.2.2.2⟩
  by_cases t10 : p 0 k = 64
  · rw [anB_64 t10, anB_64 t10]
    by_cases hs : s = ST
    · simp only [hs, true_or, if_true]
      exact ih _ _ _ _ _ _ _ _ h2 hu hP hA hd
    · simp only [hs, false_or]
      rcases tt (A.testBit (p 1 k - 1)) with a | a
      · rw [if_pos a, if_pos (hA _ a)]
        exact ih _ _ _ _ _ _ _ _ h2 hu hP hA hd
      · rw [if_neg (by rw [a]; decide)]
        rcases tt (P.testBit (p 1 k - 1)) with b | b
        · rw [if_pos b, if_neg (by rw [aP _ b]; decide), if_pos (hP _ b)]; exact le4.rf _
        · rw [if_neg (by rw [b]; decide)]
          split
          · have e := ih (p 2 k) s false u' P A P' A' h2 hf hP hA hd
            exact ⟨sb.z _, e.2.1, sb.z _, e.2.2.2.tr (sb.l _ _)⟩
          · split
            · exact ⟨sb.z _, sb.z _, sb.z _, sb.r _ _⟩
            · have e := ih (p 2 k) s false false P A P' A' h2 hff hP hA hd
              exact ⟨sb.z _, e.2.1, sb.z _, e.2.2.2.or (sb.rf 1)⟩
  by_cases t11 : p 0 k = 126
  · rw [anB_126 t11, anB_126 t11]
    have e := ih (p 2 k) s u u' P A P' A' h2 hu hP hA hd
    by_cases hs : s = ST
    · simp only [hs, true_or, if_true]
      rw [← hs]
      exact e
    · simp only [hs, false_or]
      rcases tt (A.testBit (p 1 k - 1)) with a | a
      · rw [if_pos a, if_pos (hA _ a)]
        exact e
      · rw [if_neg (by rw [a]; decide)]
        rcases tt (P.testBit (p 1 k - 1)) with b | b
        · rw [if_pos b, if_neg (by rw [aP _ b]; decide), if_pos (hP _ b)]
          exact ⟨e.1, e.2.1, sb_cl (sb_en e.2.2.1) 1, sb_cl (sb_en e.2.2.2) 1⟩
        · rw [if_neg (by rw [b]; decide)]
          split
          · exact ⟨e.1, e.2.1, (sb_cl1 _ _).tr e.2.2.1, e.2.2.2.tr (sb_en1 _)⟩
          · split
            · exact ⟨e.1, e.2.1, sb_cl (e.2.2.1.tr (sb_en1 _)) 1, (sb_cl1 _ _).tr (sb_en e.2.2.2)⟩
            · exact ⟨e.1, e.2.1, sb_cl e.2.2.1 1, sb_en e.2.2.2⟩
  by_cases t12 : p 0 k = 36
  · rw [anB_36 t12, anB_36 t12]
    have hh : ∀ r r' : R4, le4 r r' → le4 (r_hide r (p 1 k - 1)) (r_hide r' (p 1 k - 1)) := fun r r' e => ⟨sb_cl e.1 _, sb_cl e.2.1 _, e.2.2.1, e.2.2.2⟩
    refine hh _ _ ?_
    have e := ih (p 2 k) s u u' (cl P (p 1 k - 1)) (cl A (p 1 k - 1)) (cl P' (p 1 k - 1)) (cl A' (p 1 k - 1)) h2 hu (sb_cl hP _) (sb_cl hA _) (dj_cl hd _)
    have v' := iv (p 2 k) s u' (cl P' (p 1 k - 1)) (cl A' (p 1 k - 1)) h2
    by_cases c1 : u = true ∧ (F (p 2 k) s u (cl P (p 1 k - 1)) (cl A (p 1 k - 1))).1.testBit (p 1 k - 1) = true
    · rw [if_pos c1, if_pos ⟨hu c1.1, e.1 _ c1.2⟩]
      exact ih _ _ _ _ _ _ _ _ h2 id ((sb_cl hP _).or (sb.rf _)) (sb_cl hA _) (dj_p hd _)
    · rw [if_neg c1]
      by_cases c2 : (F (p 2 k) s u (cl P (p 1 k - 1)) (cl A (p 1 k - 1))).2.1.testBit (p 1 k - 1) = false
      · have c3 : (F (p 2 k) s u' (cl P' (p 1 k - 1)) (cl A' (p 1 k - 1))).2.1.testBit (p 1 k - 1) = false := by
          rcases tt ((F (p 2 k) s u' (cl P' (p 1 k - 1)) (cl A' (p 1 k - 1))).2.1.testBit (p 1 k - 1)) with q | q
          · rw [e.2.1 _ q] at c2; cases c2
          · exact q
        have c4 : ¬ (u' = true ∧ (F (p 2 k) s u' (cl P' (p 1 k - 1)) (cl A' (p 1 k - 1))).1.testBit (p 1 k - 1) = true) := fun q => by
          rw [v'.1 _ q.2] at c3; cases c3
        rw [if_pos c2, if_neg c4, if_pos c3]
        exact ih _ _ _ _ _ _ _ _ h2 hu (sb_cl hP _) ((sb_cl hA _).or (sb.rf _)) (dj_a hd _)
      · rw [if_neg c2]
        split
        · rename_i q
          exact ih _ _ _ _ _ _ _ _ h2 (fun _ => rfl) ((sb_cl hP _).tr (sb.l _ _)) (sb_cl hA _) (dj_p hd _)
        · split
          · exact ih _ _ _ _ _ _ _ _ h2 hu (sb_cl hP _) ((sb_cl hA _).tr (sb.l _ _)) (dj_a hd _)
          · exact e
  rw [anB_z t1 t2 t3 t4 t5 t6 t7 t8 t9 t10 t11 t12, anB_z t1 t2 t3 t4 t5 t6 t7 t8 t9 t10 t11 t12]
  exact le4.rf _
theorem an_mono {p : Pg} {n : Nat} (h : PW p n) : ∀ (f x s : Nat) (u u' : Bool) (P A P' A' : Nat), x ≤ n → (u = true → u' = true) → sb P P' → sb A A' → dj P' A' → le4 (an p f x s u P A) (an p f x s u' P' A')
  | 0, _, _, _, _, _, _, _, _, _, _, _, _, _ => le4.rf _
  | _ + 1, 0, _, _, _, _, _, _, _, _, _, _, _, _ => le4.rf _
  | f + 1, _ + 1, _, _, _, _, _, _, _, hx, hu, hP, hA, hd => anB_mono h (an_ok h f) (an_inv h f) (an_mono h f) (by omega) hu hP hA hd

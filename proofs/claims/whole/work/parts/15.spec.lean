/-! THE SPECIFICATION in numbers: a program p (p 0 i: token of statement i; p 1 i: its signal or digit + 1, 0 for none; p 2 i, p 3 i: its operands + 1, 0 for none; p 4 i: its pause points), its analysis -/
abbrev Pg : Type := Nat → Nat → Nat
/-- signals that it must emit, can emit; codes with which it must, can complete -/
abbrev R4 : Type := Nat × Nat × Nat × Nat
def r_cd (k : Nat) : R4 := (0, 0, k, k)
abbrev ST : Nat := 1048576
def lv (p : Pg) (x s : Nat) : Bool := !(x == 0) && !(p 4 (x - 1) &&& s == 0)
def lb (a : Nat) : Nat := if a % 2 = 1 then 1 else if a / 2 % 2 = 1 then 2 else if a / 4 % 2 = 1 then 4 else if a / 8 % 2 = 1 then 8 else if a / 16 % 2 = 1 then 16 else if a / 32 % 2 = 1 then 32 else if a / 64 % 2 = 1 then 64 else 0
/-- the greater of each of two codes -/
def mx (a b : Nat) : Nat := if a = 0 ∨ b = 0 then 0 else (a ||| b) / max (lb a) (lb b) * max (lb a) (lb b)
def me (r : R4) : Bool := r.2.2.1.testBit 0
def r_flw (b a : R4) : R4 := if b.2.2.2.testBit 0 = false then b else if me b then (b.1 ||| a.1, b.2.1 ||| a.2.1, cl b.2.2.1 0 ||| a.2.2.1, cl b.2.2.2 0 ||| a.2.2.2) else (b.1, b.2.1 ||| a.2.1, b.2.2.1, cl b.2.2.2 0 ||| a.2.2.2)
def r_par (a b : R4) : R4 := (a.1 ||| b.1, a.2.1 ||| b.2.1, mx a.2.2.1 b.2.2.1, mx a.2.2.2 b.2.2.2)
def r_or (a b : R4) : R4 := (0, a.2.1 ||| b.2.1, 0, a.2.2.2 ||| b.2.2.2)
def ct (k : Nat) : Nat := (k % 4 ||| (k / 4 % 2)) ||| k / 8 * 4
def r_trap (a : R4) : R4 := (a.1, a.2.1, ct a.2.2.1, ct a.2.2.2)
def r_abt (a : R4) : R4 := (0, a.2.1, 0, a.2.2.2 ||| 1)
def en (k : Nat) : Nat := if k.testBit 1 then k ||| 1 else k
def r_weakP (a : R4) : R4 := (a.1, a.2.1, cl (en a.2.2.1) 1, cl (en a.2.2.2) 1)
def r_weakU (a : R4) : R4 := (a.1, a.2.1, cl a.2.2.1 1, en a.2.2.2)
def r_hide (a : R4) (g : Nat) : R4 := (cl a.1 g, cl a.2.1 g, a.2.2.1, a.2.2.2)
/-- the analysis of the statement k in the state s (ST: it starts), u: certainly executed, with the signals P present and A absent; F: that of what it contains -/
def anB (p : Pg) (F : Nat → Nat → Bool → Nat → Nat → R4) (k s : Nat) (u : Bool) (P A : Nat) : R4 :=
  if p 0 k = 46 then r_cd (if s = ST then 2 else 1) else
  if p 0 k = 33 then (2 ^ (p 1 k - 1), 2 ^ (p 1 k - 1), 1, 1) else
  if p 0 k = 120 then r_cd (4 * 2 ^ (p 1 k - 1)) else
  if p 0 k = 38 then (if s = ST ∨ A.testBit (p 1 k - 1) = true then r_cd 2 else if P.testBit (p 1 k - 1) = true then r_cd 1 else (0, 0, 0, 3)) else
  if p 0 k = 63 then (if s = ST then (if P.testBit (p 1 k - 1) = true then F (p 2 k) s u P A else if A.testBit (p 1 k - 1) = true then F (p 3 k) s u P A else r_or (F (p 2 k) ST false P A) (F (p 3 k) ST false P A)) else if lv p (p 2 k) s = true then F (p 2 k) s u P A else F (p 3 k) s u P A) else
  if p 0 k = 59 then (if ¬ s = ST ∧ lv p (p 2 k) s = false then F (p 3 k) s u P A else r_flw (F (p 2 k) s u P A) (F (p 3 k) ST (u && me (F (p 2 k) s u P A)) P A)) else
  if p 0 k = 124 then r_par (if s = ST ∨ lv p (p 2 k) s = true then F (p 2 k) s u P A else r_cd 1) (if s = ST ∨ lv p (p 3 k) s = true then F (p 3 k) s u P A else r_cd 1) else
  if p 0 k = 42 then (if s = ST then F (p 2 k) s u P A else r_flw (F (p 2 k) s u P A) (F (p 2 k) ST (u && me (F (p 2 k) s u P A)) P A)) else
  if p 0 k = 94 then r_trap (F (p 2 k) s u P A) else
  if p 0 k = 64 then (if s = ST ∨ A.testBit (p 1 k - 1) = true then F (p 2 k) s u P A else if P.testBit (p 1 k - 1) = true then r_cd 1 else r_abt (F (p 2 k) s false P A)) else
  if p 0 k = 126 then (if s = ST ∨ A.testBit (p 1 k - 1) = true then F (p 2 k) s u P A else if P.testBit (p 1 k - 1) = true then r_weakP (F (p 2 k) s u P A) else r_weakU (F (p 2 k) s u P A)) else
  if p 0 k = 36 then r_hide (if u = true ∧ (F (p 2 k) s u (cl P (p 1 k - 1)) (cl A (p 1 k - 1))).1.testBit (p 1 k - 1) = true then F (p 2 k) s true (cl P (p 1 k - 1) ||| 2 ^ (p 1 k - 1)) (cl A (p 1 k - 1)) else if (F (p 2 k) s u (cl P (p 1 k - 1)) (cl A (p 1 k - 1))).2.1.testBit (p 1 k - 1) = false then F (p 2 k) s u (cl P (p 1 k - 1)) (cl A (p 1 k - 1) ||| 2 ^ (p 1 k - 1)) else F (p 2 k) s u (cl P (p 1 k - 1)) (cl A (p 1 k - 1))) (p 1 k - 1) else
  r_cd 1
/-- f: how deep it goes; x: a statement + 1, 0 is nothing -/
def an (p : Pg) : Nat → Nat → Nat → Bool → Nat → Nat → R4
  | 0, _, _, _, _, _ => r_cd 1
  | _ + 1, 0, _, _, _, _ => r_cd 1
  | f + 1, k + 1, s, u, P, A => anB p (an p f) k s u P A
theorem anB_46 {p : Pg} {F : Nat → Nat → Bool → Nat → Nat → R4} {k s : Nat} {u : Bool} {P A : Nat} (h : p 0 k = 46) : anB p F k s u P A = r_cd (if s = ST then 2 else 1) := by
  unfold anB
  rw [h]
  rfl
theorem anB_33 {p : Pg} {F : Nat → Nat → Bool → Nat → Nat → R4} {k s : Nat} {u : Bool} {P A : Nat} (h : p 0 k = 33) : anB p F k s u P A = (2 ^ (p 1 k - 1), 2 ^ (p 1 k - 1), 1, 1) := by
  unfold anB
  rw [h]
  rfl
theorem anB_120 {p : Pg} {F : Nat → Nat → Bool → Nat → Nat → R4} {k s : Nat} {u : Bool} {P A : Nat} (h : p 0 k = 120) : anB p F k s u P A = r_cd (4 * 2 ^ (p 1 k - 1)) := by
  unfold anB
  rw [h]
  rfl
theorem anB_38 {p : Pg} {F : Nat → Nat → Bool → Nat → Nat → R4} {k s : Nat} {u : Bool} {P A : Nat} (h : p 0 k = 38) : anB p F k s u P A = (if s = ST ∨ A.testBit (p 1 k - 1) = true then r_cd 2 else if P.testBit (p 1 k - 1) = true then r_cd 1 else (0, 0, 0, 3)) := by
  unfold anB
  rw [h]
  rfl
theorem anB_63 {p : Pg} {F : Nat → Nat → Bool → Nat → Nat → R4} {k s : Nat} {u : Bool} {P A : Nat} (h : p 0 k = 63) : anB p F k s u P A = (if s = ST then (if P.testBit (p 1 k - 1) = true then F (p 2 k) s u P A else if A.testBit (p 1 k - 1) = true then F (p 3 k) s u P A else r_or (F (p 2 k) ST false P A) (F (p 3 k) ST false P A)) else if lv p (p 2 k) s = true then F (p 2 k) s u P A else F (p 3 k) s u P A) := by
  unfold anB
  rw [h]
  rfl
theorem anB_59 {p : Pg} {F : Nat → Nat → Bool → Nat → Nat → R4} {k s : Nat} {u : Bool} {P A : Nat} (h : p 0 k = 59) : anB p F k s u P A = (if ¬ s = ST ∧ lv p (p 2 k) s = false then F (p 3 k) s u P A else r_flw (F (p 2 k) s u P A) (F (p 3 k) ST (u && me (F (p 2 k) s u P A)) P A)) := by
  unfold anB
  rw [h]
  rfl
theorem anB_124 {p : Pg} {F : Nat → Nat → Bool → Nat → Nat → R4} {k s : Nat} {u : Bool} {P A : Nat} (h : p 0 k = 124) : anB p F k s u P A = r_par (if s = ST ∨ lv p (p 2 k) s = true then F (p 2 k) s u P A else r_cd 1) (if s = ST ∨ lv p (p 3 k) s = true then F (p 3 k) s u P A else r_cd 1) := by
  unfold anB
  rw [h]
  rfl
theorem anB_42 {p : Pg} {F : Nat → Nat → Bool → Nat → Nat → R4} {k s : Nat} {u : Bool} {P A : Nat} (h : p 0 k = 42) : anB p F k s u P A = (if s = ST then F (p 2 k) s u P A else r_flw (F (p 2 k) s u P A) (F (p 2 k) ST (u && me (F (p 2 k) s u P A)) P A)) := by
  unfold anB
  rw [h]
  rfl
theorem anB_94 {p : Pg} {F : Nat → Nat → Bool → Nat → Nat → R4} {k s : Nat} {u : Bool} {P A : Nat} (h : p 0 k = 94) : anB p F k s u P A = r_trap (F (p 2 k) s u P A) := by
  unfold anB
  rw [h]
  rfl
theorem anB_64 {p : Pg} {F : Nat → Nat → Bool → Nat → Nat → R4} {k s : Nat} {u : Bool} {P A : Nat} (h : p 0 k = 64) : anB p F k s u P A = (if s = ST ∨ A.testBit (p 1 k - 1) = true then F (p 2 k) s u P A else if P.testBit (p 1 k - 1) = true then r_cd 1 else r_abt (F (p 2 k) s false P A)) := by
  unfold anB
  rw [h]
  rfl
theorem anB_126 {p : Pg} {F : Nat → Nat → Bool → Nat → Nat → R4} {k s : Nat} {u : Bool} {P A : Nat} (h : p 0 k = 126) : anB p F k s u P A = (if s = ST ∨ A.testBit (p 1 k - 1) = true then F (p 2 k) s u P A else if P.testBit (p 1 k - 1) = true then r_weakP (F (p 2 k) s u P A) else r_weakU (F (p 2 k) s u P A)) := by
  unfold anB
  rw [h]
  rfl
theorem anB_36 {p : Pg} {F : Nat → Nat → Bool → Nat → Nat → R4} {k s : Nat} {u : Bool} {P A : Nat} (h : p 0 k = 36) : anB p F k s u P A = r_hide (if u = true ∧ (F (p 2 k) s u (cl P (p 1 k - 1)) (cl A (p 1 k - 1))).1.testBit (p 1 k - 1) = true then F (p 2 k) s true (cl P (p 1 k - 1) ||| 2 ^ (p 1 k - 1)) (cl A (p 1 k - 1)) else if (F (p 2 k) s u (cl P (p 1 k - 1)) (cl A (p 1 k - 1))).2.1.testBit (p 1 k - 1) = false then F (p 2 k) s u (cl P (p 1 k - 1)) (cl A (p 1 k - 1) ||| 2 ^ (p 1 k - 1)) else F (p 2 k) s u (cl P (p 1 k - 1)) (cl A (p 1 k - 1))) (p 1 k - 1) := by
  unfold anB
  rw [h]
  rfl
theorem anB_z {p : Pg} {F : Nat → Nat → Bool → Nat → Nat → R4} {k s : Nat} {u : Bool} {P A : Nat} (h46 : ¬ p 0 k = 46) (h33 : ¬ p 0 k = 33) (h120 : ¬ p 0 k = 120) (h38 : ¬ p 0 k = 38) (h63 : ¬ p 0 k = 63) (h59 : ¬ p 0 k = 59) (h124 : ¬ p 0 k = 124) (h42 : ¬ p 0 k = 42) (h94 : ¬ p 0 k = 94) (h64 : ¬ p 0 k = 64) (h126 : ¬ p 0 k = 126) (h36 : ¬ p 0 k = 36) : anB p F k s u P A = r_cd 1 := by
  unfold anB
  rw [if_neg h46, if_neg h33, if_neg h120, if_neg h38, if_neg h63, if_neg h59, if_neg h124, if_neg h42, if_neg h94, if_neg h64, if_neg h126, if_neg h36]
/-- the numbers of a program are in their bounds -/
def PW (p : Pg) (n : Nat) : Prop := n ≤ 60 ∧ ∀ i, i < n → p 0 i < 256 ∧ p 1 i ≤ 8 ∧ p 2 i ≤ n ∧ p 3 i ≤ n ∧ p 4 i < 1048576 ∧ (p 0 i = 33 ∨ p 0 i = 38 ∨ p 0 i = 63 ∨ p 0 i = 64 ∨ p 0 i = 126 ∨ p 0 i = 36 → 1 ≤ p 1 i) ∧ (p 0 i = 120 → 1 ≤ p 1 i ∧ p 1 i ≤ 5)
def ok4 (r : R4) : Prop := r.1 < 256 ∧ r.2.1 < 256 ∧ r.2.2.1 < 128 ∧ r.2.2.2 < 128
/-- how the class packs a result, and the reference -/
def eC (r : R4) : Nat := (r.1 + 256 * r.2.2.1) + 32768 * (r.2.1 + 256 * r.2.2.2)
def eM (r : R4) : Nat := r.1 + 256 * r.2.1 + 65536 * r.2.2.1 + 8388608 * r.2.2.2
def oI (x : Nat) : Int32 := nI x - 1
theorem oI_0 : oI 0 = -1 := by decide
theorem oI_s (k : Nat) : oI (k + 1) = nI k := nI_pred k
/-- the tree at the cell t is the program p of n statements -/
def TR (σ : am_M) (t : Nat) (p : Pg) (n : Nat) : Prop := (t = 45 ∨ t = 54 ∨ t = 63) ∧ σ.1 t 8 = nI n ∧ ∀ i, i < n → σ.1 (t + 1) i = nI (p 0 i) ∧ σ.1 (t + 2) i = oI (p 1 i) ∧ σ.1 (t + 4) i = oI (p 2 i) ∧ σ.1 (t + 5) i = oI (p 3 i) ∧ σ.1 (t + 8) i = nI (p 4 i)
/-! bounds -/
theorem pow_lt_256 {g : Nat} (h : g < 8) : 2 ^ g < 256 := by
  have : 2 ^ g ≤ 2 ^ 7 := Nat.pow_le_pow_right (by decide) (by omega)
  omega
theorem or_lt8 {a b : Nat} (ha : a < 256) (hb : b < 256) : a ||| b < 256 := Nat.or_lt_two_pow (n := 8) ha hb
theorem or_lt7 {a b : Nat} (ha : a < 128) (hb : b < 128) : a ||| b < 128 := Nat.or_lt_two_pow (n := 7) ha hb
theorem mx_lt {a b : Nat} (ha : a < 128) (hb : b < 128) : mx a b < 128 := by
  unfold mx
  split
  · decide
  · exact Nat.lt_of_le_of_lt (Nat.div_mul_le_self _ _) (or_lt7 ha hb)
theorem ct_lt {a : Nat} (ha : a < 128) : ct a < 128 := (by decide +kernel : ∀ a, a < 128 → ct a < 128) a ha
theorem en_lt {a : Nat} (ha : a < 128) : en a < 128 := (by decide +kernel : ∀ a, a < 128 → en a < 128) a ha
theorem ok_cd {k : Nat} (h : k < 128) : ok4 (r_cd k) := ⟨by show 0 < 256; decide, by show 0 < 256; decide, h, h⟩
theorem ok_flw {b a : R4} (hb : ok4 b) (ha : ok4 a) : ok4 (r_flw b a) := by
  unfold r_flw
  split
  · exact hb
  · split
    · exact ⟨or_lt8 hb.1 ha.1, or_lt8 hb.2.1 ha.2.1, or_lt7 (cl_lt hb.2.2.1) ha.2.2.1, or_lt7 (cl_lt hb.2.2.2) ha.2.2.2⟩
    · exact ⟨hb.1, or_lt8 hb.2.1 ha.2.1, hb.2.2.1, or_lt7 (cl_lt hb.2.2.2) ha.2.2.2⟩
theorem ok_0 : 0 < 256 := by decide
theorem anB_ok {p : Pg} {n : Nat} (h : PW p n) {F : Nat → Nat → Bool → Nat → Nat → R4} (ih : ∀ x s u P A, x ≤ n → ok4 (F x s u P A)) {k s : Nat} {u : Bool} {P A : Nat} (hk : k < n) : ok4 (anB p F k s u P A) := by
  obtain ⟨h0, h1, h2, h3, h4, h5, h6⟩ := h.2 k hk
  have hh : ∀ r : R4, ok4 r → ok4 (r_hide r (p 1 k - 1)) := fun r a => ⟨cl_lt a.1, cl_lt a.2.1, a.2.2.1, a.2.2.2⟩
  by_cases t1 : p 0 k = 46
  · rw [anB_46 t1]; split <;> exact ok_cd (by decide)
  by_cases t2 : p 0 k = 33
  · rw [anB_33 t2]; exact ⟨pow_lt_256 (by omega), pow_lt_256 (by omega), by show 1 < 128; decide, by show 1 < 128; decide⟩
  by_cases t3 : p 0 k = 120
  · rw [anB_120 t3]
    have : 2 ^ (p 1 k - 1) ≤ 2 ^ 4 := Nat.pow_le_pow_right (by decide) (by have := h6 t3; omega)
    exact ok_cd (by omega)
  by_cases t4 : p 0 k = 38
  · rw [anB_38 t4]
    split
    · exact ok_cd (by decide)
    · split
      · exact ok_cd (by decide)
      · exact ⟨ok_0, ok_0, by show 0 < 128; decide, by show 3 < 128; decide⟩
  by_cases t5 : p 0 k = 63
  · rw [anB_63 t5]
    split
    · split
      · exact ih _ _ _ _ _ h2
      · split
        · exact ih _ _ _ _ _ h3
        · exact ⟨ok_0, or_lt8 (ih _ _ _ _ _ h2).2.1 (ih _ _ _ _ _ h3).2.1, by show 0 < 128; decide, or_lt7 (ih _ _ _ _ _ h2).2.2.2 (ih _ _ _ _ _ h3).2.2.2⟩
    · split
      · exact ih _ _ _ _ _ h2
      · exact ih _ _ _ _ _ h3
  by_cases t6 : p 0 k = 59
  · rw [anB_59 t6]
    split
    · exact ih _ _ _ _ _ h3
    · exact ok_flw (ih _ _ _ _ _ h2) (ih _ _ _ _ _ h3)
  by_cases t7 : p 0 k = 124
  · rw [anB_124 t7]
    have a1 : ok4 (if s = ST ∨ lv p (p 2 k) s = true then F (p 2 k) s u P A else r_cd 1) := by
      split
      · exact ih _ _ _ _ _ h2
      · exact ok_cd (by decide)
    have a2 : ok4 (if s = ST ∨ lv p (p 3 k) s = true then F (p 3 k) s u P A else r_cd 1) := by
      split
      · exact ih _ _ _ _ _ h3
      · exact ok_cd (by decide)
    exact ⟨or_lt8 a1.1 a2.1, or_lt8 a1.2.1 a2.2.1, mx_lt a1.2.2.1 a2.2.2.1, mx_lt a1.2.2.2 a2.2.2.2⟩
  by_cases t8 : p 0 k = 42
  · rw [anB_42 t8]
    split
    · exact ih _ _ _ _ _ h2
    · exact ok_flw (ih _ _ _ _ _ h2) (ih _ _ _ _ _ h2)
  by_cases t9 : p 0 k = 94
  · rw [anB_94 t9]
    have a1 := ih (p 2 k) s u P A h2
    exact ⟨a1.1, a1.2.1, ct_lt a1.2.2.1, ct_lt a1.2.2.2⟩
  by_cases t10 : p 0 k = 64
  · rw [anB_64 t10]
    split
    · exact ih _ _ _ _ _ h2
    · split
      · exact ok_cd (by decide)
      · exact ⟨ok_0, (ih _ _ _ _ _ h2).2.1, by show 0 < 128; decide, or_lt7 (ih _ _ _ _ _ h2).2.2.2 (by decide)⟩
  by_cases t11 : p 0 k = 126
  · rw [anB_126 t11]
    have a1 := ih (p 2 k) s u P A h2
    split
    · exact a1
    · split
      · exact ⟨a1.1, a1.2.1, cl_lt (en_lt a1.2.2.1), cl_lt (en_lt a1.2.2.2)⟩
      · exact ⟨a1.1, a1.2.1, cl_lt a1.2.2.1, en_lt a1.2.2.2⟩
  by_cases t12 : p 0 k = 36
  · rw [anB_36 t12]
    refine hh _ ?_
    split
    · exact ih _ _ _ _ _ h2
    · split
      · exact ih _ _ _ _ _ h2
      · exact ih _ _ _ _ _ h2
  rw [anB_z t1 t2 t3 t4 t5 t6 t7 t8 t9 t10 t11 t12]
  exact ok_cd (by decide)
theorem an_ok {p : Pg} {n : Nat} (h : PW p n) : ∀ (f x s : Nat) (u : Bool) (P A : Nat), x ≤ n → ok4 (an p f x s u P A)
  | 0, _, _, _, _, _, _ => ok_cd (by decide)
  | _ + 1, 0, _, _, _, _, _ => ok_cd (by decide)
  | f + 1, _ + 1, _, _, _, _, hx => anB_ok h (an_ok h f) (by omega)

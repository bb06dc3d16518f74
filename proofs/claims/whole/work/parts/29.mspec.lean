/-! the reference's memory: how signals are where a statement stands -/
def sts (E : Nat × Nat) (g : Nat) : Nat := if E.1.testBit g = true then 1 else if E.2.testBit g = true then 2 else 0
def up3 (E : Nat × Nat) (g h : Nat) : Nat × Nat := if h = 1 then (cl E.1 g ||| 2 ^ g, cl E.2 g) else if h = 2 then (cl E.1 g, cl E.2 g ||| 2 ^ g) else (cl E.1 g, cl E.2 g)
/-- the signals' states behind the first a local signals around, as the digits of w say -/
def evn (ow : Nat → Nat) (w P A : Nat) : Nat → Nat × Nat
  | 0 => (P, A)
  | a + 1 => up3 (evn ow w P A a) (ow a) (w / 3 ^ a % 3)
theorem sts_lt (E : Nat × Nat) (g : Nat) : sts E g < 3 := by
  unfold sts
  split
  · decide
  · split <;> decide
theorem sts_up {E : Nat × Nat} {g h : Nat} (hh : h < 3) (i : Nat) : sts (up3 E g h) i = if g = i then h else sts E i := by
  unfold sts up3
  by_cases e : g = i
  · subst e
    rw [if_pos rfl]
    rcases (show h = 0 ∨ h = 1 ∨ h = 2 by omega) with rfl | rfl | rfl
    · simp [cl_no]
    · simp [st_bit]
    · simp [cl_no, st_bit]
  · rw [if_neg e]
    rcases (show h = 0 ∨ h = 1 ∨ h = 2 by omega) with rfl | rfl | rfl
    · simp [cl_other e]
    · simp [cl_other e, st_bit, e]
    · simp [cl_other e, st_bit, e]
theorem up3_dj {E : Nat × Nat} (h : dj E.1 E.2) (g k : Nat) : dj (up3 E g k).1 (up3 E g k).2 := by
  unfold up3
  split
  · exact dj_p h g
  · split
    · exact dj_a h g
    · exact dj_cl h g
theorem up3_lt {E : Nat × Nat} (h : E.1 < 256 ∧ E.2 < 256) {g : Nat} (hg : g < 8) (k : Nat) : (up3 E g k).1 < 256 ∧ (up3 E g k).2 < 256 := by
  unfold up3
  split
  · exact ⟨or_lt8 (cl_lt h.1) (pow_lt_256 hg), cl_lt h.2⟩
  · split
    · exact ⟨cl_lt h.1, or_lt8 (cl_lt h.2) (pow_lt_256 hg)⟩
    · exact ⟨cl_lt h.1, cl_lt h.2⟩
theorem evn_dj {ow : Nat → Nat} {w P A : Nat} (h : dj P A) : ∀ a, dj (evn ow w P A a).1 (evn ow w P A a).2
  | 0 => h
  | a + 1 => up3_dj (evn_dj h a) _ _
theorem evn_lt {ow : Nat → Nat} {w P A : Nat} (hP : P < 256) (hA : A < 256) : ∀ a, (∀ b, b < a → ow b < 8) → (evn ow w P A a).1 < 256 ∧ (evn ow w P A a).2 < 256
  | 0, _ => ⟨hP, hA⟩
  | a + 1, ho => up3_lt (evn_lt hP hA a (fun b hb => ho b (by omega))) (ho a (by omega)) _
theorem evn_ext {ow ow' : Nat → Nat} {w w' P A : Nat} : ∀ a, (∀ b, b < a → ow b = ow' b ∧ w / 3 ^ b % 3 = w' / 3 ^ b % 3) → evn ow w P A a = evn ow' w' P A a
  | 0, _ => rfl
  | a + 1, h => by
    unfold evn
    rw [evn_ext a (fun b hb => h b (by omega)), (h a (by omega)).1, (h a (by omega)).2]
theorem sts_1 {E : Nat × Nat} {g : Nat} : sts E g = 1 ↔ E.1.testBit g = true := by
  unfold sts
  by_cases h : E.1.testBit g = true
  · rw [if_pos h]; simp [h]
  · rw [if_neg h]
    simp only [h, iff_false]
    split <;> decide
theorem sts_2 {E : Nat × Nat} (hd : dj E.1 E.2) {g : Nat} : sts E g = 2 ↔ E.2.testBit g = true := by
  unfold sts
  by_cases h : E.1.testBit g = true
  · rw [if_pos h]
    have : ¬ E.2.testBit g = true := fun q => hd g ⟨h, q⟩
    simp [this]
  · rw [if_neg h]
    by_cases h2 : E.2.testBit g = true
    · rw [if_pos h2]; simp [h2]
    · rw [if_neg h2]; simp [h2]
/-- a statement of the program in the slot j -/
def MN (σ : am_M) (j : Nat) (p : Pg) (dp : Nat → Nat) (ow : Nat → Nat → Nat) (i : Nat) : Prop := σ.1 5 (60 * j + i) = nI (p 0 i) ∧ σ.1 6 (60 * j + i) = oI (p 1 i) ∧ σ.1 7 (60 * j + i) = oI (p 2 i) ∧ σ.1 8 (60 * j + i) = oI (p 3 i) ∧ σ.1 13 (60 * j + i) = nI (p 4 i) ∧ σ.1 10 (60 * j + i) = nI (dp i) ∧ ∀ a, a < dp i → σ.1 11 (3 * (60 * j + i) + a) = nI (ow i a)
/-- slot, state, signals, the place of nothing -/
def MS (σ : am_M) (j s P A : Nat) : Prop := σ.1 0 38 = nI j ∧ σ.1 0 39 = nI s ∧ (∀ g, g < 8 → σ.1 29 g = nI (sts (P, A) g)) ∧ σ.1 28 6480 = nI (eM (r_cd 1))
def MB (σ : am_M) (j s P A : Nat) (p : Pg) (n : Nat) (dp : Nat → Nat) (ow : Nat → Nat → Nat) : Prop := j ≤ 2 ∧ MS σ j s P A ∧ PW p n ∧ s ≤ 1048576 ∧ (∀ i, i < n → MN σ j p dp ow i ∧ dp i ≤ 3 ∧ ∀ a, a < dp i → ow i a < 8) ∧ dj P A ∧ P < 256 ∧ A < 256
/-- what the table has of x (a statement + 1) -/
def KD (σ : am_M) (p : Pg) (x w m S : Nat) (u : Bool) (E : Nat × Nat) : Prop := x = 0 ∨ σ.1 28 (((x - 1) * 27 + w) * 4 + m) = nI (eM (an p 61 x S u E.1 E.2))
/-- how a local signal is, as far as its block tells -/
def lst (b : R4) (u : Bool) (g : Nat) : Nat := if u = true ∧ b.1.testBit g = true then 1 else if b.2.1.testBit g = false then 2 else 0
theorem lst_lt (b : R4) (u : Bool) (g : Nat) : lst b u g < 3 := by
  unfold lst
  split
  · decide
  · split <;> decide
theorem lv_ST {p : Pg} {n x : Nat} (h : PW p n) (hx : x ≤ n) : lv p x 1048576 = false := by
  unfold lv
  cases x with
  | zero => rfl
  | succ k =>
    have h4 := (h.2 k (by omega)).2.2.2.2.1
    have : p 4 k &&& 1048576 = 0 := by
      rw [show (1048576 : Nat) = 2 ^ 20 from rfl, nx_bit0]
      exact Nat.testBit_lt_two_pow h4
    simp [this]
theorem nx_m2 : Int32.ofInt (-2) = nI (2 ^ 0) ^^^ -1 := by decide +kernel
theorem nx_m3 : Int32.ofInt (-3) = nI (2 ^ 1) ^^^ -1 := by decide +kernel
theorem nx_cl0 (a : Nat) : nI a &&& Int32.ofInt (-2) = nI (cl a 0) := by rw [nx_m2, nx_cl]
theorem nx_cl1 (a : Nat) : nI a &&& Int32.ofInt (-3) = nI (cl a 1) := by rw [nx_m3, nx_cl]
theorem nx_b1 {a : Nat} (h : a < 2 ^ 31) : (nI a >>> (nI 1 &&& 31)) &&& nI 1 = nI (a / 2 % 2) := by
  rw [nx_shr h (by decide), show nI 1 = nI (2 - 1) from rfl, nx_mask (k := 1) _ rfl]
theorem tb_lt (a : Nat) : a / 2 % 2 < 128 := by omega
theorem wkP : ∀ k, k < 128 → cl k 1 ||| k / 2 % 2 = cl (en k) 1 := by decide +kernel
theorem wkU : ∀ k, k < 128 → k ||| k / 2 % 2 = en k := by decide +kernel

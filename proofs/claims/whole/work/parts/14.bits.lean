/-! numbers under the int operations -/
theorem nx_and (a b : Nat) : nI a &&& nI b = nI (a &&& b) := by
  apply Int32.toBitVec_inj.1
  show BitVec.ofNat 32 a &&& BitVec.ofNat 32 b = BitVec.ofNat 32 (a &&& b)
  apply BitVec.eq_of_getLsbD_eq
  intro i hi
  simp [hi]
theorem nx_or (a b : Nat) : nI a ||| nI b = nI (a ||| b) := by
  apply Int32.toBitVec_inj.1
  show BitVec.ofNat 32 a ||| BitVec.ofNat 32 b = BitVec.ofNat 32 (a ||| b)
  apply BitVec.eq_of_getLsbD_eq
  intro i hi
  simp [hi]
theorem nx_xor (a b : Nat) : nI a ^^^ nI b = nI (a ^^^ b) := by
  apply Int32.toBitVec_inj.1
  show BitVec.ofNat 32 a ^^^ BitVec.ofNat 32 b = BitVec.ofNat 32 (a ^^^ b)
  apply BitVec.eq_of_getLsbD_eq
  intro i hi
  simp [hi]
theorem nx_sl : ∀ n, n < 32 → ((nI n &&& 31).toBitVec.smod 32).toNat = n := by decide +kernel
theorem nx_shl (a : Nat) {k : Nat} (hk : k < 32) : nI a <<< (nI k &&& 31) = nI (a * 2 ^ k) := by
  apply Int32.toBitVec_inj.1
  rw [Int32.toBitVec_shiftLeft]
  show (BitVec.ofNat 32 a <<< ((nI k &&& 31).toBitVec.smod 32).toNat) = BitVec.ofNat 32 (a * 2 ^ k)
  rw [nx_sl k hk]
  apply BitVec.eq_of_toNat_eq
  rw [BitVec.toNat_shiftLeft, BitVec.toNat_ofNat, BitVec.toNat_ofNat, Nat.shiftLeft_eq, Nat.mod_mul_mod]
theorem nx_shr {a k : Nat} (ha : a < 2 ^ 31) (hk : k < 32) : nI a >>> (nI k &&& 31) = nI (a / 2 ^ k) := by
  apply Int32.toBitVec_inj.1
  rw [Int32.toBitVec_shiftRight]
  show ((BitVec.ofNat 32 a).sshiftRight ((nI k &&& 31).toBitVec.smod 32).toNat) = BitVec.ofNat 32 (a / 2 ^ k)
  rw [nx_sl k hk]
  have hm : (BitVec.ofNat 32 a).msb = false := by
    rw [BitVec.msb_eq_false_iff_two_mul_lt, BitVec.toNat_ofNat]
    omega
  rw [BitVec.sshiftRight_eq_of_msb_false hm]
  apply BitVec.eq_of_toNat_eq
  rw [BitVec.toNat_ushiftRight, BitVec.toNat_ofNat, BitVec.toNat_ofNat, Nat.shiftRight_eq_div_pow]
  have h1 : a % 2 ^ 32 = a := Nat.mod_eq_of_lt (by omega)
  have h2 : a / 2 ^ k ≤ a := Nat.div_le_self _ _
  rw [h1, Nat.mod_eq_of_lt (by omega)]
theorem nx_mask {k : Nat} (a : Nat) {p : Nat} (hp : 2 ^ k = p) : nI a &&& nI (p - 1) = nI (a % p) := by
  subst hp
  rw [nx_and, Nat.and_two_pow_sub_one_eq_mod]
/-- the low k bits beside what stands above them -/
theorem nx_orAdd {k : Nat} {a b : Nat} (p : Nat) (hp : 2 ^ k = p) (h : a < p) : a ||| p * b = a + p * b := by
  subst hp
  rw [Nat.or_comm, ← Nat.two_pow_add_eq_or_of_lt h, Nat.add_comm]
theorem nx_not {a b : Nat} : nI a &&& (nI b ^^^ -1) = nI (a &&& (a ^^^ (a &&& b))) := by
  rw [← nx_and, ← nx_xor, ← nx_and]
  apply Int32.toBitVec_inj.1
  simp only [Int32.toBitVec_and, Int32.toBitVec_xor]
  apply BitVec.eq_of_getLsbD_eq
  intro i hi
  have hm : ((-1 : Int32).toBitVec).getLsbD i = true := (by decide +kernel : ∀ i, i < 32 → ((-1 : Int32).toBitVec).getLsbD i = true) i hi
  simp only [BitVec.getLsbD_and, BitVec.getLsbD_xor, hm]
  cases (nI a).toBitVec.getLsbD i <;> cases (nI b).toBitVec.getLsbD i <;> rfl
/-- a set without a bit -/
def cl (x s : Nat) : Nat := x &&& (x ^^^ (x &&& 2 ^ s))
theorem cl_bit (x s i : Nat) : (cl x s).testBit i = (x.testBit i && !decide (s = i)) := by
  unfold cl
  simp only [Nat.testBit_and, Nat.testBit_xor, Nat.testBit_two_pow]
  cases x.testBit i <;> cases decide (s = i) <;> rfl
theorem cl_le (x s : Nat) : cl x s ≤ x := Nat.and_le_left
theorem cl_lt {x s n : Nat} (h : x < n) : cl x s < n := Nat.lt_of_le_of_lt (cl_le x s) h
theorem nx_cl {a : Nat} {s : Nat} : nI a &&& (nI (2 ^ s) ^^^ -1) = nI (cl a s) := nx_not
theorem nx_bit0 {a s : Nat} : (a &&& 2 ^ s = 0) ↔ a.testBit s = false := by
  constructor
  · intro h
    have := congrArg (fun x => Nat.testBit x s) h
    simpa [Nat.testBit_two_pow_self] using this
  · intro h
    apply Nat.eq_of_testBit_eq
    intro i
    rw [Nat.testBit_and, Nat.testBit_two_pow, Nat.zero_testBit]
    by_cases q : s = i
    · subst q; rw [h]; rfl
    · simp [q]
theorem nx_has {a s : Nat} (ha : a < 2 ^ 31) (hs : s < 31) : nI a &&& nI (2 ^ s) = 0 ↔ a.testBit s = false := by
  rw [nx_and, am_n0 (Nat.lt_of_le_of_lt Nat.and_le_left ha), nx_bit0]
/-- bits of a number by halves -/
theorem nx_tb (a s : Nat) : a.testBit s = (a / 2 ^ s % 2 == 1) := by
  rw [Nat.testBit_eq_decide_div_mod_eq]
  by_cases h : a / 2 ^ s % 2 = 1 <;> simp [h]
theorem nx_hasM {a s : Nat} (ha : a < 2 ^ 31) (hs : s < 32) : (nI a >>> (nI s &&& 31)) &&& nI 1 = nI 1 ↔ a.testBit s = true := by
  rw [nx_shr ha hs, show nI 1 = nI (2 - 1) from rfl, nx_mask (k := 1) _ rfl, Nat.testBit_eq_decide_div_mod_eq, decide_eq_true_eq]
  exact nI_eq (by omega) (by decide)
theorem am_rd1 (σ : am_M) (c k : Nat) (x : Int32) (c' k' : Nat) : (am_wr σ c k x).1 c' k' = if c' = c ∧ k' = k then x else σ.1 c' k' := by
  unfold am_wr am_up upd
  by_cases h : c' = c
  · subst h
    by_cases h2 : k' = k <;> simp [h2]
  · simp [h]
theorem am_rd2 (σ : am_M) (c k : Nat) (x : Int32) : (am_wr σ c k x).2 = σ.2 := rfl

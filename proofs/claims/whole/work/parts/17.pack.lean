/-! packed sets: 8 bits of signals, codes above -/
theorem pq_bit {m k i : Nat} (hm : m < 256) : (m + 256 * k).testBit i = if i < 8 then m.testBit i else k.testBit (i - 8) := by
  rw [Nat.add_comm, show (256 : Nat) = 2 ^ 8 from rfl]
  exact Nat.testBit_two_pow_mul_add k (show m < 2 ^ 8 from hm) i
theorem pq_ext {x m k : Nat} (hm : m < 256) (h : ∀ i, x.testBit i = if i < 8 then m.testBit i else k.testBit (i - 8)) : x = m + 256 * k :=
  Nat.eq_of_testBit_eq fun i => by rw [pq_bit hm]; exact h i
theorem pq_or {a b c d : Nat} (ha : a < 256) (hc : c < 256) : (a + 256 * b) ||| (c + 256 * d) = (a ||| c) + 256 * (b ||| d) :=
  pq_ext (or_lt8 ha hc) fun i => by
    rw [Nat.testBit_or, pq_bit ha, pq_bit hc]
    split <;> rw [Nat.testBit_or]
theorem pq_and {a b c d : Nat} (ha : a < 256) (hc : c < 256) : (a + 256 * b) &&& (c + 256 * d) = (a &&& c) + 256 * (b &&& d) :=
  pq_ext (Nat.lt_of_le_of_lt Nat.and_le_left ha) fun i => by
    rw [Nat.testBit_and, pq_bit ha, pq_bit hc]
    split <;> rw [Nat.testBit_and]
theorem pq_clS {m k g : Nat} (hm : m < 256) (hg : g < 8) : cl (m + 256 * k) g = cl m g + 256 * k :=
  pq_ext (cl_lt hm) fun i => by
    rw [cl_bit, pq_bit hm]
    split
    · rw [cl_bit]
    · rw [decide_eq_false (by omega)]; simp
theorem pq_clC {m k g : Nat} (hm : m < 256) : cl (m + 256 * k) (8 + g) = m + 256 * cl k g :=
  pq_ext hm fun i => by
    rw [cl_bit, pq_bit hm]
    split
    · rw [decide_eq_false (by omega)]; simp
    · rw [cl_bit]
      congr 2
      by_cases h : 8 + g = i
      · rw [decide_eq_true h, decide_eq_true (by omega)]
      · rw [decide_eq_false h, decide_eq_false (by omega)]
theorem pq_hasS {m k g : Nat} (hm : m < 256) (hk : k < 8388608) (hg : g < 8) : nI (m + 256 * k) &&& nI (2 ^ g) = 0 ↔ m.testBit g = false := by
  rw [nx_has (by omega) (by omega), pq_bit hm, if_pos hg]
theorem pq_hasC {m k g : Nat} (hm : m < 256) (hk : k < 8388608) (hg : g < 20) : nI (m + 256 * k) &&& nI (2 ^ (8 + g)) = 0 ↔ k.testBit g = false := by
  rw [nx_has (by omega) (by omega), pq_bit hm, if_neg (by omega), show 8 + g - 8 = g by omega]
theorem pq_must {a b : Nat} (ha : a < 32768) : nI (a + 32768 * b) &&& nI 32767 = nI a := by
  rw [show nI 32767 = nI (32768 - 1) from rfl, nx_mask (k := 15) _ rfl]
  congr 1
  omega
theorem pq_can {a b : Nat} (ha : a < 32768) (hb : b < 32768) : (nI (a + 32768 * b) >>> (nI 15 &&& 31)) &&& nI 32767 = nI b := by
  rw [nx_shr (by omega) (by decide), show nI 32767 = nI (32768 - 1) from rfl, nx_mask (k := 15) _ rfl]
  congr 1
  omega
theorem pq_res {a : Nat} (b : Nat) (ha : a < 32768) : nI a ||| (nI b <<< (nI 15 &&& 31)) = nI (a + 32768 * b) := by
  rw [nx_shl _ (by decide), nx_or, Nat.mul_comm, show (2 : Nat) ^ 15 = 32768 from rfl, nx_orAdd (k := 15) 32768 rfl ha]
theorem pq_kn {a : Nat} (b : Nat) (ha : a < 256) : nI a ||| (nI b <<< (nI 8 &&& 31)) = nI (a + 256 * b) := by
  rw [nx_shl _ (by decide), nx_or, Nat.mul_comm, show (2 : Nat) ^ 8 = 256 from rfl, nx_orAdd (k := 8) 256 rfl ha]
theorem pq_hi {a b : Nat} (ha : a < 256) (hb : b < 8388608) : nI (a + 256 * b) >>> (nI 8 &&& 31) = nI b := by
  rw [nx_shr (by omega) (by decide)]
  congr 1
  omega
theorem pq_lo {a b : Nat} (ha : a < 256) : nI (a + 256 * b) &&& nI 255 = nI a := by
  rw [show nI 255 = nI (256 - 1) from rfl, nx_mask (k := 8) _ rfl]
  congr 1
  omega
theorem pq_codes {m k : Nat} (hm : m < 256) (hk : k < 128) : nI (m + 256 * k) &&& nI 32512 = nI (256 * k) := by
  rw [nx_and, show (32512 : Nat) = 0 + 256 * 127 from rfl, pq_and hm (by decide), Nat.and_zero, Nat.zero_add, show (127 : Nat) = 2 ^ 7 - 1 from rfl, Nat.and_two_pow_sub_one_eq_mod, Nat.mod_eq_of_lt (show k < 2 ^ 7 from hk)]
theorem pq_low : ∀ k, k < 128 → nI (256 * k) &&& (-(nI (256 * k))) = nI (256 * lb k) := by decide +kernel
theorem lb_lt : ∀ k, k < 128 → lb k ≤ 64 ∧ (lb k = 0 ↔ k = 0) := by decide +kernel
theorem lb_pow : ∀ k, k < 128 → k ≠ 0 → ∃ t, t < 7 ∧ lb k = 2 ^ t := by decide +kernel
theorem nx_neg : ∀ t, t < 15 → -(nI (2 ^ t)) = nI (2 ^ 32 - 2 ^ t) := by decide +kernel
theorem nx_up {x t : Nat} (hx : x < 2 ^ 31) (ht : t < 15) : nI x &&& (-(nI (2 ^ t))) = nI (x / 2 ^ t * 2 ^ t) := by
  rw [nx_neg t ht, nx_and]
  congr 1
  apply Nat.eq_of_testBit_eq
  intro i
  have hp : 0 < 2 ^ t := Nat.two_pow_pos t
  have hle : 2 ^ t ≤ 2 ^ 14 := Nat.pow_le_pow_right (by decide) (by omega)
  rw [Nat.testBit_and, show 2 ^ 32 - 2 ^ t = 2 ^ 32 - (2 ^ t - 1 + 1) by omega, Nat.testBit_two_pow_sub_succ (by omega), Nat.testBit_two_pow_sub_one, Nat.testBit_mul_two_pow, Nat.testBit_div_two_pow]
  by_cases hi : i < 32
  · by_cases h : t ≤ i
    · simp [hi, h, Nat.not_lt.mpr h]
    · simp [hi, h, Nat.not_le.mp h]
  · have : x.testBit i = false := Nat.testBit_lt_two_pow (Nat.lt_of_lt_of_le hx (Nat.pow_le_pow_right (by decide) (by omega)))
    by_cases h : t ≤ i
    · simp [this, h]
    · simp [this, h]
theorem pq_max {a b : Nat} (ha : a < 2 ^ 31) (hb : b < 2 ^ 31) : am_mx true (nI a) (nI b) = nI (max a b) := by
  unfold am_mx
  simp only [if_true]
  by_cases h : a < b
  · rw [if_pos ((nI_ltI ha hb).mpr h), Nat.max_eq_right (Nat.le_of_lt h)]
  · rw [if_neg (fun q => h ((nI_ltI ha hb).mp q)), Nat.max_eq_left (Nat.not_lt.mp h)]
theorem pq_min {a b : Nat} (ha : a < 2 ^ 31) (hb : b < 2 ^ 31) : am_mx false (nI a) (nI b) = nI (min a b) := by
  unfold am_mx
  simp only [Bool.false_eq_true, if_false]
  by_cases h : b < a
  · rw [if_pos ((nI_ltI hb ha).mpr h), Nat.min_eq_right (Nat.le_of_lt h)]
  · rw [if_neg (fun q => h ((nI_ltI hb ha).mp q)), Nat.min_eq_left (Nat.not_lt.mp h)]
/-- what 'together' answers where both have a code -/
theorem pq_tog {m a b : Nat} (hm : m < 256) (ha : a < 128) (hb : b < 128) (ha0 : a ≠ 0) (hb0 : b ≠ 0) : (nI (m + 256 * (a ||| b)) &&& nI 255) ||| (nI (m + 256 * (a ||| b)) &&& (-(nI (256 * max (lb a) (lb b))))) = nI (m + 256 * mx a b) := by
  obtain ⟨t, ht, he⟩ : ∃ t, t < 7 ∧ max (lb a) (lb b) = 2 ^ t := by
    obtain ⟨t1, h1, e1⟩ := lb_pow a ha ha0
    obtain ⟨t2, h2, e2⟩ := lb_pow b hb hb0
    rw [e1, e2]
    rcases Nat.le_total (2 ^ t1) (2 ^ t2) with h | h
    · exact ⟨t2, h2, Nat.max_eq_right h⟩
    · exact ⟨t1, h1, Nat.max_eq_left h⟩
  have hab : a ||| b < 128 := or_lt7 ha hb
  unfold mx
  rw [if_neg (by omega), he, show 256 * 2 ^ t = 2 ^ (8 + t) by rw [Nat.pow_add], nx_up (by omega) (by omega), pq_lo hm, nx_or]
  congr 1
  have h1 : (m + 256 * (a ||| b)) / 2 ^ (8 + t) = (a ||| b) / 2 ^ t := by
    rw [Nat.pow_add, ← Nat.div_div_eq_div_mul]
    congr 1
    show (m + 256 * (a ||| b)) / 256 = a ||| b
    omega
  rw [h1, Nat.pow_add, show (2 : Nat) ^ 8 = 256 from rfl, ← Nat.mul_assoc, Nat.mul_right_comm, Nat.mul_comm _ 256, nx_orAdd (k := 8) 256 rfl hm]
theorem pq_trap {m k : Nat} (hm : m < 256) (hk : k < 128) : ((nI (m + 256 * k) &&& nI 1023) ||| nI (256 * (k / 4 % 2))) ||| ((nI (m + 256 * k) &&& Int32.ofInt (-2048)) >>> (nI 1 &&& 31)) = nI (m + 256 * ct k) := by
  have h1 : nI (m + 256 * k) &&& nI 1023 = nI (m + 256 * (k % 4)) := by
    rw [show nI 1023 = nI (1024 - 1) from rfl, nx_mask (k := 10) _ rfl]
    congr 1
    omega
  have h2 : nI (m + 256 * k) &&& Int32.ofInt (-2048) = nI (2048 * (k / 8)) := by
    rw [show Int32.ofInt (-2048) = -(nI (2 ^ 11)) by decide +kernel, nx_up (by omega) (by decide)]
    congr 1
    show (m + 256 * k) / 2048 * 2048 = _
    omega
  rw [h1, h2, nx_or, show 256 * (k / 4 % 2) = 0 + 256 * (k / 4 % 2) by omega, pq_or hm (by decide), Nat.or_zero, nx_shr (by omega) (by decide), nx_or]
  congr 1
  rw [show 2048 * (k / 8) / 2 ^ 1 = 0 + 256 * (k / 8 * 4) by omega, pq_or hm (by decide), Nat.or_zero]
  rfl
theorem nx_c9 : Int32.ofInt (-513) = nI (2 ^ (8 + 1)) ^^^ -1 := by decide +kernel
theorem nx_c8 : Int32.ofInt (-257) = nI (2 ^ (8 + 0)) ^^^ -1 := by decide +kernel
theorem pq_no1 {m k : Nat} (hm : m < 256) : nI (m + 256 * k) &&& Int32.ofInt (-513) = nI (m + 256 * cl k 1) := by rw [nx_c9, nx_cl, pq_clC hm]
theorem pq_no0 {m k : Nat} (hm : m < 256) : nI (m + 256 * k) &&& Int32.ofInt (-257) = nI (m + 256 * cl k 0) := by rw [nx_c8, nx_cl, pq_clC hm]
theorem pq_noS {m k g : Nat} (hm : m < 256) (hg : g < 8) : nI (m + 256 * k) &&& (nI (2 ^ g) ^^^ -1) = nI (cl m g + 256 * k) := by rw [nx_cl, pq_clS hm hg]
theorem pq_noK {m k g : Nat} (hm : m < 256) (hg : g < 8) : nI (m + 256 * k) &&& (nI (2 ^ g + 256 * 2 ^ g) ^^^ -1) = nI (cl m g + 256 * cl k g) := by
  rw [nx_not]
  congr 1
  rw [pq_and hm (pow_lt_256 hg)]
  refine pq_ext (cl_lt hm) fun i => ?_
  rw [Nat.testBit_and, Nat.testBit_xor, pq_bit hm, pq_bit (Nat.lt_of_le_of_lt Nat.and_le_left hm)]
  split
  · rw [cl_bit, Nat.testBit_and, Nat.testBit_two_pow]
    cases m.testBit i <;> cases decide (g = i) <;> rfl
  · rw [cl_bit, Nat.testBit_and, Nat.testBit_two_pow]
    cases k.testBit (i - 8) <;> cases decide (g = i - 8) <;> rfl

/-! rows for a receiver that isn't a number; what an instant leads to, in numbers -/
section Rows3
variable {d : Nat} {M : am_I} {Q : am_Q} {pc : Nat} {ls : am_L} {σ : am_M}
theorem am_getI {idx k p c : Nat} {r : List Value} (hi : am_lk (am_is M) pc = some (.getfield idx)) (hf : am_fld (am_w M) idx = some (k, p)) (hk : am_kind c = am_ci (am_w M)) (ht : am_ft (am_ci (am_w M)) k = 0) (t : am_G d M Q (pc + 3) ls (.int (σ.1 c k) :: r) σ) : am_G d M Q pc ls (.ref c :: r) σ := by
  refine am_T.fold (am_C_mon d) ⟨_, hi, pc + 3, ls, .int (σ.1 c k) :: r, σ, ?_, t⟩
  unfold am_s1
  simp only [hf, hk, if_true]
  unfold am_get
  rw [hk, ht]
  rfl
theorem am_putI {idx k p c : Nat} {x : Int32} {r : List Value} (hi : am_lk (am_is M) pc = some (.putfield idx)) (hf : am_fld (am_w M) idx = some (k, p)) (hk : am_kind c = am_ci (am_w M)) (ht : am_ft (am_ci (am_w M)) k = 0) (t : am_G d M Q (pc + 3) ls r (am_wr σ c k x)) : am_G d M Q pc ls (.int x :: .ref c :: r) σ := by
  refine am_T.fold (am_C_mon d) ⟨_, hi, pc + 3, ls, r, am_wr σ c k x, ?_, t⟩
  have hp : am_put σ c k (.int x) = some (am_wr σ c k x) := by
    unfold am_put
    rw [hk, ht]
    rfl
  unfold am_s1
  simp only [hf, hk, if_true, hp]
end Rows3
/-- a without b -/
def dn (a b : Nat) : Nat := a &&& (a ^^^ (a &&& b))
theorem dn_bit (a b i : Nat) : (dn a b).testBit i = (a.testBit i && !b.testBit i) := by
  unfold dn
  simp only [Nat.testBit_and, Nat.testBit_xor]
  cases a.testBit i <;> cases b.testBit i <;> rfl
theorem dn_le (a b : Nat) : dn a b ≤ a := Nat.and_le_left
theorem dn_lt {a b n : Nat} (h : a < n) : dn a b < n := Nat.lt_of_le_of_lt (dn_le a b) h
theorem nx_dn (a b : Nat) : nI a &&& (nI b ^^^ -1) = nI (dn a b) := nx_not
theorem bit_lt8 {a i : Nat} (h : a < 256) (hi : ¬ i < 8) : a.testBit i = false := Nat.testBit_lt_two_pow (Nat.lt_of_lt_of_le h (two_pow_ge8 hi))
theorem dn255 {c q : Nat} (hc : c < 256) : dn 255 (c + 256 * q) = dn 255 c := by
  apply Nat.eq_of_testBit_eq
  intro i
  rw [dn_bit, dn_bit, pq_bit hc]
  by_cases h : i < 8
  · rw [if_pos h]
  · rw [bit_lt8 (by decide) h]; rfl
/-- one round: what becomes present, what becomes absent -/
def rnd (p : Pg) (x s P A : Nat) : Nat × Nat := (P ||| (an p 61 x s true P A).1, A ||| dn (dn 255 (an p 61 x s true P A).2.1) (P ||| (an p 61 x s true P A).1))
/-- rounds until one changes nothing, at most so many: present, absent, how many -/
def stl (p : Pg) (x s : Nat) : Nat → Nat → Nat → Nat × Nat × Nat
  | 0, P, A => (P, A, 0)
  | j + 1, P, A => if rnd p x s P A = (P, A) then (P, A, 1) else ((stl p x s j (rnd p x s P A).1 (rnd p x s P A).2).1, (stl p x s j (rnd p x s P A).1 (rnd p x s P A).2).2.1, (stl p x s j (rnd p x s P A).1 (rnd p x s P A).2).2.2 + 1)
theorem rnd_lt {p : Pg} {n x s P A : Nat} (h : PW p n) (hx : x ≤ n) (hP : P < 256) (hA : A < 256) : (rnd p x s P A).1 < 256 ∧ (rnd p x s P A).2 < 256 :=
  ⟨or_lt8 hP (an_ok h 61 x s true P A hx).1, or_lt8 hA (dn_lt (dn_lt (by decide)))⟩
theorem stl_lt {p : Pg} {n x s : Nat} (h : PW p n) (hx : x ≤ n) : ∀ (j P A : Nat), P < 256 → A < 256 → (stl p x s j P A).1 < 256 ∧ (stl p x s j P A).2.1 < 256 ∧ (stl p x s j P A).2.2 ≤ j
  | 0, P, A, hP, hA => ⟨hP, hA, Nat.le_refl _⟩
  | j + 1, P, A, hP, hA => by
    unfold stl
    split
    · exact ⟨hP, hA, Nat.succ_le_succ (Nat.zero_le j)⟩
    · have h1 := rnd_lt (s := s) h hx hP hA
      have h2 := stl_lt (s := s) h hx j _ _ h1.1 h1.2
      exact ⟨h2.1, h2.2.1, Nat.succ_le_succ h2.2.2⟩
/-- what an instant leads to: known present, known absent, unsettled, code, next state, rounds -/
def oc (p : Pg) (x s u : Nat) : Nat × Nat × Nat × Nat × Nat × Nat :=
  if s = 0 then (u, 0, 0, 0, 0, 0)
  else if dn 255 ((stl p x s 9 u 0).1 ||| (stl p x s 9 u 0).2.1) = 0 then
    (match ex p 61 x s (stl p x s 9 u 0).1 with
    | none => ((stl p x s 9 u 0).1, (stl p x s 9 u 0).2.1, 256, 0, 0, (stl p x s 9 u 0).2.2)
    | some (c, q) => ((stl p x s 9 u 0).1, (stl p x s 9 u 0).2.1, 0, c, q, (stl p x s 9 u 0).2.2))
  else ((stl p x s 9 u 0).1, (stl p x s 9 u 0).2.1, dn 255 ((stl p x s 9 u 0).1 ||| (stl p x s 9 u 0).2.1), 0, 0, (stl p x s 9 u 0).2.2)
/-- all cells but o are as they were -/
def Kc (σ σ' : am_M) (o : Nat) : Prop := (∀ j, j ≠ o → σ'.1 j = σ.1 j) ∧ σ'.2 = σ.2
theorem Kc.rf (σ : am_M) (o : Nat) : Kc σ σ o := ⟨fun _ _ => rfl, rfl⟩
theorem Kc.wr {σ σ' : am_M} {o : Nat} (h : Kc σ σ' o) (k : Nat) (x : Int32) : Kc σ (am_wr σ' o k x) o := ⟨fun j hj => by rw [am_wr_ne x hj]; exact h.1 j hj, h.2⟩
theorem Kc.tr {σ σ' σ'' : am_M} {o : Nat} (h : Kc σ σ' o) (h' : Kc σ' σ'' o) : Kc σ σ'' o := ⟨fun j hj => (h'.1 j hj).trans (h.1 j hj), h'.2.trans h.2⟩
theorem TR.keep {σ σ' : am_M} {t n : Nat} {p : Pg} (h : TR σ t p n) (hk : ∀ j, 45 ≤ j → j ≤ 71 → σ'.1 j = σ.1 j) : TR σ' t p n := by
  obtain ⟨ht, h1, h2⟩ := h
  have hr : 45 ≤ t ∧ t + 8 ≤ 71 := by omega
  refine ⟨ht, by rw [hk t (by omega) (by omega)]; exact h1, fun i hi => ?_⟩
  rw [hk (t + 1) (by omega) (by omega), hk (t + 2) (by omega) (by omega), hk (t + 4) (by omega) (by omega), hk (t + 5) (by omega) (by omega), hk (t + 8) (by omega) (by omega)]
  exact h2 i hi
theorem Kc.TR {σ σ' : am_M} {o t n : Nat} {p : Pg} (h : Kc σ σ' o) (ho : o = 77 ∨ o = 78) (hR : TR σ t p n) : TR σ' t p n := hR.keep fun j h1 h2 => h.1 j (by omega)
theorem am_same (σ : am_M) (c k : Nat) (x : Int32) : (am_wr σ c k x).1 c k = x := by rw [am_rd1]; simp
theorem am_diff (σ : am_M) (c k k' : Nat) (x : Int32) (h : ¬ k' = k) : (am_wr σ c k x).1 c k' = σ.1 c k' := by rw [am_rd1]; simp [h]

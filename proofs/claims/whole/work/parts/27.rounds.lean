/-! the rounds: nothing is both present and absent; they end -/
/-- what is absent can't be emitted -/
def RI (p : Pg) (x s P A : Nat) : Prop := dj P A ∧ ∀ i, A.testBit i = true → (an p 61 x s true P A).2.1.testBit i = false
theorem bt (b : Bool) : b = true ∨ b = false := by cases b <;> simp
theorem rnd_sb (p : Pg) (x s P A : Nat) : sb P (rnd p x s P A).1 ∧ sb A (rnd p x s P A).2 := ⟨sb.l _ _, sb.l _ _⟩
theorem rnd_ri {p : Pg} {n x s P A : Nat} (h : PW p n) (hx : x ≤ n) (hr : RI p x s P A) : RI p x s (rnd p x s P A).1 (rnd p x s P A).2 := by
  have iv := an_inv h 61 x s true P A hx
  have hd : dj (rnd p x s P A).1 (rnd p x s P A).2 := by
    intro i ⟨q1, q2⟩
    unfold rnd at q1 q2
    simp only [Nat.testBit_or, dn_bit, Bool.or_eq_true, Bool.and_eq_true] at q1 q2
    rcases q2 with q2 | ⟨-, q2⟩
    · rcases q1 with q1 | q1
      · exact hr.1 i ⟨q1, q2⟩
      · have := iv.1 i q1
        rw [hr.2 i q2] at this
        cases this
    · rcases q1 with q1 | q1 <;> simp [q1] at q2
  refine ⟨hd, fun i q => ?_⟩
  have mo := an_mono h 61 x s true true P A _ _ hx id (rnd_sb p x s P A).1 (rnd_sb p x s P A).2 hd
  rcases bt ((an p 61 x s true (rnd p x s P A).1 (rnd p x s P A).2).2.1.testBit i) with e | e
  · have e2 := mo.2.1 i e
    unfold rnd at q
    simp only [Nat.testBit_or, dn_bit, Bool.or_eq_true, Bool.and_eq_true] at q
    rcases q with q | ⟨⟨-, q⟩, -⟩
    · rw [hr.2 i q] at e2; cases e2
    · rw [e2] at q; cases q
  · exact e
theorem ri_0 (p : Pg) (x s u : Nat) : RI p x s u 0 := by
  refine ⟨fun i q => ?_, fun i q => ?_⟩
  · have := q.2
    rw [Nat.zero_testBit] at this
    cases this
  · rw [Nat.zero_testBit] at q
    cases q
def op1 (P A i : Nat) : Nat := if P.testBit i = true ∨ A.testBit i = true then 0 else 1
/-- how many signals are open -/
def opn (P A : Nat) : Nat := op1 P A 0 + op1 P A 1 + op1 P A 2 + op1 P A 3 + op1 P A 4 + op1 P A 5 + op1 P A 6 + op1 P A 7
theorem op1_le (P A i : Nat) : op1 P A i ≤ 1 := by unfold op1; split <;> decide
theorem opn_le (P A : Nat) : opn P A ≤ 8 := by
  have := op1_le P A
  have h0 := this 0
  have h1 := this 1
  have h2 := this 2
  have h3 := this 3
  have h4 := this 4
  have h5 := this 5
  have h6 := this 6
  have h7 := this 7
  unfold opn
  omega
theorem op1_mono {P A P' A' : Nat} (h1 : sb P P') (h2 : sb A A') (i : Nat) : op1 P' A' i ≤ op1 P A i := by
  unfold op1
  by_cases q : P.testBit i = true ∨ A.testBit i = true
  · rw [if_pos q, if_pos (q.imp (h1 i) (h2 i))]; exact Nat.le_refl _
  · rw [if_neg q]; split <;> decide
theorem lt8_ext {a b : Nat} (ha : a < 256) (hb : b < 256) (h : ∀ i, i < 8 → a.testBit i = b.testBit i) : a = b := by
  apply Nat.eq_of_testBit_eq
  intro i
  by_cases hi : i < 8
  · exact h i hi
  · rw [bit_lt8 ha hi, bit_lt8 hb hi]
theorem opn_lt {P A P' A' : Nat} (hP : P < 256) (hA : A < 256) (hP' : P' < 256) (hA' : A' < 256) (h1 : sb P P') (h2 : sb A A') (hd : dj P' A') (hne : ¬ (P', A') = (P, A)) : opn P' A' < opn P A := by
  have hm := op1_mono h1 h2
  rcases Nat.lt_or_ge (opn P' A') (opn P A) with h | h
  · exact h
  · exfalso
    have heq : ∀ i, i < 8 → op1 P' A' i = op1 P A i := by
      have m0 := hm 0
      have m1 := hm 1
      have m2 := hm 2
      have m3 := hm 3
      have m4 := hm 4
      have m5 := hm 5
      have m6 := hm 6
      have m7 := hm 7
      unfold opn at h
      intro i hi
      match i, hi with
      | 0, _ => omega
      | 1, _ => omega
      | 2, _ => omega
      | 3, _ => omega
      | 4, _ => omega
      | 5, _ => omega
      | 6, _ => omega
      | 7, _ => omega
      | k + 8, hi => omega
    have same : ∀ i, i < 8 → (P'.testBit i = true → P.testBit i = true) ∧ (A'.testBit i = true → A.testBit i = true) := by
      intro i hi
      have e := heq i hi
      unfold op1 at e
      constructor
      · intro q
        rw [if_pos (Or.inl q)] at e
        by_cases z : P.testBit i = true ∨ A.testBit i = true
        · rcases z with z | z
          · exact z
          · exact absurd ⟨q, h2 i z⟩ (hd i)
        · rw [if_neg z] at e; cases e
      · intro q
        rw [if_pos (Or.inr q)] at e
        by_cases z : P.testBit i = true ∨ A.testBit i = true
        · rcases z with z | z
          · exact absurd ⟨h1 i z, q⟩ (hd i)
          · exact z
        · rw [if_neg z] at e; cases e
    apply hne
    have e1 : P' = P := lt8_ext hP' hP fun i hi => by
      rcases bt (P.testBit i) with q | q
      · rw [q, h1 i q]
      · rcases bt (P'.testBit i) with z | z
        · rw [(same i hi).1 z] at q; cases q
        · rw [q, z]
    have e2 : A' = A := lt8_ext hA' hA fun i hi => by
      rcases bt (A.testBit i) with q | q
      · rw [q, h2 i q]
      · rcases bt (A'.testBit i) with z | z
        · rw [(same i hi).2 z] at q; cases q
        · rw [q, z]
    rw [e1, e2]
theorem stl_any {p : Pg} {n x s : Nat} (h : PW p n) (hx : x ≤ n) : ∀ (j k P A : Nat), P < 256 → A < 256 → RI p x s P A → opn P A < j → opn P A < k → stl p x s j P A = stl p x s k P A
  | 0, _, _, _, _, _, _, hj, _ => absurd hj (Nat.not_lt_zero _)
  | _ + 1, 0, _, _, _, _, _, _, hk => absurd hk (Nat.not_lt_zero _)
  | j + 1, k + 1, P, A, hP, hA, hr, hj, hk => by
    unfold stl
    by_cases e : rnd p x s P A = (P, A)
    · rw [if_pos e, if_pos e]
    · rw [if_neg e, if_neg e]
      have hl := rnd_lt (s := s) h hx hP hA
      have hr' := rnd_ri h hx hr
      have hlt := opn_lt hP hA hl.1 hl.2 (rnd_sb p x s P A).1 (rnd_sb p x s P A).2 hr'.1 e
      rw [stl_any h hx j k _ _ hl.1 hl.2 hr' (by omega) (by omega)]
theorem stl_20 {p : Pg} {n x s u : Nat} (h : PW p n) (hx : x ≤ n) (hu : u < 256) : stl p x s 20 u 0 = stl p x s 9 u 0 := by
  have := opn_le u 0
  exact stl_any h hx 20 9 u 0 hu (by decide) (ri_0 p x s u) (by omega) (by omega)
theorem stl_ri {p : Pg} {n x s : Nat} (h : PW p n) (hx : x ≤ n) : ∀ (j P A : Nat), RI p x s P A → RI p x s (stl p x s j P A).1 (stl p x s j P A).2.1
  | 0, _, _, hr => hr
  | j + 1, P, A, hr => by
    unfold stl
    split
    · exact hr
    · exact stl_ri h hx j _ _ (rnd_ri h hx hr)
/-! how deep: ranks -/
/-- operands have lower ranks -/
def RK (p : Pg) (n : Nat) (rk : Nat → Nat) : Prop := ∀ i, i < n → rk i < n ∧ (p 2 i = 0 ∨ rk (p 2 i - 1) < rk i) ∧ (p 3 i = 0 ∨ rk (p 3 i - 1) < rk i)
/-- two functions that agree on a statement's operands give it one analysis -/
theorem anB_ext {p : Pg} {k : Nat} {F F' : Nat → Nat → Bool → Nat → Nat → R4} (h2 : ∀ s u P A, F (p 2 k) s u P A = F' (p 2 k) s u P A) (h3 : ∀ s u P A, F (p 3 k) s u P A = F' (p 3 k) s u P A) (s : Nat) (u : Bool) (P A : Nat) : anB p F k s u P A = anB p F' k s u P A := by
  unfold anB
  simp only [h2, h3]
theorem an_z (p : Pg) (f s : Nat) (u : Bool) (P A : Nat) : an p f 0 s u P A = r_cd 1 := by cases f <;> rfl
theorem an_fuel {p : Pg} {n : Nat} {rk : Nat → Nat} (hw : PW p n) (h : RK p n rk) : ∀ (f g x : Nat), x ≤ n → (x = 0 ∨ rk (x - 1) < f) → (x = 0 ∨ rk (x - 1) < g) → ∀ (s : Nat) (u : Bool) (P A : Nat), an p f x s u P A = an p g x s u P A
  | _, _, 0, _, _, _, s, u, P, A => by rw [an_z, an_z]
  | 0, _, k + 1, _, hf, _, _, _, _, _ => by rcases hf with hf | hf <;> omega
  | _ + 1, 0, k + 1, _, _, hg, _, _, _, _ => by rcases hg with hg | hg <;> omega
  | f + 1, g + 1, k + 1, hx, hf, hg, s, u, P, A => by
    have hk : k < n := by omega
    obtain ⟨-, -, w2, w3, -⟩ := hw.2 k hk
    obtain ⟨r1, r2, r3⟩ := h k hk
    have hf : rk k < f + 1 := by rcases hf with hf | hf <;> first | omega | exact hf
    have hg : rk k < g + 1 := by rcases hg with hg | hg <;> first | omega | exact hg
    exact anB_ext (fun s u P A => an_fuel hw h f g (p 2 k) w2 (r2.imp id (fun z => by omega)) (r2.imp id (fun z => by omega)) s u P A) (fun s u P A => an_fuel hw h f g (p 3 k) w3 (r3.imp id (fun z => by omega)) (r3.imp id (fun z => by omega)) s u P A) s u P A
/-- the analysis by its own words: no depth -/
theorem an_eq {p : Pg} {n : Nat} {rk : Nat → Nat} (hw : PW p n) (h : RK p n rk) {k : Nat} (hk : k < n) (s : Nat) (u : Bool) (P A : Nat) : an p 61 (k + 1) s u P A = anB p (an p 61) k s u P A := by
  obtain ⟨-, -, w2, w3, -⟩ := hw.2 k hk
  obtain ⟨r1, r2, r3⟩ := h k hk
  have hn := hw.1
  show anB p (an p 60) k s u P A = _
  exact anB_ext (fun s u P A => an_fuel hw h 60 61 (p 2 k) w2 (r2.imp id (fun z => by omega)) (r2.imp id (fun z => by omega)) s u P A) (fun s u P A => an_fuel hw h 60 61 (p 3 k) w3 (r3.imp id (fun z => by omega)) (r3.imp id (fun z => by omega)) s u P A) s u P A
theorem exB_ext {p : Pg} {k : Nat} {F F' : Nat → Nat → Nat → E2} {G G' : Nat → Nat → Bool → Nat → Nat → R4} (h2 : ∀ s P, F (p 2 k) s P = F' (p 2 k) s P) (h3 : ∀ s P, F (p 3 k) s P = F' (p 3 k) s P) (hG : ∀ s u P A, G (p 2 k) s u P A = G' (p 2 k) s u P A) (s P : Nat) : exB p F G k s P = exB p F' G' k s P := by
  have h4 : ∀ (c : Prop) [Decidable c], F (if c then p 2 k else p 3 k) s P = F' (if c then p 2 k else p 3 k) s P := by
    intro c _
    split
    · exact h2 s P
    · exact h3 s P
  unfold exB
  simp only [h2, h3, hG, h4]
theorem ex_z (p : Pg) (f s P : Nat) : ex p f 0 s P = some (0, 0) := by cases f <;> rfl
theorem ex_fuel {p : Pg} {n : Nat} {rk : Nat → Nat} (hw : PW p n) (h : RK p n rk) : ∀ (f g x : Nat), x ≤ n → (x = 0 ∨ rk (x - 1) < f) → (x = 0 ∨ rk (x - 1) < g) → ∀ (s P : Nat), ex p f x s P = ex p g x s P
  | _, _, 0, _, _, _, s, P => by rw [ex_z, ex_z]
  | 0, _, k + 1, _, hf, _, _, _ => by rcases hf with hf | hf <;> omega
  | _ + 1, 0, k + 1, _, _, hg, _, _ => by rcases hg with hg | hg <;> omega
  | f + 1, g + 1, k + 1, hx, hf, hg, s, P => by
    have hk : k < n := by omega
    obtain ⟨-, -, w2, w3, -⟩ := hw.2 k hk
    obtain ⟨r1, r2, r3⟩ := h k hk
    have hf : rk k < f + 1 := by rcases hf with hf | hf <;> first | omega | exact hf
    have hg : rk k < g + 1 := by rcases hg with hg | hg <;> first | omega | exact hg
    exact exB_ext (fun s P => ex_fuel hw h f g (p 2 k) w2 (r2.imp id (fun z => by omega)) (r2.imp id (fun z => by omega)) s P) (fun s P => ex_fuel hw h f g (p 3 k) w3 (r3.imp id (fun z => by omega)) (r3.imp id (fun z => by omega)) s P) (fun s u P A => an_fuel hw h f g (p 2 k) w2 (r2.imp id (fun z => by omega)) (r2.imp id (fun z => by omega)) s u P A) s P
theorem ex_eq {p : Pg} {n : Nat} {rk : Nat → Nat} (hw : PW p n) (h : RK p n rk) {k : Nat} (hk : k < n) (s P : Nat) : ex p 61 (k + 1) s P = exB p (ex p 61) (an p 61) k s P := by
  obtain ⟨-, -, w2, w3, -⟩ := hw.2 k hk
  obtain ⟨r1, r2, r3⟩ := h k hk
  have hn := hw.1
  show exB p (ex p 60) (an p 60) k s P = _
  exact exB_ext (fun s P => ex_fuel hw h 60 61 (p 2 k) w2 (r2.imp id (fun z => by omega)) (r2.imp id (fun z => by omega)) s P) (fun s P => ex_fuel hw h 60 61 (p 3 k) w3 (r3.imp id (fun z => by omega)) (r3.imp id (fun z => by omega)) s P) (fun s u P A => an_fuel hw h 60 61 (p 2 k) w2 (r2.imp id (fun z => by omega)) (r2.imp id (fun z => by omega)) s u P A) s P

/-! the ring; a signal or none is a number: 0 none, g + 1 the signal g -/
def lw (a : Nat) : Nat := if a % 2 = 1 then 1 else if a / 2 % 2 = 1 then 2 else if a / 4 % 2 = 1 then 3 else if a / 8 % 2 = 1 then 4 else if a / 16 % 2 = 1 then 5 else if a / 32 % 2 = 1 then 6 else if a / 64 % 2 = 1 then 7 else if a / 128 % 2 = 1 then 8 else 0
theorem lw_le (a : Nat) : lw a ≤ 8 := by
  unfold lw
  repeat' split
  all_goals omega
theorem lw_f : ∀ a, a < 256 → (a = 0 ∧ lw a = 0) ∨ (a ≠ 0 ∧ 1 ≤ lw a ∧ a.testBit (lw a - 1) = true ∧ (∀ i, i < lw a - 1 → a.testBit i = false) ∧ (nI a &&& -(nI a)) - nI 1 = nI (2 ^ (lw a - 1) - 1) ∧ pcn (2 ^ (lw a - 1) - 1) 21 = lw a - 1) := by decide +kernel
theorem oI_m {x : Nat} (h : 1 ≤ x) : oI x = nI (x - 1) := oI_p h
set_option maxRecDepth 10000 in
set_option maxHeartbeats 2000000 in
theorem c_lowest {d : Nat} (hd : 2 ≤ d) {σ : am_M} {a : Nat} (ha : a < 256) {Q : am_Q} (hq : Q (some (.int (oI (lw a)))) σ) : am_C d 64 [.int (nI a)] σ Q := by
  have hl8 := lw_le a
  rcases lw_f a ha with ⟨rfl, e⟩ | ⟨h0, h1, -, -, e, e2⟩
  · rw [e, oI_0] at hq
    refine am_enter' (M := M_X3_lowest) rfl rfl rfl (by omega) (ls := [some (.int (nI 0))]) rfl (fun d' hd' => ?_)
    refine am_run 1 (pc' := 1) (ls' := [some (.int (nI 0))]) (st' := [.int (nI 0)]) (σ' := σ) rfl ?_
    refine am_if (ty := 4) (tn := 8) rfl (by decide) rfl rfl (fun (h_1 : nI 0 = 0) => ?_) (fun (h_1 : ¬ (nI 0 = 0)) => ?_)
    rotate_left
    · exact absurd (by decide) h_1
    refine am_run 2 (pc' := 17) (ls' := [some (.int (nI 0))]) (st' := [.int (-1)]) (σ' := σ) rfl ?_
    refine am_reti rfl rfl ?_
    exact hq
  · rw [oI_m h1] at hq
    have hpw : 2 ^ (lw a - 1) < 256 := pow_lt_256 (by omega)
    refine am_enter' (M := M_X3_lowest) rfl rfl rfl (by omega) (ls := [some (.int (nI a))]) rfl (fun d' hd' => ?_)
    refine am_run 1 (pc' := 1) (ls' := [some (.int (nI a))]) (st' := [.int (nI a)]) (σ' := σ) rfl ?_
    refine am_if (ty := 4) (tn := 8) rfl (by decide) rfl rfl (fun (h_1 : nI a = 0) => ?_) (fun (h_1 : ¬ (nI a = 0)) => ?_)
    · have h_1 : a = 0 := (am_n0 (by omega)).mp h_1
      omega
    have h_1 : ¬ (a = 0) := fun z => h_1 ((am_n0 (by omega)).mpr z)
    refine am_run 6 (pc' := 14) (ls' := [some (.int (nI a))]) (st' := [.int ((nI a &&& (-(nI a))) - nI 1)]) (σ' := σ) rfl ?_
    refine am_top (v' := nI (2 ^ (lw a - 1) - 1)) e ?_
    refine am_invs (y := 254) (as := [.int (nI (2 ^ (lw a - 1) - 1))]) (rest := []) rfl rfl rfl rfl rfl rfl (Nat.le_of_ble_eq_true rfl) ?_
    refine c_bitCount (by omega) (by omega) ?_
    rw [e2]
    show am_G _ M_X3_lowest _ 17 [some (.int (nI a))] [.int (nI (lw a - 1))] σ
    refine am_reti rfl rfl ?_
    exact hq
set_option maxRecDepth 10000 in
set_option maxHeartbeats 2000000 in
theorem c_least_loop {d : Nat} (hd : 1 ≤ d) {σ : am_M} {a : Nat} (ha : a < 256) {Q : am_Q} (hq : Q (some (.int (oI (lw a)))) σ) : ∀ (m k : Nat), k + m = 21 → (lw a = 0 ∨ k ≤ lw a - 1) → am_G d M_X10_leastOf Q 2 [some (.int (nI a)), some (.int (nI k))] [] σ
  | 0, k, hm, hk => by
    have hl8 := lw_le a
    have e0 : lw a = 0 := by omega
    have ek : k = 21 := by omega
    subst ek
    rw [e0, oI_0] at hq
    refine am_run 2 (pc' := 5) (ls' := [some (.int (nI a)), some (.int (nI 21))]) (st' := [.int (nI 21), .int (nI 21)]) (σ' := σ) rfl ?_
    refine am_ic (ty := 8) (tn := 22) rfl (by decide) rfl rfl (fun (h_1 : nI 21 < nI 21) => ?_) (fun (h_1 : ¬ (nI 21 < nI 21)) => ?_)
    · exact absurd h_1 (by decide)
    refine am_run 2 (pc' := 25) (ls' := [some (.int (nI a)), some (.int (nI 21))]) (st' := [.int (nI 21), .int (nI 21)]) (σ' := σ) rfl ?_
    refine am_ic (ty := 28) (tn := 32) rfl (by decide) rfl rfl (fun (h_2 : nI 21 < nI 21) => ?_) (fun (h_2 : ¬ (nI 21 < nI 21)) => ?_)
    · exact absurd h_2 (by decide)
    refine am_run 1 (pc' := 33) (ls' := [some (.int (nI a)), some (.int (nI 21))]) (st' := [.int (-1)]) (σ' := σ) rfl ?_
    refine am_reti rfl rfl ?_
    exact hq
  | m + 1, k, hm, hk => by
    have hl8 := lw_le a
    rcases lw_f a ha with ⟨rfl, e⟩ | ⟨h0, h1, e1, e3, -, -⟩
    · skip
      refine am_run 2 (pc' := 5) (ls' := [some (.int (nI 0)), some (.int (nI k))]) (st' := [.int (nI 21), .int (nI k)]) (σ' := σ) rfl ?_
      refine am_ic (ty := 8) (tn := 22) rfl (by decide) rfl rfl (fun (h_1 : nI k < nI 21) => ?_) (fun (h_1 : ¬ (nI k < nI 21)) => ?_)
      rotate_left
      · have h_1 : ¬ (k < 21) := fun z => h_1 ((nI_ltI (by omega) (by omega)).mpr z)
        omega
      have h_1 : k < 21 := (nI_ltI (by omega) (by omega)).mp h_1
      refine am_run 2 (pc' := 10) (ls' := [some (.int (nI 0)), some (.int (nI k))]) (st' := [.int (nI k), .int (nI 0)]) (σ' := σ) rfl ?_
      refine am_invs (y := 149) (as := [.int (nI 0), .int (nI k)]) (rest := []) rfl rfl rfl rfl rfl rfl (Nat.le_of_ble_eq_true rfl) ?_
      refine c_m_has hd (a := 0) (s := k) (by decide) (by omega) (fun z => by rw [Nat.zero_testBit] at z; cases z) (fun _ => ?_)
      show am_G _ M_X10_leastOf _ 13 [some (.int (nI 0)), some (.int (nI k))] [.int (nI 0)] σ
      refine am_if (ty := 16) (tn := 22) rfl (by decide) rfl rfl (fun (h_2 : nI 0 = 0) => ?_) (fun (h_2 : ¬ (nI 0 = 0)) => ?_)
      rotate_left
      · exact absurd (by decide) h_2
      refine am_run 1 (pc' := 19) (ls' := [some (.int (nI 0)), some (.int (nI k + nI 1))]) (st' := []) (σ' := σ) rfl ?_
      refine am_ls (ls' := [some (.int (nI 0)), some (.int (nI (k + 1)))]) (by rw [nI_add]) ?_
      refine am_run 1 (pc' := 2) (ls' := [some (.int (nI 0)), some (.int (nI (k + 1)))]) (st' := []) (σ' := σ) rfl ?_
      exact c_least_loop hd ha hq m (k + 1) (by omega) (Or.inl e)
    · by_cases ek : k = lw a - 1
      · rw [oI_m h1, ← ek] at hq
        rw [← ek] at e1
        refine am_run 2 (pc' := 5) (ls' := [some (.int (nI a)), some (.int (nI k))]) (st' := [.int (nI 21), .int (nI k)]) (σ' := σ) rfl ?_
        refine am_ic (ty := 8) (tn := 22) rfl (by decide) rfl rfl (fun (h_1 : nI k < nI 21) => ?_) (fun (h_1 : ¬ (nI k < nI 21)) => ?_)
        rotate_left
        · have h_1 : ¬ (k < 21) := fun z => h_1 ((nI_ltI (by omega) (by omega)).mpr z)
          omega
        have h_1 : k < 21 := (nI_ltI (by omega) (by omega)).mp h_1
        refine am_run 2 (pc' := 10) (ls' := [some (.int (nI a)), some (.int (nI k))]) (st' := [.int (nI k), .int (nI a)]) (σ' := σ) rfl ?_
        refine am_invs (y := 149) (as := [.int (nI a), .int (nI k)]) (rest := []) rfl rfl rfl rfl rfl rfl (Nat.le_of_ble_eq_true rfl) ?_
        refine c_m_has hd (a := a) (s := k) (by omega) (by omega) (fun _ => ?_) (fun z => absurd (e1.symm.trans z) (by decide))
        show am_G _ M_X10_leastOf _ 13 [some (.int (nI a)), some (.int (nI k))] [.int (nI 1)] σ
        refine am_if (ty := 16) (tn := 22) rfl (by decide) rfl rfl (fun (h_2 : nI 1 = 0) => ?_) (fun (h_2 : ¬ (nI 1 = 0)) => ?_)
        · exact absurd h_2 (by decide)
        refine am_run 2 (pc' := 25) (ls' := [some (.int (nI a)), some (.int (nI k))]) (st' := [.int (nI 21), .int (nI k)]) (σ' := σ) rfl ?_
        refine am_ic (ty := 28) (tn := 32) rfl (by decide) rfl rfl (fun (h_3 : nI k < nI 21) => ?_) (fun (h_3 : ¬ (nI k < nI 21)) => ?_)
        rotate_left
        · have h_3 : ¬ (k < 21) := fun z => h_3 ((nI_ltI (by omega) (by omega)).mpr z)
          omega
        have h_3 : k < 21 := (nI_ltI (by omega) (by omega)).mp h_3
        refine am_run 2 (pc' := 33) (ls' := [some (.int (nI a)), some (.int (nI k))]) (st' := [.int (nI k)]) (σ' := σ) rfl ?_
        refine am_reti rfl rfl ?_
        exact hq
      · have ez := e3 k (by omega)
        refine am_run 2 (pc' := 5) (ls' := [some (.int (nI a)), some (.int (nI k))]) (st' := [.int (nI 21), .int (nI k)]) (σ' := σ) rfl ?_
        refine am_ic (ty := 8) (tn := 22) rfl (by decide) rfl rfl (fun (h_1 : nI k < nI 21) => ?_) (fun (h_1 : ¬ (nI k < nI 21)) => ?_)
        rotate_left
        · have h_1 : ¬ (k < 21) := fun z => h_1 ((nI_ltI (by omega) (by omega)).mpr z)
          omega
        have h_1 : k < 21 := (nI_ltI (by omega) (by omega)).mp h_1
        refine am_run 2 (pc' := 10) (ls' := [some (.int (nI a)), some (.int (nI k))]) (st' := [.int (nI k), .int (nI a)]) (σ' := σ) rfl ?_
        refine am_invs (y := 149) (as := [.int (nI a), .int (nI k)]) (rest := []) rfl rfl rfl rfl rfl rfl (Nat.le_of_ble_eq_true rfl) ?_
        refine c_m_has hd (a := a) (s := k) (by omega) (by omega) (fun z => absurd (ez.symm.trans z) (by decide)) (fun _ => ?_)
        show am_G _ M_X10_leastOf _ 13 [some (.int (nI a)), some (.int (nI k))] [.int (nI 0)] σ
        refine am_if (ty := 16) (tn := 22) rfl (by decide) rfl rfl (fun (h_2 : nI 0 = 0) => ?_) (fun (h_2 : ¬ (nI 0 = 0)) => ?_)
        rotate_left
        · exact absurd (by decide) h_2
        refine am_run 1 (pc' := 19) (ls' := [some (.int (nI a)), some (.int (nI k + nI 1))]) (st' := []) (σ' := σ) rfl ?_
        refine am_ls (ls' := [some (.int (nI a)), some (.int (nI (k + 1)))]) (by rw [nI_add]) ?_
        refine am_run 1 (pc' := 2) (ls' := [some (.int (nI a)), some (.int (nI (k + 1)))]) (st' := []) (σ' := σ) rfl ?_
        exact c_least_loop hd ha hq m (k + 1) (by omega) (Or.inr (by omega))
set_option maxRecDepth 10000 in
set_option maxHeartbeats 2000000 in
theorem c_least {d : Nat} (hd : 2 ≤ d) {σ : am_M} {a : Nat} (ha : a < 256) {Q : am_Q} (hq : Q (some (.int (oI (lw a)))) σ) : am_C d 238 [.int (nI a)] σ Q := by
  refine am_enter' (M := M_X10_leastOf) rfl rfl rfl (by omega) (ls := [some (.int (nI a)), none]) rfl (fun d' hd' => ?_)
  refine am_run 2 (pc' := 2) (ls' := [some (.int (nI a)), some (.int (nI 0))]) (st' := []) (σ' := σ) rfl ?_
  exact c_least_loop (by omega) ha hq 21 0 rfl (by omega)
/-- the way from signal to signal -/
def rF (p : Pg) (x s W P A y : Nat) : Nat := if y = 0 then 0 else lw (wfs p x s W P A (y - 1))
theorem rF_le (p : Pg) (x s W P A y : Nat) : rF p x s W P A y ≤ 8 := by
  unfold rF
  split
  · decide
  · exact lw_le _
def itr (F : Nat → Nat) : Nat → Nat → Nat
  | 0, y => y
  | k + 1, y => F (itr F k y)
theorem itr_s (F : Nat → Nat) : ∀ k y, itr F k (F y) = itr F (k + 1) y
  | 0, _ => rfl
  | k + 1, y => by
    show F (itr F k (F y)) = F (itr F (k + 1) y)
    rw [itr_s F k y]
theorem itr_add (F : Nat → Nat) (y : Nat) : ∀ a b, itr F (a + b) y = itr F a (itr F b y)
  | 0, b => by rw [Nat.zero_add]; rfl
  | a + 1, b => by
    rw [show a + 1 + b = (a + b) + 1 by omega]
    show F (itr F (a + b) y) = F (itr F a (itr F b y))
    rw [itr_add F y a b]
theorem itr_0 {F : Nat → Nat} (h : F 0 = 0) : ∀ k, itr F k 0 = 0
  | 0 => rfl
  | k + 1 => by
    show F (itr F k 0) = 0
    rw [itr_0 h k, h]
/-- what the class gathers -/
def cir (F : Nat → Nat) : Nat → Nat → Nat → Nat
  | 0, S, _ => S
  | k + 1, S, y => if y = 0 ∨ S.testBit (y - 1) = true then S else cir F k (S ||| 2 ^ (y - 1)) (F y)
/-- the set of the first k -/
def orb (F : Nat → Nat) (y : Nat) : Nat → Nat
  | 0 => 0
  | k + 1 => orb F y k ||| 2 ^ (itr F k y - 1)
theorem orb_bit (F : Nat → Nat) (y l : Nat) : ∀ k, (orb F y k).testBit l = true ↔ ∃ i, i < k ∧ itr F i y - 1 = l
  | 0 => by
    constructor
    · intro h; rw [show orb F y 0 = 0 from rfl, Nat.zero_testBit] at h; cases h
    · rintro ⟨i, h, -⟩; exact absurd h (Nat.not_lt_zero _)
  | k + 1 => by
    show (orb F y k ||| 2 ^ (itr F k y - 1)).testBit l = true ↔ _
    rw [Nat.testBit_or, Bool.or_eq_true, orb_bit F y l k, Nat.testBit_two_pow, decide_eq_true_eq]
    constructor
    · rintro (⟨i, h1, h2⟩ | h)
      · exact ⟨i, by omega, h2⟩
      · exact ⟨k, by omega, h⟩
    · rintro ⟨i, h1, h2⟩
      by_cases e : i = k
      · subst e; exact Or.inr h2
      · exact Or.inl ⟨i, by omega, h2⟩
theorem orb_lt {F : Nat → Nat} {y : Nat} (hF : ∀ k, itr F k y ≤ 8) : ∀ k, orb F y k < 256
  | 0 => by show 0 < 256; decide
  | k + 1 => or_lt8 (orb_lt hF k) (pow_lt_256 (by have := hF k; omega))
theorem bit_ext {a b : Nat} (h : ∀ l, a.testBit l = true ↔ b.testBit l = true) : a = b := by
  apply Nat.eq_of_testBit_eq
  intro i
  have := h i
  rcases bt (a.testBit i) with e | e <;> rcases bt (b.testBit i) with e2 | e2
  · rw [e, e2]
  · rw [this.mp e] at e2; cases e2
  · rw [this.mpr e2] at e; cases e
  · rw [e, e2]
/-- gathering ends where the set is closed -/
theorem cir_orb {F : Nat → Nat} : ∀ (k S y : Nat), (∀ i, itr F i y ≠ 0) → (∀ l, S.testBit l = true → S.testBit (F (l + 1) - 1) = true ∨ F (l + 1) = y) → (∀ l, (cir F k S y).testBit l = true ↔ S.testBit l = true ∨ ∃ i, i < k ∧ itr F i y - 1 = l)
  | 0, S, y, _, _, l => ⟨Or.inl, fun h => h.elim id (fun ⟨i, z, _⟩ => absurd z (Nat.not_lt_zero _))⟩
  | k + 1, S, y, hz, hc, l => by
    have hy : y ≠ 0 := hz 0
    unfold cir
    by_cases e : S.testBit (y - 1) = true
    · rw [if_pos (Or.inr e)]
      refine ⟨Or.inl, fun h => h.elim id ?_⟩
      rintro ⟨i, -, rfl⟩
      have : ∀ i, S.testBit (itr F i y - 1) = true := by
        intro i
        induction i with
        | zero => exact e
        | succ i ih =>
          have hq := hc _ ih
          have h0 := hz i
          rw [show itr F i y - 1 + 1 = itr F i y by omega] at hq
          show S.testBit (F (itr F i y) - 1) = true
          rcases hq with hq | hq
          · exact hq
          · rw [hq]; exact e
      exact this i
    · rw [if_neg (fun z => z.elim hy e)]
      have hc' : ∀ l, (S ||| 2 ^ (y - 1)).testBit l = true → (S ||| 2 ^ (y - 1)).testBit (F (l + 1) - 1) = true ∨ F (l + 1) = F y := by
        intro l hl
        rw [Nat.testBit_or, Bool.or_eq_true, Nat.testBit_two_pow, decide_eq_true_eq] at hl
        rw [Nat.testBit_or, Bool.or_eq_true, Nat.testBit_two_pow, decide_eq_true_eq]
        rcases hl with hl | hl
        · rcases hc l hl with h | h
          · exact Or.inl (Or.inl h)
          · exact Or.inl (Or.inr (by rw [h]))
        · subst hl
          rw [show y - 1 + 1 = y by omega]
          exact Or.inr rfl
      rw [cir_orb k _ (F y) (fun i => by rw [itr_s]; exact hz _) hc' l, Nat.testBit_or, Bool.or_eq_true, Nat.testBit_two_pow, decide_eq_true_eq]
      constructor
      · rintro ((h | h) | ⟨i, h1, h2⟩)
        · exact Or.inl h
        · exact Or.inr ⟨0, by omega, h⟩
        · rw [itr_s] at h2; exact Or.inr ⟨i + 1, by omega, h2⟩
      · rintro (h | ⟨i, h1, h2⟩)
        · exact Or.inl (Or.inl h)
        · cases i with
          | zero => exact Or.inl (Or.inr h2)
          | succ i => rw [← itr_s] at h2; exact Or.inr ⟨i, by omega, h2⟩
theorem cir_0 (F : Nat → Nat) : ∀ k, cir F k 0 0 = 0
  | 0 => rfl
  | _ + 1 => if_pos (Or.inl rfl)
/-- class and reference gather one set -/
theorem ring_eq {F : Nat → Nat} {y i n : Nat} (hin : i < n) (hn : n ≤ 8) (hz : ∀ k, k ≤ n → itr F k y ≠ 0) (hp : itr F n y = itr F i y) : cir F 8 0 (itr F 8 y) = orb F (itr F i y) (n - i) := by
  have per : ∀ k, i ≤ k → itr F (k + (n - i)) y = itr F k y := by
    intro k hk
    rw [show k + (n - i) = (k - i) + n by omega, itr_add, hp, ← itr_add, show k - i + i = k by omega]
  have nz : ∀ m k, k ≤ n + m → itr F k y ≠ 0 := by
    intro m
    induction m with
    | zero => exact fun k hk => hz k hk
    | succ m ih =>
      intro k hk
      by_cases e : k ≤ n + m
      · exact ih k e
      · rw [show k = (k - (n - i)) + (n - i) by omega, per _ (by omega)]
        exact ih _ (by omega)
  have nz' : ∀ k, itr F k y ≠ 0 := fun k => nz k k (by omega)
  have inn : ∀ m k, k ≤ n + m → i ≤ k → ∃ k', i ≤ k' ∧ k' < n ∧ itr F k y = itr F k' y := by
    intro m
    induction m with
    | zero =>
      intro k hk hi
      by_cases e : k = n
      · exact ⟨i, Nat.le_refl _, hin, by rw [e, hp]⟩
      · exact ⟨k, hi, by omega, rfl⟩
    | succ m ih =>
      intro k hk hi
      by_cases e : k ≤ n + m
      · exact ih k e hi
      · obtain ⟨k', h1, h2, h3⟩ := ih (k - (n - i)) (by omega) (by omega)
        exact ⟨k', h1, h2, by rw [show k = (k - (n - i)) + (n - i) by omega, per _ (by omega)]; exact h3⟩
  have out : ∀ m, ∃ k, k < 8 ∧ itr F (8 + m) y = itr F (8 + k) y := by
    intro m
    induction m using Nat.strongRecOn with
    | ind m ih =>
      by_cases e : m < 8
      · exact ⟨m, e, rfl⟩
      · obtain ⟨k, h1, h2⟩ := ih (m - (n - i)) (by omega)
        exact ⟨k, h1, by rw [show 8 + m = (8 + (m - (n - i))) + (n - i) by omega, per _ (by omega)]; exact h2⟩
  have per8 : ∀ k, i ≤ k → itr F (k + 8 * (n - i)) y = itr F k y := by
    intro k hk
    rw [show k + 8 * (n - i) = k + (n - i) + (n - i) + (n - i) + (n - i) + (n - i) + (n - i) + (n - i) + (n - i) by omega, per _ (by omega), per _ (by omega), per _ (by omega), per _ (by omega), per _ (by omega), per _ (by omega), per _ (by omega), per _ hk]
  apply bit_ext
  intro l
  rw [cir_orb 8 0 (itr F 8 y) (fun k => by rw [← itr_add]; exact nz' _) (fun l h => by rw [Nat.zero_testBit] at h; cases h) l, orb_bit]
  constructor
  · rintro (h | ⟨k, h1, h2⟩)
    · rw [Nat.zero_testBit] at h; cases h
    · rw [← itr_add] at h2
      obtain ⟨k', g1, g2, g3⟩ := inn (k + 8) (k + 8) (by omega) (by omega)
      exact ⟨k' - i, by omega, by rw [← itr_add, show k' - i + i = k' by omega, ← g3]; exact h2⟩
  · rintro ⟨k, h1, h2⟩
    rw [← itr_add] at h2
    obtain ⟨k', g1, g2⟩ := out ((k + i + 8 * (n - i)) - 8)
    rw [show 8 + (k + i + 8 * (n - i) - 8) = k + i + 8 * (n - i) by omega, per8 _ (by omega)] at g2
    exact Or.inr ⟨k', g1, by rw [← itr_add, Nat.add_comm, ← g2]; exact h2⟩
theorem pcn_or {S g : Nat} (h : S.testBit g = false) : ∀ k, pcn (S ||| 2 ^ g) k = pcn S k + (if g < k then 1 else 0)
  | 0 => rfl
  | k + 1 => by
    show pcn (S ||| 2 ^ g) k + (S ||| 2 ^ g) / 2 ^ k % 2 = pcn S k + S / 2 ^ k % 2 + _
    rw [pcn_or h k, bit_v, bit_v, Nat.testBit_or, Nat.testBit_two_pow]
    by_cases e : g = k
    · subst e; rw [h]; simp
    · simp only [e, decide_false, Bool.or_false]
      by_cases z : g < k
      · rw [if_pos z, if_pos (by omega)]; omega
      · rw [if_neg z, if_neg (by omega)]; omega
set_option maxRecDepth 10000 in
set_option maxHeartbeats 2000000 in
theorem c_circle1 {d : Nat} (hd : 404 ≤ d) {σ : am_M} {t n x s W P A : Nat} {p : Pg} (hW : PW p n) (hR : TR σ t p n) (hx : x ≤ n) (hro : ROOT σ t x) (hs : s ≤ 1048576) (hP : P < 256) (hA : A < 256) (hW9 : W < 512) (o0 : σ.1 77 0 = nI (P + 256 * A)) (o1 : σ.1 77 1 = nI W) {Q : am_Q} : ∀ (m k y : Nat), k + m = 8 → y ≤ 8 → (∀ k', k' ≤ 8 → am_G d M_X3_circle Q 44 [some (.ref 77), some (.ref t), some (.int (nI s)), some (.int (oI (itr (rF p x s W P A) m y))), some (.int (nI k')), none] [] σ) → am_G d M_X3_circle Q 15 [some (.ref 77), some (.ref t), some (.int (nI s)), some (.int (oI y)), some (.int (nI k)), none] [] σ
  | 0, k, y, hm, hy, hn => by
    have e : k = 8 := by omega
    subst e
    refine am_run 2 (pc' := 19) (ls' := [some (.ref 77), some (.ref t), some (.int (nI s)), some (.int (oI y)), some (.int (nI 8)), none]) (st' := [.int (nI 8), .int (nI 8)]) (σ' := σ) rfl ?_
    refine am_ic (ty := 22) (tn := 44) rfl (by decide) rfl rfl (fun (h_1 : nI 8 < nI 8) => ?_) (fun (h_1 : ¬ (nI 8 < nI 8)) => ?_)
    · exact absurd h_1 (by decide)
    exact hn 8 (Nat.le_refl 8)
  | m + 1, k, y, hm, hy, hn => by
    cases y with
    | zero =>
      rw [oI_0]
      refine am_run 2 (pc' := 19) (ls' := [some (.ref 77), some (.ref t), some (.int (nI s)), some (.int (-1)), some (.int (nI k)), none]) (st' := [.int (nI 8), .int (nI k)]) (σ' := σ) rfl ?_
      refine am_ic (ty := 22) (tn := 44) rfl (by decide) rfl rfl (fun (h_1 : nI k < nI 8) => ?_) (fun (h_1 : ¬ (nI k < nI 8)) => ?_)
      rotate_left
      · have h_1 : ¬ (k < 8) := fun z => h_1 ((nI_ltI (by omega) (by omega)).mpr z)
        omega
      have h_1 : k < 8 := (nI_ltI (by omega) (by omega)).mp h_1
      refine am_run 2 (pc' := 24) (ls' := [some (.ref 77), some (.ref t), some (.int (nI s)), some (.int (-1)), some (.int (nI k)), none]) (st' := [.int (-1), .int (-1)]) (σ' := σ) rfl ?_
      refine am_ic (ty := 44) (tn := 27) rfl (by decide) rfl rfl (fun (h_2 : -1 = -1) => ?_) (fun (h_2 : ¬ (-1 = -1)) => ?_)
      rotate_left
      · exact absurd (by decide) h_2
      have := hn k (by omega)
      rw [itr_0 (show (rF p x s W P A) 0 = 0 from rfl), oI_0] at this
      exact this
    | succ g =>
      have hg : g < 8 := by omega
      rw [oI_s]
      refine am_run 2 (pc' := 19) (ls' := [some (.ref 77), some (.ref t), some (.int (nI s)), some (.int (nI g)), some (.int (nI k)), none]) (st' := [.int (nI 8), .int (nI k)]) (σ' := σ) rfl ?_
      refine am_ic (ty := 22) (tn := 44) rfl (by decide) rfl rfl (fun (h_1 : nI k < nI 8) => ?_) (fun (h_1 : ¬ (nI k < nI 8)) => ?_)
      rotate_left
      · have h_1 : ¬ (k < 8) := fun z => h_1 ((nI_ltI (by omega) (by omega)).mpr z)
        omega
      have h_1 : k < 8 := (nI_ltI (by omega) (by omega)).mp h_1
      refine am_run 2 (pc' := 24) (ls' := [some (.ref 77), some (.ref t), some (.int (nI s)), some (.int (nI g)), some (.int (nI k)), none]) (st' := [.int (-1), .int (nI g)]) (σ' := σ) rfl ?_
      refine am_ic (ty := 44) (tn := 27) rfl (by decide) rfl rfl (fun (h_2 : nI g = -1) => ?_) (fun (h_2 : ¬ (nI g = -1)) => ?_)
      · exact absurd h_2 (am_nm1 (by omega))
      refine am_run 4 (pc' := 31) (ls' := [some (.ref 77), some (.ref t), some (.int (nI s)), some (.int (nI g)), some (.int (nI k)), none]) (st' := [.int (nI g), .int (nI s), .ref t, .ref 77]) (σ' := σ) rfl ?_
      refine am_invv (y := 61) (b := 77) (as := [.ref t, .int (nI s), .int (nI g)]) (rest := []) rfl rfl rfl rfl rfl rfl rfl (Nat.le_of_ble_eq_true rfl) ?_
      refine c_waited (by omega) hW hR hx hro hs hP hA hg hW9 o0 o1 ?_
      have hwl := wfs_lt p x s W P A g
      show am_G _ M_X3_circle _ 34 [some (.ref 77), some (.ref t), some (.int (nI s)), some (.int (nI g)), some (.int (nI k)), none] [.int (nI (wfs p x s W P A g))] σ
      refine am_invs (y := 64) (as := [.int (nI (wfs p x s W P A g))]) (rest := []) rfl rfl rfl rfl rfl rfl (Nat.le_of_ble_eq_true rfl) ?_
      refine c_lowest (by omega) (by omega) ?_
      show am_G _ M_X3_circle _ 37 [some (.ref 77), some (.ref t), some (.int (nI s)), some (.int (nI g)), some (.int (nI k)), none] [.int (oI (lw (wfs p x s W P A g)))] σ
      refine am_run 2 (pc' := 41) (ls' := [some (.ref 77), some (.ref t), some (.int (nI s)), some (.int (oI (lw (wfs p x s W P A g)))), some (.int (nI k + nI 1)), none]) (st' := []) (σ' := σ) rfl ?_
      refine am_ls (ls' := [some (.ref 77), some (.ref t), some (.int (nI s)), some (.int (oI (lw (wfs p x s W P A g)))), some (.int (nI (k + 1))), none]) (by rw [nI_add]) ?_
      refine am_run 1 (pc' := 15) (ls' := [some (.ref 77), some (.ref t), some (.int (nI s)), some (.int (oI (lw (wfs p x s W P A g)))), some (.int (nI (k + 1))), none]) (st' := []) (σ' := σ) rfl ?_
      refine c_circle1 hd hW hR hx hro hs hP hA hW9 o0 o1 m (k + 1) ((rF p x s W P A) (g + 1)) (by omega) (rF_le _ _ _ _ _ _ _) (fun k' hk' => ?_)
      rw [itr_s]
      exact hn k' hk'
set_option maxRecDepth 10000 in
set_option maxHeartbeats 2000000 in
theorem c_circle2 {d : Nat} (hd : 404 ≤ d) {σ : am_M} {t n x s W P A : Nat} {p : Pg} (hW : PW p n) (hR : TR σ t p n) (hx : x ≤ n) (hro : ROOT σ t x) (hs : s ≤ 1048576) (hP : P < 256) (hA : A < 256) (hW9 : W < 512) (o0 : σ.1 77 0 = nI (P + 256 * A)) (o1 : σ.1 77 1 = nI W) {Q : am_Q} : ∀ (m k y S : Nat), k + m = 8 → y ≤ 8 → S < 256 → Q (some (.int (nI (cir (rF p x s W P A) m S y)))) σ → am_G d M_X3_circle Q 50 [some (.ref 77), some (.ref t), some (.int (nI s)), some (.int (oI y)), some (.int (nI S)), some (.int (nI k))] [] σ
  | 0, k, y, S, hm, hy, hS, hq => by
    have e : k = 8 := by omega
    subst e
    refine am_run 2 (pc' := 54) (ls' := [some (.ref 77), some (.ref t), some (.int (nI s)), some (.int (oI y)), some (.int (nI S)), some (.int (nI 8))]) (st' := [.int (nI 8), .int (nI 8)]) (σ' := σ) rfl ?_
    refine am_ic (ty := 57) (tn := 96) rfl (by decide) rfl rfl (fun (h_1 : nI 8 < nI 8) => ?_) (fun (h_1 : ¬ (nI 8 < nI 8)) => ?_)
    · exact absurd h_1 (by decide)
    refine am_run 1 (pc' := 98) (ls' := [some (.ref 77), some (.ref t), some (.int (nI s)), some (.int (oI y)), some (.int (nI S)), some (.int (nI 8))]) (st' := [.int (nI S)]) (σ' := σ) rfl ?_
    refine am_reti rfl rfl ?_
    exact hq
  | m + 1, k, y, S, hm, hy, hS, hq => by
    cases y with
    | zero =>
      rw [oI_0]
      rw [show cir (rF p x s W P A) (m + 1) S 0 = S from if_pos (Or.inl rfl)] at hq
      refine am_run 2 (pc' := 54) (ls' := [some (.ref 77), some (.ref t), some (.int (nI s)), some (.int (-1)), some (.int (nI S)), some (.int (nI k))]) (st' := [.int (nI 8), .int (nI k)]) (σ' := σ) rfl ?_
      refine am_ic (ty := 57) (tn := 96) rfl (by decide) rfl rfl (fun (h_1 : nI k < nI 8) => ?_) (fun (h_1 : ¬ (nI k < nI 8)) => ?_)
      rotate_left
      · have h_1 : ¬ (k < 8) := fun z => h_1 ((nI_ltI (by omega) (by omega)).mpr z)
        omega
      have h_1 : k < 8 := (nI_ltI (by omega) (by omega)).mp h_1
      refine am_run 2 (pc' := 59) (ls' := [some (.ref 77), some (.ref t), some (.int (nI s)), some (.int (-1)), some (.int (nI S)), some (.int (nI k))]) (st' := [.int (-1), .int (-1)]) (σ' := σ) rfl ?_
      refine am_ic (ty := 96) (tn := 62) rfl (by decide) rfl rfl (fun (h_2 : -1 = -1) => ?_) (fun (h_2 : ¬ (-1 = -1)) => ?_)
      rotate_left
      · exact absurd (by decide) h_2
      refine am_run 1 (pc' := 98) (ls' := [some (.ref 77), some (.ref t), some (.int (nI s)), some (.int (-1)), some (.int (nI S)), some (.int (nI k))]) (st' := [.int (nI S)]) (σ' := σ) rfl ?_
      refine am_reti rfl rfl ?_
      exact hq
    | succ g =>
      have hg : g < 8 := by omega
      have hg2 := pow_lt_256 hg
      rw [oI_s]
      rcases bt (S.testBit g) with hb | hb
      · rw [show cir (rF p x s W P A) (m + 1) S (g + 1) = S from if_pos (Or.inr hb)] at hq
        have hbv : S / 2 ^ g % 2 = 1 := by rw [bit_v, hb]; rfl
        refine am_run 2 (pc' := 54) (ls' := [some (.ref 77), some (.ref t), some (.int (nI s)), some (.int (nI g)), some (.int (nI S)), some (.int (nI k))]) (st' := [.int (nI 8), .int (nI k)]) (σ' := σ) rfl ?_
        refine am_ic (ty := 57) (tn := 96) rfl (by decide) rfl rfl (fun (h_1 : nI k < nI 8) => ?_) (fun (h_1 : ¬ (nI k < nI 8)) => ?_)
        rotate_left
        · have h_1 : ¬ (k < 8) := fun z => h_1 ((nI_ltI (by omega) (by omega)).mpr z)
          omega
        have h_1 : k < 8 := (nI_ltI (by omega) (by omega)).mp h_1
        refine am_run 2 (pc' := 59) (ls' := [some (.ref 77), some (.ref t), some (.int (nI s)), some (.int (nI g)), some (.int (nI S)), some (.int (nI k))]) (st' := [.int (-1), .int (nI g)]) (σ' := σ) rfl ?_
        refine am_ic (ty := 96) (tn := 62) rfl (by decide) rfl rfl (fun (h_2 : nI g = -1) => ?_) (fun (h_2 : ¬ (nI g = -1)) => ?_)
        · exact absurd h_2 (am_nm1 (by omega))
        refine am_run 5 (pc' := 68) (ls' := [some (.ref 77), some (.ref t), some (.int (nI s)), some (.int (nI g)), some (.int (nI S)), some (.int (nI k))]) (st' := [.int (((nI S) >>> ((nI g) &&& 31)) &&& nI 1)]) (σ' := σ) rfl ?_
        refine am_top (v' := nI (S / 2 ^ g % 2)) (by rw [nx_shr (by omega) (by omega), show nI 1 = nI (2 - 1) from rfl, nx_mask (k := 1) _ rfl]) ?_
        refine am_if (ty := 71) (tn := 96) rfl (by decide) rfl rfl (fun (h_3 : nI (S / 2 ^ g % 2) = 0) => ?_) (fun (h_3 : ¬ (nI (S / 2 ^ g % 2) = 0)) => ?_)
        · have h_3 : S / 2 ^ g % 2 = 0 := (am_n0 (by omega)).mp h_3
          omega
        have h_3 : ¬ (S / 2 ^ g % 2 = 0) := fun z => h_3 ((am_n0 (by omega)).mpr z)
        refine am_run 1 (pc' := 98) (ls' := [some (.ref 77), some (.ref t), some (.int (nI s)), some (.int (nI g)), some (.int (nI S)), some (.int (nI k))]) (st' := [.int (nI S)]) (σ' := σ) rfl ?_
        refine am_reti rfl rfl ?_
        exact hq
      · rw [show cir (rF p x s W P A) (m + 1) S (g + 1) = cir (rF p x s W P A) m (S ||| 2 ^ g) ((rF p x s W P A) (g + 1)) from if_neg (fun z => z.elim (Nat.succ_ne_zero g) (nfl hb))] at hq
        have hbv : S / 2 ^ g % 2 = 0 := by rw [bit_v, hb]; rfl
        refine am_run 2 (pc' := 54) (ls' := [some (.ref 77), some (.ref t), some (.int (nI s)), some (.int (nI g)), some (.int (nI S)), some (.int (nI k))]) (st' := [.int (nI 8), .int (nI k)]) (σ' := σ) rfl ?_
        refine am_ic (ty := 57) (tn := 96) rfl (by decide) rfl rfl (fun (h_1 : nI k < nI 8) => ?_) (fun (h_1 : ¬ (nI k < nI 8)) => ?_)
        rotate_left
        · have h_1 : ¬ (k < 8) := fun z => h_1 ((nI_ltI (by omega) (by omega)).mpr z)
          omega
        have h_1 : k < 8 := (nI_ltI (by omega) (by omega)).mp h_1
        refine am_run 2 (pc' := 59) (ls' := [some (.ref 77), some (.ref t), some (.int (nI s)), some (.int (nI g)), some (.int (nI S)), some (.int (nI k))]) (st' := [.int (-1), .int (nI g)]) (σ' := σ) rfl ?_
        refine am_ic (ty := 96) (tn := 62) rfl (by decide) rfl rfl (fun (h_2 : nI g = -1) => ?_) (fun (h_2 : ¬ (nI g = -1)) => ?_)
        · exact absurd h_2 (am_nm1 (by omega))
        refine am_run 5 (pc' := 68) (ls' := [some (.ref 77), some (.ref t), some (.int (nI s)), some (.int (nI g)), some (.int (nI S)), some (.int (nI k))]) (st' := [.int (((nI S) >>> ((nI g) &&& 31)) &&& nI 1)]) (σ' := σ) rfl ?_
        refine am_top (v' := nI (S / 2 ^ g % 2)) (by rw [nx_shr (by omega) (by omega), show nI 1 = nI (2 - 1) from rfl, nx_mask (k := 1) _ rfl]) ?_
        refine am_if (ty := 71) (tn := 96) rfl (by decide) rfl rfl (fun (h_3 : nI (S / 2 ^ g % 2) = 0) => ?_) (fun (h_3 : ¬ (nI (S / 2 ^ g % 2) = 0)) => ?_)
        rotate_left
        · have h_3 : ¬ (S / 2 ^ g % 2 = 0) := fun z => h_3 ((am_n0 (by omega)).mpr z)
          omega
        have h_3 : S / 2 ^ g % 2 = 0 := (am_n0 (by omega)).mp h_3
        refine am_run 4 (pc' := 76) (ls' := [some (.ref 77), some (.ref t), some (.int (nI s)), some (.int (nI g)), some (.int (nI S)), some (.int (nI k))]) (st' := [.int ((nI 1) <<< ((nI g) &&& 31)), .int (nI S)]) (σ' := σ) rfl ?_
        refine am_top (v' := nI (2 ^ g)) (by rw [nx_shl _ (by omega), Nat.one_mul]) ?_
        refine am_run 1 (pc' := 77) (ls' := [some (.ref 77), some (.ref t), some (.int (nI s)), some (.int (nI g)), some (.int (nI S)), some (.int (nI k))]) (st' := [.int (nI S ||| nI (2 ^ g))]) (σ' := σ) rfl ?_
        refine am_top (v' := nI (S ||| 2 ^ g)) (nx_or _ _) ?_
        refine am_run 5 (pc' := 83) (ls' := [some (.ref 77), some (.ref t), some (.int (nI s)), some (.int (nI g)), some (.int (nI (S ||| 2 ^ g))), some (.int (nI k))]) (st' := [.int (nI g), .int (nI s), .ref t, .ref 77]) (σ' := σ) rfl ?_
        refine am_invv (y := 61) (b := 77) (as := [.ref t, .int (nI s), .int (nI g)]) (rest := []) rfl rfl rfl rfl rfl rfl rfl (Nat.le_of_ble_eq_true rfl) ?_
        refine c_waited (by omega) hW hR hx hro hs hP hA hg hW9 o0 o1 ?_
        have hwl := wfs_lt p x s W P A g
        show am_G _ M_X3_circle _ 86 [some (.ref 77), some (.ref t), some (.int (nI s)), some (.int (nI g)), some (.int (nI (S ||| 2 ^ g))), some (.int (nI k))] [.int (nI (wfs p x s W P A g))] σ
        refine am_invs (y := 64) (as := [.int (nI (wfs p x s W P A g))]) (rest := []) rfl rfl rfl rfl rfl rfl (Nat.le_of_ble_eq_true rfl) ?_
        refine c_lowest (by omega) (by omega) ?_
        show am_G _ M_X3_circle _ 89 [some (.ref 77), some (.ref t), some (.int (nI s)), some (.int (nI g)), some (.int (nI (S ||| 2 ^ g))), some (.int (nI k))] [.int (oI (lw (wfs p x s W P A g)))] σ
        refine am_run 2 (pc' := 93) (ls' := [some (.ref 77), some (.ref t), some (.int (nI s)), some (.int (oI (lw (wfs p x s W P A g)))), some (.int (nI (S ||| 2 ^ g))), some (.int (nI k + nI 1))]) (st' := []) (σ' := σ) rfl ?_
        refine am_ls (ls' := [some (.ref 77), some (.ref t), some (.int (nI s)), some (.int (oI (lw (wfs p x s W P A g)))), some (.int (nI (S ||| 2 ^ g))), some (.int (nI (k + 1)))]) (by rw [nI_add]) ?_
        refine am_run 1 (pc' := 50) (ls' := [some (.ref 77), some (.ref t), some (.int (nI s)), some (.int (oI (lw (wfs p x s W P A g)))), some (.int (nI (S ||| 2 ^ g))), some (.int (nI (k + 1)))]) (st' := []) (σ' := σ) rfl ?_
        exact c_circle2 hd hW hR hx hro hs hP hA hW9 o0 o1 m (k + 1) ((rF p x s W P A) (g + 1)) (S ||| 2 ^ g) (by omega) (rF_le _ _ _ _ _ _ _) (or_lt8 hS hg2) hq
set_option maxRecDepth 10000 in
set_option maxHeartbeats 2000000 in
theorem c_circle {d : Nat} (hd : 406 ≤ d) {σ : am_M} {t n x s W P A : Nat} {p : Pg} (hW : PW p n) (hR : TR σ t p n) (hx : x ≤ n) (hro : ROOT σ t x) (hs : s ≤ 1048576) (hP : P < 256) (hA : A < 256) (hW9 : W < 512) (o0 : σ.1 77 0 = nI (P + 256 * A)) (o1 : σ.1 77 1 = nI W) (hW8 : W < 256) {Q : am_Q} (hq : Q (some (.int (nI (cir (rF p x s W P A) 8 0 (itr (rF p x s W P A) 8 (lw W)))))) σ) : am_C d 63 [.ref 77, .ref t, .int (nI s)] σ Q := by
  have hit : itr (rF p x s W P A) 8 (lw W) ≤ 8 := rF_le _ _ _ _ _ _ _
  refine am_enter' (M := M_X3_circle) rfl rfl rfl (by omega) (ls := [some (.ref 77), some (.ref t), some (.int (nI s)), none, none, none]) rfl (fun d' hd' => ?_)
  refine am_run 2 (pc' := 4) (ls' := [some (.ref 77), some (.ref t), some (.int (nI s)), none, none, none]) (st' := [.int (σ.1 77 1)]) (σ' := σ) rfl ?_
  refine am_top (v' := nI W) o1 ?_
  refine am_run 2 (pc' := 8) (ls' := [some (.ref 77), some (.ref t), some (.int (nI s)), none, none, none]) (st' := [.int (nI W &&& nI 255)]) (σ' := σ) rfl ?_
  refine am_top (v' := nI W) (by rw [show nI 255 = nI (256 - 1) from rfl, nx_mask (k := 8) _ rfl, Nat.mod_eq_of_lt hW8]) ?_
  refine am_invs (y := 64) (as := [.int (nI W)]) (rest := []) rfl rfl rfl rfl rfl rfl (Nat.le_of_ble_eq_true rfl) ?_
  refine c_lowest (by omega) (by omega) ?_
  show am_G _ M_X3_circle _ 11 [some (.ref 77), some (.ref t), some (.int (nI s)), none, none, none] [.int (oI (lw (W)))] σ
  refine am_run 3 (pc' := 15) (ls' := [some (.ref 77), some (.ref t), some (.int (nI s)), some (.int (oI (lw (W)))), some (.int (nI 0)), none]) (st' := []) (σ' := σ) rfl ?_
  refine c_circle1 (by omega) hW hR hx hro hs hP hA hW9 o0 o1 8 0 (lw W) rfl (lw_le W) (fun k' hk' => ?_)
  refine am_run 4 (pc' := 50) (ls' := [some (.ref 77), some (.ref t), some (.int (nI s)), some (.int (oI (itr (rF p x s W P A) 8 (lw W)))), some (.int (nI 0)), some (.int (nI 0))]) (st' := []) (σ' := σ) rfl ?_
  exact c_circle2 (by omega) hW hR hx hro hs hP hA hW9 o0 o1 8 0 _ 0 rfl hit (by decide) hq

/-! facts for the pairs: next states are valid; bounds of what an instant leads to; the history changes -/
def VQ (p : Pg) (x : Nat) (r : E2) : Prop := ∀ q, r = some (1, q) → x ≠ 0 ∧ q ≠ 0 ∧ sb q (p 4 (x - 1))
theorem VQ.z (p : Pg) (x : Nat) : VQ p x (some (0, 0)) := fun q h => by cases h
theorem VQ.up {p : Pg} {x y : Nat} {r : E2} (h : VQ p x r) (hy : y ≠ 0) (hs : sb (p 4 (x - 1)) (p 4 (y - 1))) : VQ p y r := fun q e => ⟨hy, (h q e).2.1, (h q e).2.2.tr hs⟩
theorem VQ.seq {p : Pg} {y : Nat} {a b : E2} (ha : VQ p y a) (hb : VQ p y b) : VQ p y (x_seq a b) := by
  unfold x_seq
  split
  · exact hb
  · exact ha
theorem VQ.par {p : Pg} {y : Nat} {a b : E2} (oa : okE a) (ob : okE b) (ha : VQ p y a) (hb : VQ p y b) : VQ p y (x_par a b) := by
  intro q h
  match a, b, oa, ob, ha, hb, h with
  | none, _, _, _, _, _, h => cases h
  | some _, none, _, _, _, _, h => cases h
  | some (c1, q1), some (c2, q2), oa, ob, ha, hb, h =>
    have e := Option.some.inj h
    unfold cpl at e
    have e1 : max c1 c2 = 1 := congrArg Prod.fst e
    have e2 : (if max c1 c2 = 1 then q1 ||| q2 else 0) = q := congrArg Prod.snd e
    rw [if_pos e1] at e2
    subst e2
    obtain ⟨-, -, o1⟩ := oa c1 q1 rfl
    obtain ⟨-, -, o2⟩ := ob c2 q2 rfl
    by_cases z1 : c1 = 1
    · subst z1
      obtain ⟨y0, n1, s1⟩ := ha q1 rfl
      refine ⟨y0, ?_, ?_⟩
      · intro z
        exact n1 (Nat.eq_of_testBit_eq (fun i => by
          have := congrArg (fun t => Nat.testBit t i) z
          simp only [Nat.testBit_or, Nat.zero_testBit] at this ⊢
          cases h : q1.testBit i
          · rfl
          · rw [h] at this; simp at this))
      · by_cases z2 : c2 = 1
        · subst z2
          obtain ⟨-, -, s2⟩ := hb q2 rfl
          intro i hi
          rw [Nat.testBit_or, Bool.or_eq_true] at hi
          rcases hi with hi | hi
          · exact s1 i hi
          · exact s2 i hi
        · rw [o2.resolve_left z2, Nat.or_zero]
          exact s1
    · have z2 : c2 = 1 := by omega
      subst z2
      obtain ⟨y0, n2, s2⟩ := hb q2 rfl
      rw [o1.resolve_left z1, Nat.zero_or]
      exact ⟨y0, n2, s2⟩
theorem VQ.trap {p : Pg} {y : Nat} {a : E2} (ha : VQ p y a) : VQ p y (x_trap a) := by
  intro q h
  match a, ha, h with
  | none, _, h => cases h
  | some (c, q1), ha, h =>
    have h : (if c < 2 then some (c, q1) else some (if c = 2 then 0 else c - 1, 0)) = some (1, q) := h
    by_cases z : c < 2
    · rw [if_pos z] at h
      exact ha q h
    · rw [if_neg z] at h
      have e := congrArg Prod.fst (Option.some.inj h)
      have e : (if c = 2 then 0 else c - 1) = 1 := e
      split at e <;> omega
theorem VQ.weak {p : Pg} {y : Nat} {a : E2} (ha : VQ p y a) : VQ p y (x_weak a) := by
  intro q h
  match a, ha, h with
  | none, _, h => cases h
  | some (c, q1), ha, h =>
    have h : (if c = 1 then some (0, 0) else some (c, q1)) = some (1, q) := h
    by_cases z : c = 1
    · rw [if_pos z] at h
      cases h
    · rw [if_neg z] at h
      exact ha q h
theorem ex_okE {p : Pg} {n : Nat} (h : PW p n) : ∀ (f x s P : Nat), x ≤ n → okE (ex p f x s P)
  | 0, _, _, _, _ => okE_0
  | _ + 1, 0, _, _, _ => okE_0
  | f + 1, _ + 1, _, _, hx => exB_ok h (ex_okE h f) (by omega)
theorem ex_vs {p : Pg} {n : Nat} {rk dp : Nat → Nat} {ow : Nat → Nat → Nat} (hw : PW p n) (hT : WT p n rk dp ow) (h4 : ∀ i, i < n → p 0 i = 46 ∨ p 0 i = 38 → p 4 i ≠ 0) : ∀ (f x s P : Nat), x ≤ n → VQ p x (ex p f x s P)
  | 0, x, _, _, _ => VQ.z p x
  | _ + 1, 0, _, _, _ => VQ.z p 0
  | f + 1, k + 1, s, P, hx => by
    have hk : k < n := by omega
    obtain ⟨h0, h1, h2, h3, -, h5, h6⟩ := hw.2 k hk
    obtain ⟨-, -, -, hu, hb, -⟩ := hT k hk
    have ih := ex_vs hw hT h4 f
    have ok := ex_okE hw f
    show VQ p (k + 1) (exB p (ex p f) (an p f) k s P)
    have leaf : ∀ c, p 4 k ≠ 0 → VQ p (k + 1) (some (cpl c (p 4 k))) := by
      intro c hn q e
      have e := Option.some.inj e
      unfold cpl at e
      have e1 : c = 1 := congrArg Prod.fst e
      have e2 : (if c = 1 then p 4 k else 0) = q := congrArg Prod.snd e
      rw [if_pos e1] at e2
      subst e2
      exact ⟨Nat.succ_ne_zero k, hn, sb.rf _⟩
    have un : (p 0 k = 42 ∨ p 0 k = 94 ∨ p 0 k = 64 ∨ p 0 k = 126 ∨ p 0 k = 36) → ∀ s P, VQ p (k + 1) (ex p f (p 2 k) s P) := fun t s P => by
      refine (ih (p 2 k) s P h2).up (Nat.succ_ne_zero k) ?_
      show sb (p 4 (p 2 k - 1)) (p 4 k)
      rw [(hu t).2]
      exact sb.rf _
    have b2 : (p 0 k = 63 ∨ p 0 k = 59 ∨ p 0 k = 124) → ∀ s P, VQ p (k + 1) (ex p f (p 2 k) s P) := fun t s P => by
      refine (ih (p 2 k) s P h2).up (Nat.succ_ne_zero k) ?_
      show sb (p 4 (p 2 k - 1)) (p 4 k)
      rw [(hb t).2]
      exact sb.l _ _
    have b3 : (p 0 k = 63 ∨ p 0 k = 59 ∨ p 0 k = 124) → ∀ s P, VQ p (k + 1) (ex p f (p 3 k) s P) := fun t s P => by
      by_cases z : p 3 k = 0
      · rw [z, ex_z]; exact VQ.z _ _
      · refine (ih (p 3 k) s P h3).up (Nat.succ_ne_zero k) ?_
        show sb (p 4 (p 3 k - 1)) (p 4 k)
        rw [(hb t).2, if_neg z]
        exact sb.r _ _
    by_cases t1 : p 0 k = 46
    · rw [exB_46 t1]; exact leaf _ (h4 k hk (Or.inl t1))
    by_cases t2 : p 0 k = 120
    · rw [exB_120 t2]
      intro q e
      have e := congrArg Prod.fst (Option.some.inj e)
      have e : 2 + (p 1 k - 1) = 1 := e
      omega
    by_cases t3 : p 0 k = 38
    · rw [exB_38 t3]; exact leaf _ (h4 k hk (Or.inr t3))
    by_cases t4 : p 0 k = 63
    · rw [exB_63 t4]
      by_cases hz : (if s = ST then P.testBit (p 1 k - 1) else lv p (p 2 k) s) = true
      · rw [if_pos hz]; exact b2 (Or.inl t4) s P
      · rw [if_neg hz]; exact b3 (Or.inl t4) s P
    by_cases t5 : p 0 k = 59
    · rw [exB_59 t5]
      split
      · exact b3 (Or.inr (Or.inl t5)) s P
      · exact VQ.seq (b2 (Or.inr (Or.inl t5)) s P) (b3 (Or.inr (Or.inl t5)) ST P)
    by_cases t6 : p 0 k = 124
    · rw [exB_124 t6]
      have a1 : VQ p (k + 1) (if s = ST ∨ lv p (p 2 k) s = true then ex p f (p 2 k) s P else some (0, 0)) := by
        split
        · exact b2 (Or.inr (Or.inr t6)) s P
        · exact VQ.z _ _
      have a2 : VQ p (k + 1) (if s = ST ∨ lv p (p 3 k) s = true then ex p f (p 3 k) s P else some (0, 0)) := by
        split
        · exact b3 (Or.inr (Or.inr t6)) s P
        · exact VQ.z _ _
      have o1 : okE (if s = ST ∨ lv p (p 2 k) s = true then ex p f (p 2 k) s P else some (0, 0)) := by
        split
        · exact ok _ _ _ h2
        · exact okE_0
      have o2 : okE (if s = ST ∨ lv p (p 3 k) s = true then ex p f (p 3 k) s P else some (0, 0)) := by
        split
        · exact ok _ _ _ h3
        · exact okE_0
      exact VQ.par o1 o2 a1 a2
    by_cases t7 : p 0 k = 42
    · rw [exB_42 t7]
      split
      · exact un (Or.inl t7) s P
      · exact VQ.seq (un (Or.inl t7) s P) (un (Or.inl t7) ST P)
    by_cases t8 : p 0 k = 94
    · rw [exB_94 t8]
      exact VQ.trap (un (Or.inr (Or.inl t8)) s P)
    by_cases t9 : p 0 k = 64
    · rw [exB_64 t9]
      split
      · exact VQ.z _ _
      · exact un (Or.inr (Or.inr (Or.inl t9))) s P
    by_cases t10 : p 0 k = 126
    · rw [exB_126 t10]
      split
      · exact VQ.weak (un (Or.inr (Or.inr (Or.inr (Or.inl t10)))) s P)
      · exact un (Or.inr (Or.inr (Or.inr (Or.inl t10)))) s P
    by_cases t11 : p 0 k = 36
    · rw [exB_36 t11]
      split
      · exact un (Or.inr (Or.inr (Or.inr (Or.inr t11)))) s _
      · split
        · exact un (Or.inr (Or.inr (Or.inr (Or.inr t11)))) s _
        · intro q e; cases e
    rw [exB_z t1 t2 t3 t4 t5 t6 t7 t8 t9 t10 t11]
    exact VQ.z _ _
/-- bounds of what an instant leads to; its next state is one that the program can be in -/
theorem oc_b {p : Pg} {n x s u : Nat} (h : PW p n) (hx : x ≤ n) (hu : u < 256) : (oc p x s u).1 < 256 ∧ (oc p x s u).2.1 < 256 ∧ (oc p x s u).2.2.1 ≤ 256 ∧ (oc p x s u).2.2.2.1 ≤ 6 ∧ (oc p x s u).2.2.2.2.1 < 1048576 ∧ (oc p x s u).2.2.2.2.2 ≤ 9 := by
  have hl := stl_lt (s := s) h hx 9 u 0 hu (by decide)
  have he := ex_okE h 61 x s (stl p x s 9 u 0).1 hx
  unfold oc
  split
  · exact ⟨hu, by show 0 < 256; decide, by show 0 ≤ 256; decide, by show 0 ≤ 6; decide, by show 0 < 1048576; decide, by show 0 ≤ 9; decide⟩
  · split
    · split
      · exact ⟨hl.1, hl.2.1, Nat.le_refl 256, by show 0 ≤ 6; decide, by show 0 < 1048576; decide, hl.2.2⟩
      · rename_i c q e
        obtain ⟨b1, b2, -⟩ := he c q e
        exact ⟨hl.1, hl.2.1, by show 0 ≤ 256; decide, b1, b2, hl.2.2⟩
    · refine ⟨hl.1, hl.2.1, ?_, by show 0 ≤ 6; decide, by show 0 < 1048576; decide, hl.2.2⟩
      show dn 255 _ ≤ 256
      exact Nat.le_trans (dn_le _ _) (by decide)
theorem MI.p4 {σ : am_M} {j n r : Nat} {p : Pg} {rk od dp : Nat → Nat} {ow : Nat → Nat → Nat} (hM : MI σ j p n r rk od dp ow) : ∀ i, i < n → p 0 i = 46 ∨ p 0 i = 38 → p 4 i ≠ 0 := fun i hi ht => by
  obtain ⟨ri, -, -, e⟩ := hM.2.2 i hi ht
  rw [e]
  exact Nat.pos_iff_ne_zero.mp (Nat.pow_pos (by decide))
theorem oc_vs {σ : am_M} {j n r : Nat} {p : Pg} {rk od dp : Nat → Nat} {ow : Nat → Nat → Nat} (hM : MI σ j p n r rk od dp ow) (s : Nat) {u : Nat} (hu : u < 256) : VS p r (oc p (r + 1) s u).2.2.2.2.1 := by
  have hW := hM.1.2.1
  have hr : r < n := hM.2.1.2.1
  refine ⟨Nat.le_of_lt (oc_b hW (by omega) hu).2.2.2.2.1, ?_⟩
  have hv := ex_vs hW hM.1.2.2.1 hM.p4 61 (r + 1) s (stl p (r + 1) s 9 u 0).1 (by omega)
  have ho := ex_okE hW 61 (r + 1) s (stl p (r + 1) s 9 u 0).1 (by omega)
  unfold oc
  split
  · exact Or.inl rfl
  · split
    · split
      · exact Or.inl rfl
      · rename_i c q e
        show q = 0 ∨ q = ST ∨ _
        obtain ⟨-, -, b⟩ := ho c q e
        by_cases z : c = 1
        · subst z
          obtain ⟨-, q0, hs⟩ := hv q e
          refine Or.inr (Or.inr ?_)
          rw [lv_s]
          intro z
          apply q0
          apply Nat.eq_of_testBit_eq
          intro i
          rw [Nat.zero_testBit]
          cases hb : q.testBit i
          · rfl
          · have := congrArg (fun t => Nat.testBit t i) z
            simp only [Nat.testBit_and, Nat.zero_testBit, hb, Bool.and_true] at this
            rw [show (p 4 r).testBit i = true from hs i hb] at this
            cases this
        · exact Or.inl (b.resolve_left z)
    · exact Or.inl rfl
/-- a place that has a program -/
def FI (σ : am_M) (j q : Nat) : Prop := σ.1 q 2 = nI 1 ∧ ∃ p n r kk rk od dp ow s m, PP σ j q p n r kk rk od dp ow ∧ HS σ j q p r s m
/-- a number that is no place, or one with no program -/
def NF (σ : am_M) (x : Int32) : Prop := (x < 0 ∨ (¬ x < 0 ∧ nI 1 < x)) ∨ (x = nI 0 ∧ σ.1 73 2 = nI 0 ∧ σ.1 2 0 = nI 0) ∨ (x = nI 1 ∧ σ.1 75 2 = nI 0 ∧ σ.1 2 1 = nI 0)
theorem pl_cases {σ : am_M} (hI : Inv σ) (x : Int32) : NF σ x ∨ (x = nI 0 ∧ FI σ 0 73) ∨ (x = nI 1 ∧ FI σ 1 75) := by
  obtain ⟨-, -, -, -, h0, h1⟩ := hI
  rcases i32_in x (k := 1) (by decide) with ⟨u, hu, rfl⟩ | hx
  · rcases (show u = 0 ∨ u = 1 by omega) with rfl | rfl
    · rcases h0 with h | h
      · exact Or.inl (Or.inr (Or.inl ⟨rfl, h⟩))
      · exact Or.inr (Or.inl ⟨rfl, h⟩)
    · rcases h1 with h | h
      · exact Or.inl (Or.inr (Or.inr ⟨rfl, h⟩))
      · exact Or.inr (Or.inr ⟨rfl, h⟩)
  · exact Or.inl (Or.inl hx)
theorem c_nf {d : Nat} (hd : 3 ≤ d) {σ : am_M} {x : Int32} (h : NF σ x) {Q : am_Q} (hq : Q (some .null) σ) : am_C d 140 [.ref 41, .int x] σ Q := by
  rcases h with h | ⟨rfl, h, -⟩ | ⟨rfl, h, -⟩
  · exact c_filled_out hd h hq
  · exact c_filled0_0 hd h hq
  · exact c_filled1_0 hd h hq
theorem c_np {d : Nat} (hd : 3 ≤ d) {σ : am_M} {x : Int32} (h : NF σ x) {Q : am_Q} (hq : Q (some (.int (nI 0))) σ) : am_C d 151 [.ref 0, .int x] σ Q := by
  rcases h with h | ⟨rfl, -, h⟩ | ⟨rfl, -, h⟩
  · exact c_prog_out hd h hq
  · exact c_prog0_0 hd h hq
  · exact c_prog1_0 hd h hq
/-- all that the invariant looks at is as it was, but state and history of the place q, j -/
def KJ (σ σ' : am_M) (j q : Nat) : Prop := (∀ c, (1 ≤ c ∧ c ≤ 16) ∨ (41 ≤ c ∧ c ≤ 43) ∨ (45 ≤ c ∧ c ≤ 76 ∧ c ≠ q ∧ c ≠ q + 1) → σ'.1 c = σ.1 c) ∧ σ'.1 q 2 = σ.1 q 2 ∧ (∀ k, k < 38 ∨ 60 < k → σ'.1 0 k = σ.1 0 k) ∧ (∀ k, k ≠ j → σ'.1 17 k = σ.1 17 k ∧ σ'.1 19 k = σ.1 19 k) ∧ (∀ k, k < 20 * j ∨ 20 * j + 20 ≤ k → σ'.1 18 k = σ.1 18 k) ∧ (∀ c, c ≠ 83 → σ'.2 c = σ.2 c) ∧ (GS σ → GS σ')
theorem Inv.hs {σ σ' : am_M} (hI : Inv σ) {j q : Nat} (hj : (j = 0 ∧ q = 73) ∨ (j = 1 ∧ q = 75)) (hK : KJ σ σ' j q) (hf : σ.1 q 2 = nI 1) {p : Pg} {n r kk : Nat} {rk od dp : Nat → Nat} {ow : Nat → Nat → Nat} (hP : PP σ j q p n r kk rk od dp ow) {s m : Nat} (hH : HS σ' j q p r s m) : Inv σ' := by
  obtain ⟨⟨L, hX⟩, hf1, ht, hg, h0, h1⟩ := hI
  obtain ⟨k1, k2, k3, k4, k5, k6, k7⟩ := hK
  have e44 := k6 44 (by decide)
  have e73 := k6 73 (by decide)
  have e75 := k6 75 (by decide)
  have hT : TS σ' := by
    unfold TS
    rw [e44, e73, e75]
    exact ht
  have hXT : XT σ' L := by
    unfold XT
    rw [k1 42 (by omega), k1 43 (by omega), k1 1 (by omega), k3 1 (by omega)]
    exact hX
  have me : PL σ' j q := Or.inr ⟨by rw [k2]; exact hf, p, n, r, kk, rk, od, dp, ow, s, m, hP.keep (fun c a => k1 c (by omega)) (k6 q (by omega)), hH⟩
  refine ⟨⟨L, hXT⟩, by rw [k1 41 (by omega), k3 2 (by omega)]; exact hf1, hT, k7 hg, ?_⟩
  rcases hj with ⟨rfl, rfl⟩ | ⟨rfl, rfl⟩
  · exact ⟨me, h1.keep (fun c a => k1 c (by omega)) e75 (k1 75 (by omega)) (k1 76 (by omega)) (k4 1 (by decide)).1 (k4 1 (by decide)).2 (fun i hi => k5 _ (by omega))⟩
  · exact ⟨h0.keep (fun c a => k1 c (by omega)) e73 (k1 73 (by omega)) (k1 74 (by omega)) (k4 0 (by decide)).1 (k4 0 (by decide)).2 (fun i hi => k5 _ (by omega)), me⟩
theorem KI.KJ {σ σ' : am_M} (h : KI σ σ') {j q : Nat} (hq : q = 73 ∨ q = 75) : KJ σ σ' j q := ⟨fun c a => h.1 c (by omega), by rw [h.1 q (by omega)], h.2.1, fun k _ => ⟨by rw [h.1 17 (by omega)], by rw [h.1 19 (by omega)]⟩, fun k _ => by rw [h.1 18 (by omega)], h.2.2.1, h.2.2.2⟩
theorem KJ.tr {σ σ' σ'' : am_M} {j q : Nat} (h : KJ σ σ' j q) (h' : KJ σ' σ'' j q) : KJ σ σ'' j q := ⟨fun c a => (h'.1 c a).trans (h.1 c a), h'.2.1.trans h.2.1, fun k a => (h'.2.2.1 k a).trans (h.2.2.1 k a), fun k a => ⟨((h'.2.2.2.1 k a).1).trans (h.2.2.2.1 k a).1, ((h'.2.2.2.1 k a).2).trans (h.2.2.2.1 k a).2⟩, fun k a => (h'.2.2.2.2.1 k a).trans (h.2.2.2.2.1 k a), fun c a => (h'.2.2.2.2.2.1 c a).trans (h.2.2.2.2.2.1 c a), fun g => h'.2.2.2.2.2.2 (h.2.2.2.2.2.2 g)⟩
theorem KJ.rf (σ : am_M) (j q : Nat) : KJ σ σ j q := ⟨fun _ _ => rfl, rfl, fun _ _ => rfl, fun _ _ => ⟨rfl, rfl⟩, fun _ _ => rfl, fun _ _ => rfl, id⟩
section KJw
variable {σ σ' : am_M} {j q : Nat}
theorem KJ.w3 (hq : q = 73 ∨ q = 75) (h : KJ σ σ' j q) {k : Nat} (hk : k ≠ 2) (x : Int32) : KJ σ (am_wr σ' q k x) j q := by
  refine h.tr ⟨fun c a => am_wr_ne _ (by omega), by rw [am_diff _ _ _ _ _ (by omega)], fun k a => by rw [am_wr_ne _ (by omega)], fun k a => ⟨by rw [am_wr_ne _ (by omega)], by rw [am_wr_ne _ (by omega)]⟩, fun k a => by rw [am_wr_ne _ (by omega)], fun c a => rfl, fun g => g⟩
theorem KJ.wB (hq : q = 73 ∨ q = 75) (h : KJ σ σ' j q) (k : Nat) (x : Int32) : KJ σ (am_wr σ' (q + 1) k x) j q := by
  refine h.tr ⟨fun c a => am_wr_ne _ (by omega), by rw [am_wr_ne _ (by omega)], fun k a => by rw [am_wr_ne _ (by omega)], fun k a => ⟨by rw [am_wr_ne _ (by omega)], by rw [am_wr_ne _ (by omega)]⟩, fun k a => by rw [am_wr_ne _ (by omega)], fun c a => rfl, fun g => g⟩
theorem KJ.w17 (hq : q = 73 ∨ q = 75) (h : KJ σ σ' j q) (x : Int32) : KJ σ (am_wr σ' 17 j x) j q := by
  refine h.tr ⟨fun c a => am_wr_ne _ (by omega), by rw [am_wr_ne _ (by omega)], fun k a => by rw [am_wr_ne _ (by omega)], fun k a => ⟨by rw [am_diff _ _ _ _ _ a], by rw [am_wr_ne _ (by omega)]⟩, fun k a => by rw [am_wr_ne _ (by omega)], fun c a => rfl, fun g => g⟩
theorem KJ.w19 (hq : q = 73 ∨ q = 75) (h : KJ σ σ' j q) (x : Int32) : KJ σ (am_wr σ' 19 j x) j q := by
  refine h.tr ⟨fun c a => am_wr_ne _ (by omega), by rw [am_wr_ne _ (by omega)], fun k a => by rw [am_wr_ne _ (by omega)], fun k a => ⟨by rw [am_wr_ne _ (by omega)], by rw [am_diff _ _ _ _ _ a]⟩, fun k a => by rw [am_wr_ne _ (by omega)], fun c a => rfl, fun g => g⟩
theorem KJ.w18 (hq : q = 73 ∨ q = 75) (h : KJ σ σ' j q) {k : Nat} (hk : 20 * j ≤ k ∧ k < 20 * j + 20) (x : Int32) : KJ σ (am_wr σ' 18 k x) j q := by
  refine h.tr ⟨fun c a => am_wr_ne _ (by omega), by rw [am_wr_ne _ (by omega)], fun k a => by rw [am_wr_ne _ (by omega)], fun k a => ⟨by rw [am_wr_ne _ (by omega)], by rw [am_wr_ne _ (by omega)]⟩, fun k a => by rw [am_diff _ _ _ _ _ (by omega)], fun c a => rfl, fun g => g⟩
end KJw

/-! waiting -/
def dcd (p : Pg) (x s P A g : Nat) : Bool := (an p 61 x s true P A).1.testBit g || !(an p 61 x s true P A).2.1.testBit g
def wt1 (p : Pg) (x s P A g t : Nat) : Bool := dcd p x s (P ||| 2 ^ t) A g || dcd p x s P (A ||| 2 ^ t) g
def wfk (p : Pg) (x s W P A g : Nat) : Nat → Nat
  | 0 => 0
  | t + 1 => if W.testBit t = true ∧ wt1 p x s P A g t = true then wfk p x s W P A g t ||| 2 ^ t else wfk p x s W P A g t
def wfs (p : Pg) (x s W P A g : Nat) : Nat := if W.testBit g = true then wfk p x s W P A g 8 else 0
theorem wfk_lt (p : Pg) (x s W P A g : Nat) : ∀ t, t ≤ 8 → wfk p x s W P A g t < 256
  | 0, _ => by show 0 < 256; decide
  | t + 1, h => by
    have := wfk_lt p x s W P A g t (by omega)
    unfold wfk
    split
    · exact or_lt8 this (pow_lt_256 (by omega))
    · exact this
theorem wfs_lt (p : Pg) (x s W P A g : Nat) : wfs p x s W P A g < 256 := by
  unfold wfs
  split
  · exact wfk_lt _ _ _ _ _ _ _ 8 (Nat.le_refl 8)
  · decide
theorem and_bit1 {W k : Nat} (h : W.testBit k = true) : W &&& 2 ^ k = 2 ^ k := by
  apply Nat.eq_of_testBit_eq
  intro i
  rw [Nat.testBit_and, Nat.testBit_two_pow]
  by_cases e : k = i
  · subst e; rw [h]; rfl
  · simp [e]
theorem oc_w (p : Pg) (x s u : Nat) : (oc p x s u).2.2.1 = 0 ∨ (oc p x s u).2.2.1 = 256 ∨ ((oc p x s u).2.2.1 = dn 255 ((oc p x s u).1 ||| (oc p x s u).2.1) ∧ ¬ (oc p x s u).2.2.1 = 0 ∧ ¬ s = 0) := by
  unfold oc
  split
  · exact Or.inl rfl
  · split
    · split
      · exact Or.inr (Or.inl rfl)
      · exact Or.inl rfl
    · rename_i h0 h1
      exact Or.inr (Or.inr ⟨rfl, h1, h0⟩)
theorem oc_ri {p : Pg} {n x s u : Nat} (h : PW p n) (hx : x ≤ n) : dj (oc p x s u).1 (oc p x s u).2.1 := by
  have hr := (stl_ri (s := s) h hx 9 u 0 (ri_0 p x s u)).1
  unfold oc
  split
  · intro i q
    have := q.2
    rw [show (u, 0, 0, 0, 0, 0).2.1 = 0 from rfl, Nat.zero_testBit] at this
    cases this
  · split
    · split <;> exact hr
    · exact hr
set_option maxRecDepth 10000 in
set_option maxHeartbeats 2000000 in
theorem c_decides {d : Nat} (hd : 400 ≤ d) {σ : am_M} {t n x s P A P1 A1 g : Nat} {p : Pg} (hW : PW p n) (hR : TR σ t p n) (hx : x ≤ n) (hro : ROOT σ t x) (hs : s ≤ 1048576) (hP : P < 256) (hA : A < 256) (hP1 : P1 < 256) (hA1 : A1 < 256) (hg : g < 8) (o0 : σ.1 77 0 = nI (P + 256 * A)) {Q : am_Q} (h1 : dcd p x s (P ||| P1) (A ||| A1) g = true → Q (some (.int (nI 1))) σ) (h0 : dcd p x s (P ||| P1) (A ||| A1) g = false → Q (some (.int (nI 0))) σ) : am_C d 62 [.ref 77, .ref t, .int (nI s), .int (nI (2 ^ g)), .int (nI (P1 + 256 * A1))] σ Q := by
  refine am_enter' (M := M_X3_decides) rfl rfl rfl (by omega) (ls := [some (.ref 77), some (.ref t), some (.int (nI s)), some (.int (nI (2 ^ g))), some (.int (nI (P1 + 256 * A1))), none]) rfl (fun d' hd' => ?_)
  refine am_run 4 (pc' := 6) (ls' := [some (.ref 77), some (.ref t), some (.int (nI s)), some (.int (nI (2 ^ g))), some (.int (nI (P1 + 256 * A1))), none]) (st' := [.int (σ.1 77 0), .int (nI s), .ref t]) (σ' := σ) rfl ?_
  refine am_top (v' := nI (P + 256 * A)) o0 ?_
  refine am_run 2 (pc' := 9) (ls' := [some (.ref 77), some (.ref t), some (.int (nI s)), some (.int (nI (2 ^ g))), some (.int (nI (P1 + 256 * A1))), none]) (st' := [.int (nI (P + 256 * A) ||| nI (P1 + 256 * A1)), .int (nI s), .ref t]) (σ' := σ) rfl ?_
  refine am_top (v' := nI ((P ||| P1) + 256 * (A ||| A1))) (by rw [nx_or, pq_or hP hP1]) ?_
  refine am_invs (y := 0) (as := [.ref t, .int (nI s), .int (nI ((P ||| P1) + 256 * (A ||| A1)))]) (rest := []) rfl rfl rfl rfl rfl rfl (Nat.le_of_ble_eq_true rfl) ?_
  refine c_a_ofProgram (by omega) hW hR hx hro hs (or_lt8 hP hP1) (or_lt8 hA hA1) (fun r1 hr1 ok1 => ?_)
  obtain ⟨c1, c2, c3, c4⟩ := id ok1
  have hdc : dcd p x s (P ||| P1) (A ||| A1) g = (r1.1.testBit g || !r1.2.1.testBit g) := by unfold dcd; rw [hr1]
  show am_G _ M_X3_decides _ 12 [some (.ref 77), some (.ref t), some (.int (nI s)), some (.int (nI (2 ^ g))), some (.int (nI (P1 + 256 * A1))), none] [.int (nI (eC r1))] σ
  refine am_run 2 (pc' := 16) (ls' := [some (.ref 77), some (.ref t), some (.int (nI s)), some (.int (nI (2 ^ g))), some (.int (nI (P1 + 256 * A1))), some (.int (nI (eC r1)))]) (st' := [.int (nI (eC r1))]) (σ' := σ) rfl ?_
  refine am_invs (y := 3) (as := [.int (nI (eC r1))]) (rest := []) rfl rfl rfl rfl rfl rfl (Nat.le_of_ble_eq_true rfl) ?_
  refine c_a_must (by omega) ok1 ?_
  show am_G _ M_X3_decides _ 19 [some (.ref 77), some (.ref t), some (.int (nI s)), some (.int (nI (2 ^ g))), some (.int (nI (P1 + 256 * A1))), some (.int (nI (eC r1)))] [.int (nI (r1.1 + 256 * r1.2.2.1))] σ
  refine am_run 2 (pc' := 21) (ls' := [some (.ref 77), some (.ref t), some (.int (nI s)), some (.int (nI (2 ^ g))), some (.int (nI (P1 + 256 * A1))), some (.int (nI (eC r1)))]) (st' := [.int (nI (r1.1 + 256 * r1.2.2.1) &&& nI (2 ^ g))]) (σ' := σ) rfl ?_
  refine am_if (ty := 24) (tn := 34) rfl (by decide) rfl rfl (fun (h_1 : nI (r1.1 + 256 * r1.2.2.1) &&& nI (2 ^ g) = 0) => ?_) (fun (h_1 : ¬ (nI (r1.1 + 256 * r1.2.2.1) &&& nI (2 ^ g) = 0)) => ?_)
  · have h_1 : r1.1.testBit g = false := (pq_hasS c1 (by omega) hg).mp h_1
    refine am_run 1 (pc' := 26) (ls' := [some (.ref 77), some (.ref t), some (.int (nI s)), some (.int (nI (2 ^ g))), some (.int (nI (P1 + 256 * A1))), some (.int (nI (eC r1)))]) (st' := [.int (nI (eC r1))]) (σ' := σ) rfl ?_
    refine am_invs (y := 4) (as := [.int (nI (eC r1))]) (rest := []) rfl rfl rfl rfl rfl rfl (Nat.le_of_ble_eq_true rfl) ?_
    refine c_a_can (by omega) ok1 ?_
    show am_G _ M_X3_decides _ 29 [some (.ref 77), some (.ref t), some (.int (nI s)), some (.int (nI (2 ^ g))), some (.int (nI (P1 + 256 * A1))), some (.int (nI (eC r1)))] [.int (nI (r1.2.1 + 256 * r1.2.2.2))] σ
    refine am_run 2 (pc' := 31) (ls' := [some (.ref 77), some (.ref t), some (.int (nI s)), some (.int (nI (2 ^ g))), some (.int (nI (P1 + 256 * A1))), some (.int (nI (eC r1)))]) (st' := [.int (nI (r1.2.1 + 256 * r1.2.2.2) &&& nI (2 ^ g))]) (σ' := σ) rfl ?_
    refine am_if (ty := 34) (tn := 38) rfl (by decide) rfl rfl (fun (h_2 : nI (r1.2.1 + 256 * r1.2.2.2) &&& nI (2 ^ g) = 0) => ?_) (fun (h_2 : ¬ (nI (r1.2.1 + 256 * r1.2.2.2) &&& nI (2 ^ g) = 0)) => ?_)
    · have h_2 : r1.2.1.testBit g = false := (pq_hasS c2 (by omega) hg).mp h_2
      refine am_run 2 (pc' := 39) (ls' := [some (.ref 77), some (.ref t), some (.int (nI s)), some (.int (nI (2 ^ g))), some (.int (nI (P1 + 256 * A1))), some (.int (nI (eC r1)))]) (st' := [.int (nI 1)]) (σ' := σ) rfl ?_
      refine am_retz rfl rfl (by decide) ?_
      exact h1 (by rw [hdc]; simp [*])
    · have h_2 : r1.2.1.testBit g = true := by
        rcases bt (r1.2.1.testBit g) with z | z
        · exact z
        · exact absurd ((pq_hasS c2 (by omega) hg).mpr z) h_2
      refine am_run 1 (pc' := 39) (ls' := [some (.ref 77), some (.ref t), some (.int (nI s)), some (.int (nI (2 ^ g))), some (.int (nI (P1 + 256 * A1))), some (.int (nI (eC r1)))]) (st' := [.int (nI 0)]) (σ' := σ) rfl ?_
      refine am_retz rfl rfl (by decide) ?_
      exact h0 (by rw [hdc]; simp [*])
  · have h_1 : r1.1.testBit g = true := by
      rcases bt (r1.1.testBit g) with z | z
      · exact z
      · exact absurd ((pq_hasS c1 (by omega) hg).mpr z) h_1
    refine am_run 2 (pc' := 39) (ls' := [some (.ref 77), some (.ref t), some (.int (nI s)), some (.int (nI (2 ^ g))), some (.int (nI (P1 + 256 * A1))), some (.int (nI (eC r1)))]) (st' := [.int (nI 1)]) (σ' := σ) rfl ?_
    refine am_retz rfl rfl (by decide) ?_
    exact h1 (by rw [hdc]; simp [*])
set_option maxRecDepth 10000 in
set_option maxHeartbeats 2000000 in
theorem c_waited_loop {d : Nat} (hd : 402 ≤ d) {σ : am_M} {t n x s W P A g : Nat} {p : Pg} (hW : PW p n) (hR : TR σ t p n) (hx : x ≤ n) (hro : ROOT σ t x) (hs : s ≤ 1048576) (hP : P < 256) (hA : A < 256) (hg : g < 8) (hW9 : W < 512) (o0 : σ.1 77 0 = nI (P + 256 * A)) (o1 : σ.1 77 1 = nI W) {Q : am_Q} (hq : Q (some (.int (nI (wfk p x s W P A g 8)))) σ) : ∀ (m k : Nat) (v7 : Option Value), k + m = 8 → am_G d M_X3_waitedFor Q 30 [some (.ref 77), some (.ref t), some (.int (nI s)), some (.int (nI g)), some (.int (nI (2 ^ g))), some (.int (nI (wfk p x s W P A g k))), some (.int (nI k)), v7] [] σ
  | 0, k, v7, hm => by
    have e : k = 8 := by omega
    subst e
    refine am_run 2 (pc' := 34) (ls' := [some (.ref 77), some (.ref t), some (.int (nI s)), some (.int (nI g)), some (.int (nI (2 ^ g))), some (.int (nI (wfk p x s W P A g 8))), some (.int (nI 8)), v7]) (st' := [.int (nI 8), .int (nI 8)]) (σ' := σ) rfl ?_
    refine am_ic (ty := 37) (tn := 105) rfl (by decide) rfl rfl (fun (h_1 : nI 8 < nI 8) => ?_) (fun (h_1 : ¬ (nI 8 < nI 8)) => ?_)
    · exact absurd h_1 (by decide)
    refine am_run 1 (pc' := 107) (ls' := [some (.ref 77), some (.ref t), some (.int (nI s)), some (.int (nI g)), some (.int (nI (2 ^ g))), some (.int (nI (wfk p x s W P A g 8))), some (.int (nI 8)), v7]) (st' := [.int (nI (wfk p x s W P A g 8))]) (σ' := σ) rfl ?_
    refine am_reti rfl rfl ?_
    exact hq
  | m + 1, k, v7, hm => by
    have hg2 := pow_lt_256 hg
    have hgp : 0 < 2 ^ g := Nat.pow_pos (by decide)
    have hk2 : 2 ^ k < 256 := pow_lt_256 (by omega)
    have hkp : 0 < 2 ^ k := Nat.pow_pos (by decide)
    have hwl := wfk_lt p x s W P A g k (by omega)
    rcases bt (W.testBit k) with hb | hb
    · skip
      refine am_run 2 (pc' := 34) (ls' := [some (.ref 77), some (.ref t), some (.int (nI s)), some (.int (nI g)), some (.int (nI (2 ^ g))), some (.int (nI (wfk p x s W P A g k))), some (.int (nI k)), v7]) (st' := [.int (nI 8), .int (nI k)]) (σ' := σ) rfl ?_
      refine am_ic (ty := 37) (tn := 105) rfl (by decide) rfl rfl (fun (h_1 : nI k < nI 8) => ?_) (fun (h_1 : ¬ (nI k < nI 8)) => ?_)
      rotate_left
      · have h_1 : ¬ (k < 8) := fun z => h_1 ((nI_ltI (by omega) (by omega)).mpr z)
        omega
      have h_1 : k < 8 := (nI_ltI (by omega) (by omega)).mp h_1
      refine am_run 1 (pc' := 39) (ls' := [some (.ref 77), some (.ref t), some (.int (nI s)), some (.int (nI g)), some (.int (nI (2 ^ g))), some (.int (nI (wfk p x s W P A g k))), some (.int (nI k)), v7]) (st' := [.int (nI (2 ^ g))]) (σ' := σ) rfl ?_
      refine am_if (ty := 105) (tn := 42) rfl (by decide) rfl rfl (fun (h_2 : nI (2 ^ g) = 0) => ?_) (fun (h_2 : ¬ (nI (2 ^ g) = 0)) => ?_)
      · have h_2 : 2 ^ g = 0 := (am_n0 (by omega)).mp h_2
        omega
      have h_2 : ¬ (2 ^ g = 0) := fun z => h_2 ((am_n0 (by omega)).mpr z)
      refine am_run 2 (pc' := 46) (ls' := [some (.ref 77), some (.ref t), some (.int (nI s)), some (.int (nI g)), some (.int (nI (2 ^ g))), some (.int (nI (wfk p x s W P A g k))), some (.int (nI k)), v7]) (st' := [.int (σ.1 77 1)]) (σ' := σ) rfl ?_
      refine am_top (v' := nI W) o1 ?_
      refine am_run 3 (pc' := 50) (ls' := [some (.ref 77), some (.ref t), some (.int (nI s)), some (.int (nI g)), some (.int (nI (2 ^ g))), some (.int (nI (wfk p x s W P A g k))), some (.int (nI k)), v7]) (st' := [.int ((nI 1) <<< ((nI k) &&& 31)), .int (nI W)]) (σ' := σ) rfl ?_
      refine am_top (v' := nI (2 ^ k)) (by rw [nx_shl _ (by omega), Nat.one_mul]) ?_
      refine am_run 1 (pc' := 51) (ls' := [some (.ref 77), some (.ref t), some (.int (nI s)), some (.int (nI g)), some (.int (nI (2 ^ g))), some (.int (nI (wfk p x s W P A g k))), some (.int (nI k)), v7]) (st' := [.int (nI W &&& nI (2 ^ k))]) (σ' := σ) rfl ?_
      refine am_top (v' := nI (2 ^ k)) (by rw [nx_and, and_bit1 hb]) ?_
      refine am_run 2 (pc' := 55) (ls' := [some (.ref 77), some (.ref t), some (.int (nI s)), some (.int (nI g)), some (.int (nI (2 ^ g))), some (.int (nI (wfk p x s W P A g k))), some (.int (nI k)), some (.int (nI (2 ^ k)))]) (st' := [.int (nI (2 ^ k))]) (σ' := σ) rfl ?_
      refine am_if (ty := 99) (tn := 58) rfl (by decide) rfl rfl (fun (h_3 : nI (2 ^ k) = 0) => ?_) (fun (h_3 : ¬ (nI (2 ^ k) = 0)) => ?_)
      · have h_3 : 2 ^ k = 0 := (am_n0 (by omega)).mp h_3
        omega
      have h_3 : ¬ (2 ^ k = 0) := fun z => h_3 ((am_n0 (by omega)).mpr z)
      refine am_run 6 (pc' := 66) (ls' := [some (.ref 77), some (.ref t), some (.int (nI s)), some (.int (nI g)), some (.int (nI (2 ^ g))), some (.int (nI (wfk p x s W P A g k))), some (.int (nI k)), some (.int (nI (2 ^ k)))]) (st' := [.int (nI 0), .int (nI (2 ^ k)), .int (nI (2 ^ g)), .int (nI s), .ref t, .ref 77]) (σ' := σ) rfl ?_
      refine am_invs (y := 2) (as := [.int (nI (2 ^ k)), .int (nI 0)]) (rest := [.int (nI (2 ^ g)), .int (nI s), .ref t, .ref 77]) rfl rfl rfl rfl rfl rfl (Nat.le_of_ble_eq_true rfl) ?_
      refine c_a_knowledge (by omega) (a := 2 ^ k) (b := 0) (by omega) ?_
      show am_G _ M_X3_waitedFor _ 69 [some (.ref 77), some (.ref t), some (.int (nI s)), some (.int (nI g)), some (.int (nI (2 ^ g))), some (.int (nI (wfk p x s W P A g k))), some (.int (nI k)), some (.int (nI (2 ^ k)))] [.int (nI (2 ^ k + 256 * 0)), .int (nI (2 ^ g)), .int (nI s), .ref t, .ref 77] σ
      refine am_invv (y := 62) (b := 77) (as := [.ref t, .int (nI s), .int (nI (2 ^ g)), .int (nI (2 ^ k + 256 * 0))]) (rest := []) rfl rfl rfl rfl rfl rfl rfl (Nat.le_of_ble_eq_true rfl) ?_
      refine c_decides (P1 := 2 ^ k) (A1 := 0) (by omega) hW hR hx hro hs hP hA (by omega) (by omega) hg o0 (fun hdc_4 => ?_) (fun hdc_4 => ?_)
      · have hdc_4 : dcd p x s (P ||| 2 ^ k) A g = true := by rw [Nat.or_zero] at hdc_4; exact hdc_4
        show am_G _ M_X3_waitedFor _ 72 [some (.ref 77), some (.ref t), some (.int (nI s)), some (.int (nI g)), some (.int (nI (2 ^ g))), some (.int (nI (wfk p x s W P A g k))), some (.int (nI k)), some (.int (nI (2 ^ k)))] [.int (nI 1)] σ
        refine am_if (ty := 75) (tn := 92) rfl (by decide) rfl rfl (fun (h_5 : nI 1 = 0) => ?_) (fun (h_5 : ¬ (nI 1 = 0)) => ?_)
        · exact absurd h_5 (by decide)
        refine am_run 3 (pc' := 97) (ls' := [some (.ref 77), some (.ref t), some (.int (nI s)), some (.int (nI g)), some (.int (nI (2 ^ g))), some (.int (nI (wfk p x s W P A g k))), some (.int (nI k)), some (.int (nI (2 ^ k)))]) (st' := [.int (nI (wfk p x s W P A g k) ||| nI (2 ^ k))]) (σ' := σ) rfl ?_
        refine am_top (v' := nI (wfk p x s W P A g k ||| 2 ^ k)) (nx_or _ _) ?_
        refine am_run 2 (pc' := 102) (ls' := [some (.ref 77), some (.ref t), some (.int (nI s)), some (.int (nI g)), some (.int (nI (2 ^ g))), some (.int (nI (wfk p x s W P A g k ||| 2 ^ k))), some (.int (nI k + nI 1)), some (.int (nI (2 ^ k)))]) (st' := []) (σ' := σ) rfl ?_
        refine am_ls (ls' := [some (.ref 77), some (.ref t), some (.int (nI s)), some (.int (nI g)), some (.int (nI (2 ^ g))), some (.int (nI (wfk p x s W P A g k ||| 2 ^ k))), some (.int (nI (k + 1))), some (.int (nI (2 ^ k)))]) (by rw [nI_add]) ?_
        refine am_run 1 (pc' := 30) (ls' := [some (.ref 77), some (.ref t), some (.int (nI s)), some (.int (nI g)), some (.int (nI (2 ^ g))), some (.int (nI (wfk p x s W P A g k ||| 2 ^ k))), some (.int (nI (k + 1))), some (.int (nI (2 ^ k)))]) (st' := []) (σ' := σ) rfl ?_
        have e : wfk p x s W P A g (k + 1) = wfk p x s W P A g k ||| 2 ^ k := if_pos ⟨hb, by unfold wt1; simp [*]⟩
        refine am_ls (ls' := [some (.ref 77), some (.ref t), some (.int (nI s)), some (.int (nI g)), some (.int (nI (2 ^ g))), some (.int (nI (wfk p x s W P A g (k + 1)))), some (.int (nI (k + 1))), some (.int (nI (2 ^ k)))]) (by rw [e]) ?_
        exact c_waited_loop hd hW hR hx hro hs hP hA hg hW9 o0 o1 hq m (k + 1) _ (by omega)
      · have hdc_4 : dcd p x s (P ||| 2 ^ k) A g = false := by rw [Nat.or_zero] at hdc_4; exact hdc_4
        show am_G _ M_X3_waitedFor _ 72 [some (.ref 77), some (.ref t), some (.int (nI s)), some (.int (nI g)), some (.int (nI (2 ^ g))), some (.int (nI (wfk p x s W P A g k))), some (.int (nI k)), some (.int (nI (2 ^ k)))] [.int (nI 0)] σ
        refine am_if (ty := 75) (tn := 92) rfl (by decide) rfl rfl (fun (h_6 : nI 0 = 0) => ?_) (fun (h_6 : ¬ (nI 0 = 0)) => ?_)
        rotate_left
        · exact absurd (by decide) h_6
        refine am_run 6 (pc' := 83) (ls' := [some (.ref 77), some (.ref t), some (.int (nI s)), some (.int (nI g)), some (.int (nI (2 ^ g))), some (.int (nI (wfk p x s W P A g k))), some (.int (nI k)), some (.int (nI (2 ^ k)))]) (st' := [.int (nI (2 ^ k)), .int (nI 0), .int (nI (2 ^ g)), .int (nI s), .ref t, .ref 77]) (σ' := σ) rfl ?_
        refine am_invs (y := 2) (as := [.int (nI 0), .int (nI (2 ^ k))]) (rest := [.int (nI (2 ^ g)), .int (nI s), .ref t, .ref 77]) rfl rfl rfl rfl rfl rfl (Nat.le_of_ble_eq_true rfl) ?_
        refine c_a_knowledge (by omega) (a := 0) (b := 2 ^ k) (by omega) ?_
        show am_G _ M_X3_waitedFor _ 86 [some (.ref 77), some (.ref t), some (.int (nI s)), some (.int (nI g)), some (.int (nI (2 ^ g))), some (.int (nI (wfk p x s W P A g k))), some (.int (nI k)), some (.int (nI (2 ^ k)))] [.int (nI (0 + 256 * 2 ^ k)), .int (nI (2 ^ g)), .int (nI s), .ref t, .ref 77] σ
        refine am_invv (y := 62) (b := 77) (as := [.ref t, .int (nI s), .int (nI (2 ^ g)), .int (nI (0 + 256 * 2 ^ k))]) (rest := []) rfl rfl rfl rfl rfl rfl rfl (Nat.le_of_ble_eq_true rfl) ?_
        refine c_decides (P1 := 0) (A1 := 2 ^ k) (by omega) hW hR hx hro hs hP hA (by omega) (by omega) hg o0 (fun hdc_7 => ?_) (fun hdc_7 => ?_)
        · have hdc_7 : dcd p x s P (A ||| 2 ^ k) g = true := by rw [Nat.or_zero] at hdc_7; exact hdc_7
          show am_G _ M_X3_waitedFor _ 89 [some (.ref 77), some (.ref t), some (.int (nI s)), some (.int (nI g)), some (.int (nI (2 ^ g))), some (.int (nI (wfk p x s W P A g k))), some (.int (nI k)), some (.int (nI (2 ^ k)))] [.int (nI 1)] σ
          refine am_if (ty := 99) (tn := 92) rfl (by decide) rfl rfl (fun (h_8 : nI 1 = 0) => ?_) (fun (h_8 : ¬ (nI 1 = 0)) => ?_)
          · exact absurd h_8 (by decide)
          refine am_run 3 (pc' := 97) (ls' := [some (.ref 77), some (.ref t), some (.int (nI s)), some (.int (nI g)), some (.int (nI (2 ^ g))), some (.int (nI (wfk p x s W P A g k))), some (.int (nI k)), some (.int (nI (2 ^ k)))]) (st' := [.int (nI (wfk p x s W P A g k) ||| nI (2 ^ k))]) (σ' := σ) rfl ?_
          refine am_top (v' := nI (wfk p x s W P A g k ||| 2 ^ k)) (nx_or _ _) ?_
          refine am_run 2 (pc' := 102) (ls' := [some (.ref 77), some (.ref t), some (.int (nI s)), some (.int (nI g)), some (.int (nI (2 ^ g))), some (.int (nI (wfk p x s W P A g k ||| 2 ^ k))), some (.int (nI k + nI 1)), some (.int (nI (2 ^ k)))]) (st' := []) (σ' := σ) rfl ?_
          refine am_ls (ls' := [some (.ref 77), some (.ref t), some (.int (nI s)), some (.int (nI g)), some (.int (nI (2 ^ g))), some (.int (nI (wfk p x s W P A g k ||| 2 ^ k))), some (.int (nI (k + 1))), some (.int (nI (2 ^ k)))]) (by rw [nI_add]) ?_
          refine am_run 1 (pc' := 30) (ls' := [some (.ref 77), some (.ref t), some (.int (nI s)), some (.int (nI g)), some (.int (nI (2 ^ g))), some (.int (nI (wfk p x s W P A g k ||| 2 ^ k))), some (.int (nI (k + 1))), some (.int (nI (2 ^ k)))]) (st' := []) (σ' := σ) rfl ?_
          have e : wfk p x s W P A g (k + 1) = wfk p x s W P A g k ||| 2 ^ k := if_pos ⟨hb, by unfold wt1; simp [*]⟩
          refine am_ls (ls' := [some (.ref 77), some (.ref t), some (.int (nI s)), some (.int (nI g)), some (.int (nI (2 ^ g))), some (.int (nI (wfk p x s W P A g (k + 1)))), some (.int (nI (k + 1))), some (.int (nI (2 ^ k)))]) (by rw [e]) ?_
          exact c_waited_loop hd hW hR hx hro hs hP hA hg hW9 o0 o1 hq m (k + 1) _ (by omega)
        · have hdc_7 : dcd p x s P (A ||| 2 ^ k) g = false := by rw [Nat.or_zero] at hdc_7; exact hdc_7
          show am_G _ M_X3_waitedFor _ 89 [some (.ref 77), some (.ref t), some (.int (nI s)), some (.int (nI g)), some (.int (nI (2 ^ g))), some (.int (nI (wfk p x s W P A g k))), some (.int (nI k)), some (.int (nI (2 ^ k)))] [.int (nI 0)] σ
          refine am_if (ty := 99) (tn := 92) rfl (by decide) rfl rfl (fun (h_9 : nI 0 = 0) => ?_) (fun (h_9 : ¬ (nI 0 = 0)) => ?_)
          rotate_left
          · exact absurd (by decide) h_9
          refine am_run 1 (pc' := 102) (ls' := [some (.ref 77), some (.ref t), some (.int (nI s)), some (.int (nI g)), some (.int (nI (2 ^ g))), some (.int (nI (wfk p x s W P A g k))), some (.int (nI k + nI 1)), some (.int (nI (2 ^ k)))]) (st' := []) (σ' := σ) rfl ?_
          refine am_ls (ls' := [some (.ref 77), some (.ref t), some (.int (nI s)), some (.int (nI g)), some (.int (nI (2 ^ g))), some (.int (nI (wfk p x s W P A g k))), some (.int (nI (k + 1))), some (.int (nI (2 ^ k)))]) (by rw [nI_add]) ?_
          refine am_run 1 (pc' := 30) (ls' := [some (.ref 77), some (.ref t), some (.int (nI s)), some (.int (nI g)), some (.int (nI (2 ^ g))), some (.int (nI (wfk p x s W P A g k))), some (.int (nI (k + 1))), some (.int (nI (2 ^ k)))]) (st' := []) (σ' := σ) rfl ?_
          have e : wfk p x s W P A g (k + 1) = wfk p x s W P A g k := if_neg (fun z => by have := z.2; unfold wt1 at this; simp [*] at this)
          refine am_ls (ls' := [some (.ref 77), some (.ref t), some (.int (nI s)), some (.int (nI g)), some (.int (nI (2 ^ g))), some (.int (nI (wfk p x s W P A g (k + 1)))), some (.int (nI (k + 1))), some (.int (nI (2 ^ k)))]) (by rw [e]) ?_
          exact c_waited_loop hd hW hR hx hro hs hP hA hg hW9 o0 o1 hq m (k + 1) _ (by omega)
    · skip
      refine am_run 2 (pc' := 34) (ls' := [some (.ref 77), some (.ref t), some (.int (nI s)), some (.int (nI g)), some (.int (nI (2 ^ g))), some (.int (nI (wfk p x s W P A g k))), some (.int (nI k)), v7]) (st' := [.int (nI 8), .int (nI k)]) (σ' := σ) rfl ?_
      refine am_ic (ty := 37) (tn := 105) rfl (by decide) rfl rfl (fun (h_1 : nI k < nI 8) => ?_) (fun (h_1 : ¬ (nI k < nI 8)) => ?_)
      rotate_left
      · have h_1 : ¬ (k < 8) := fun z => h_1 ((nI_ltI (by omega) (by omega)).mpr z)
        omega
      have h_1 : k < 8 := (nI_ltI (by omega) (by omega)).mp h_1
      refine am_run 1 (pc' := 39) (ls' := [some (.ref 77), some (.ref t), some (.int (nI s)), some (.int (nI g)), some (.int (nI (2 ^ g))), some (.int (nI (wfk p x s W P A g k))), some (.int (nI k)), v7]) (st' := [.int (nI (2 ^ g))]) (σ' := σ) rfl ?_
      refine am_if (ty := 105) (tn := 42) rfl (by decide) rfl rfl (fun (h_2 : nI (2 ^ g) = 0) => ?_) (fun (h_2 : ¬ (nI (2 ^ g) = 0)) => ?_)
      · have h_2 : 2 ^ g = 0 := (am_n0 (by omega)).mp h_2
        omega
      have h_2 : ¬ (2 ^ g = 0) := fun z => h_2 ((am_n0 (by omega)).mpr z)
      refine am_run 2 (pc' := 46) (ls' := [some (.ref 77), some (.ref t), some (.int (nI s)), some (.int (nI g)), some (.int (nI (2 ^ g))), some (.int (nI (wfk p x s W P A g k))), some (.int (nI k)), v7]) (st' := [.int (σ.1 77 1)]) (σ' := σ) rfl ?_
      refine am_top (v' := nI W) o1 ?_
      refine am_run 3 (pc' := 50) (ls' := [some (.ref 77), some (.ref t), some (.int (nI s)), some (.int (nI g)), some (.int (nI (2 ^ g))), some (.int (nI (wfk p x s W P A g k))), some (.int (nI k)), v7]) (st' := [.int ((nI 1) <<< ((nI k) &&& 31)), .int (nI W)]) (σ' := σ) rfl ?_
      refine am_top (v' := nI (2 ^ k)) (by rw [nx_shl _ (by omega), Nat.one_mul]) ?_
      refine am_run 1 (pc' := 51) (ls' := [some (.ref 77), some (.ref t), some (.int (nI s)), some (.int (nI g)), some (.int (nI (2 ^ g))), some (.int (nI (wfk p x s W P A g k))), some (.int (nI k)), v7]) (st' := [.int (nI W &&& nI (2 ^ k))]) (σ' := σ) rfl ?_
      refine am_top (v' := nI 0) (by rw [nx_and, nx_bit0.mpr hb]) ?_
      refine am_run 2 (pc' := 55) (ls' := [some (.ref 77), some (.ref t), some (.int (nI s)), some (.int (nI g)), some (.int (nI (2 ^ g))), some (.int (nI (wfk p x s W P A g k))), some (.int (nI k)), some (.int (nI 0))]) (st' := [.int (nI 0)]) (σ' := σ) rfl ?_
      refine am_if (ty := 99) (tn := 58) rfl (by decide) rfl rfl (fun (h_3 : nI 0 = 0) => ?_) (fun (h_3 : ¬ (nI 0 = 0)) => ?_)
      rotate_left
      · exact absurd (by decide) h_3
      refine am_run 1 (pc' := 102) (ls' := [some (.ref 77), some (.ref t), some (.int (nI s)), some (.int (nI g)), some (.int (nI (2 ^ g))), some (.int (nI (wfk p x s W P A g k))), some (.int (nI k + nI 1)), some (.int (nI 0))]) (st' := []) (σ' := σ) rfl ?_
      refine am_ls (ls' := [some (.ref 77), some (.ref t), some (.int (nI s)), some (.int (nI g)), some (.int (nI (2 ^ g))), some (.int (nI (wfk p x s W P A g k))), some (.int (nI (k + 1))), some (.int (nI 0))]) (by rw [nI_add]) ?_
      refine am_run 1 (pc' := 30) (ls' := [some (.ref 77), some (.ref t), some (.int (nI s)), some (.int (nI g)), some (.int (nI (2 ^ g))), some (.int (nI (wfk p x s W P A g k))), some (.int (nI (k + 1))), some (.int (nI 0))]) (st' := []) (σ' := σ) rfl ?_
      have e : wfk p x s W P A g (k + 1) = wfk p x s W P A g k := if_neg (fun z => nfl hb z.1)
      refine am_ls (ls' := [some (.ref 77), some (.ref t), some (.int (nI s)), some (.int (nI g)), some (.int (nI (2 ^ g))), some (.int (nI (wfk p x s W P A g (k + 1)))), some (.int (nI (k + 1))), some (.int (nI 0))]) (by rw [e]) ?_
      exact c_waited_loop hd hW hR hx hro hs hP hA hg hW9 o0 o1 hq m (k + 1) _ (by omega)
set_option maxRecDepth 10000 in
set_option maxHeartbeats 2000000 in
theorem c_waited {d : Nat} (hd : 403 ≤ d) {σ : am_M} {t n x s W P A g : Nat} {p : Pg} (hW : PW p n) (hR : TR σ t p n) (hx : x ≤ n) (hro : ROOT σ t x) (hs : s ≤ 1048576) (hP : P < 256) (hA : A < 256) (hg : g < 8) (hW9 : W < 512) (o0 : σ.1 77 0 = nI (P + 256 * A)) (o1 : σ.1 77 1 = nI W) {Q : am_Q} (hq : Q (some (.int (nI (wfs p x s W P A g)))) σ) : am_C d 61 [.ref 77, .ref t, .int (nI s), .int (nI g)] σ Q := by
  have hg2 := pow_lt_256 hg
  have hgp : 0 < 2 ^ g := Nat.pow_pos (by decide)
  rcases bt (W.testBit g) with hb | hb
  · rw [show wfs p x s W P A g = wfk p x s W P A g 8 from if_pos hb] at hq
    refine am_enter' (M := M_X3_waitedFor) rfl rfl rfl (by omega) (ls := [some (.ref 77), some (.ref t), some (.int (nI s)), some (.int (nI g)), none, none, none, none]) rfl (fun d' hd' => ?_)
    refine am_run 1 (pc' := 1) (ls' := [some (.ref 77), some (.ref t), some (.int (nI s)), some (.int (nI g)), none, none, none, none]) (st' := [.int (nI g)]) (σ' := σ) rfl ?_
    refine am_if (ty := 21) (tn := 4) rfl (by decide) rfl rfl (fun (h_1 : nI g < 0) => ?_) (fun (h_1 : ¬ (nI g < 0)) => ?_)
    · have h_1 : g < 0 := (am_nlt0 (by omega)).mp h_1
      exact absurd h_1 (Nat.not_lt_zero _)
    have h_1 : ¬ (g < 0) := fun z => h_1 ((am_nlt0 (by omega)).mpr z)
    refine am_run 2 (pc' := 7) (ls' := [some (.ref 77), some (.ref t), some (.int (nI s)), some (.int (nI g)), none, none, none, none]) (st' := [.int (nI 8), .int (nI g)]) (σ' := σ) rfl ?_
    refine am_ic (ty := 10) (tn := 21) rfl (by decide) rfl rfl (fun (h_2 : nI g < nI 8) => ?_) (fun (h_2 : ¬ (nI g < nI 8)) => ?_)
    rotate_left
    · have h_2 : ¬ (g < 8) := fun z => h_2 ((nI_ltI (by omega) (by omega)).mpr z)
      omega
    have h_2 : g < 8 := (nI_ltI (by omega) (by omega)).mp h_2
    refine am_run 2 (pc' := 14) (ls' := [some (.ref 77), some (.ref t), some (.int (nI s)), some (.int (nI g)), none, none, none, none]) (st' := [.int (σ.1 77 1)]) (σ' := σ) rfl ?_
    refine am_top (v' := nI W) o1 ?_
    refine am_run 3 (pc' := 17) (ls' := [some (.ref 77), some (.ref t), some (.int (nI s)), some (.int (nI g)), none, none, none, none]) (st' := [.int ((nI 1) <<< ((nI g) &&& 31)), .int (nI W)]) (σ' := σ) rfl ?_
    refine am_top (v' := nI (2 ^ g)) (by rw [nx_shl _ (by omega), Nat.one_mul]) ?_
    refine am_run 1 (pc' := 18) (ls' := [some (.ref 77), some (.ref t), some (.int (nI s)), some (.int (nI g)), none, none, none, none]) (st' := [.int (nI W &&& nI (2 ^ g))]) (σ' := σ) rfl ?_
    refine am_top (v' := nI (2 ^ g)) (by rw [nx_and, and_bit1 hb]) ?_
    refine am_run 6 (pc' := 30) (ls' := [some (.ref 77), some (.ref t), some (.int (nI s)), some (.int (nI g)), some (.int (nI (2 ^ g))), some (.int (nI 0)), some (.int (nI 0)), none]) (st' := []) (σ' := σ) rfl ?_
    exact c_waited_loop (by omega) hW hR hx hro hs hP hA hg hW9 o0 o1 hq 8 0 _ rfl
  · rw [show wfs p x s W P A g = 0 from if_neg (nfl hb)] at hq
    refine am_enter' (M := M_X3_waitedFor) rfl rfl rfl (by omega) (ls := [some (.ref 77), some (.ref t), some (.int (nI s)), some (.int (nI g)), none, none, none, none]) rfl (fun d' hd' => ?_)
    refine am_run 1 (pc' := 1) (ls' := [some (.ref 77), some (.ref t), some (.int (nI s)), some (.int (nI g)), none, none, none, none]) (st' := [.int (nI g)]) (σ' := σ) rfl ?_
    refine am_if (ty := 21) (tn := 4) rfl (by decide) rfl rfl (fun (h_1 : nI g < 0) => ?_) (fun (h_1 : ¬ (nI g < 0)) => ?_)
    · have h_1 : g < 0 := (am_nlt0 (by omega)).mp h_1
      exact absurd h_1 (Nat.not_lt_zero _)
    have h_1 : ¬ (g < 0) := fun z => h_1 ((am_nlt0 (by omega)).mpr z)
    refine am_run 2 (pc' := 7) (ls' := [some (.ref 77), some (.ref t), some (.int (nI s)), some (.int (nI g)), none, none, none, none]) (st' := [.int (nI 8), .int (nI g)]) (σ' := σ) rfl ?_
    refine am_ic (ty := 10) (tn := 21) rfl (by decide) rfl rfl (fun (h_2 : nI g < nI 8) => ?_) (fun (h_2 : ¬ (nI g < nI 8)) => ?_)
    rotate_left
    · have h_2 : ¬ (g < 8) := fun z => h_2 ((nI_ltI (by omega) (by omega)).mpr z)
      omega
    have h_2 : g < 8 := (nI_ltI (by omega) (by omega)).mp h_2
    refine am_run 2 (pc' := 14) (ls' := [some (.ref 77), some (.ref t), some (.int (nI s)), some (.int (nI g)), none, none, none, none]) (st' := [.int (σ.1 77 1)]) (σ' := σ) rfl ?_
    refine am_top (v' := nI W) o1 ?_
    refine am_run 3 (pc' := 17) (ls' := [some (.ref 77), some (.ref t), some (.int (nI s)), some (.int (nI g)), none, none, none, none]) (st' := [.int ((nI 1) <<< ((nI g) &&& 31)), .int (nI W)]) (σ' := σ) rfl ?_
    refine am_top (v' := nI (2 ^ g)) (by rw [nx_shl _ (by omega), Nat.one_mul]) ?_
    refine am_run 1 (pc' := 18) (ls' := [some (.ref 77), some (.ref t), some (.int (nI s)), some (.int (nI g)), none, none, none, none]) (st' := [.int (nI W &&& nI (2 ^ g))]) (σ' := σ) rfl ?_
    refine am_top (v' := nI 0) (by rw [nx_and, nx_bit0.mpr hb]) ?_
    refine am_run 8 (pc' := 34) (ls' := [some (.ref 77), some (.ref t), some (.int (nI s)), some (.int (nI g)), some (.int (nI 0)), some (.int (nI 0)), some (.int (nI 0)), none]) (st' := [.int (nI 8), .int (nI 0)]) (σ' := σ) rfl ?_
    refine am_ic (ty := 37) (tn := 105) rfl (by decide) rfl rfl (fun (h_3 : nI 0 < nI 8) => ?_) (fun (h_3 : ¬ (nI 0 < nI 8)) => ?_)
    rotate_left
    · exact absurd (by decide) h_3
    refine am_run 1 (pc' := 39) (ls' := [some (.ref 77), some (.ref t), some (.int (nI s)), some (.int (nI g)), some (.int (nI 0)), some (.int (nI 0)), some (.int (nI 0)), none]) (st' := [.int (nI 0)]) (σ' := σ) rfl ?_
    refine am_if (ty := 105) (tn := 42) rfl (by decide) rfl rfl (fun (h_4 : nI 0 = 0) => ?_) (fun (h_4 : ¬ (nI 0 = 0)) => ?_)
    rotate_left
    · exact absurd (by decide) h_4
    refine am_run 1 (pc' := 107) (ls' := [some (.ref 77), some (.ref t), some (.int (nI s)), some (.int (nI g)), some (.int (nI 0)), some (.int (nI 0)), some (.int (nI 0)), none]) (st' := [.int (nI 0)]) (σ' := σ) rfl ?_
    refine am_reti rfl rfl ?_
    exact hq
/-- between the tables of waitsFor -/
def WI (σ0 σ : am_M) (j s P A : Nat) : Prop := KS σ0 σ ∧ σ.1 0 38 = nI j ∧ σ.1 0 39 = nI s ∧ ∀ g, g < 8 → σ.1 29 g = nI (sts (P, A) g)
theorem sts_p {P A t : Nat} (g : Nat) : sts (P ||| 2 ^ t, A) g = if g = t then 1 else sts (P, A) g := by
  unfold sts
  simp only [Nat.testBit_or, Nat.testBit_two_pow]
  by_cases e : g = t
  · subst e; simp
  · simp [e, show ¬ t = g from fun z => e z.symm]
theorem sts_a {P A t : Nat} (hP : P.testBit t = false) (g : Nat) : sts (P, A ||| 2 ^ t) g = if g = t then 2 else sts (P, A) g := by
  unfold sts
  simp only [Nat.testBit_or, Nat.testBit_two_pow]
  by_cases e : g = t
  · subst e; simp [hP]
  · simp [e, show ¬ t = g from fun z => e z.symm]
theorem dn_op {P A t : Nat} (ht : t < 8) (h : (dn 255 (P ||| A)).testBit t = true) : P.testBit t = false ∧ A.testBit t = false := by
  rw [dn_bit, bit255 ht, Nat.testBit_or] at h
  revert h
  cases P.testBit t <;> cases A.testBit t <;> simp
theorem dj_sp {P A t : Nat} (h : dj P A) (hA : A.testBit t = false) : dj (P ||| 2 ^ t) A := fun i q => by
  obtain ⟨q1, q2⟩ := q
  rw [Nat.testBit_or, Bool.or_eq_true, Nat.testBit_two_pow, decide_eq_true_eq] at q1
  rcases q1 with q1 | q1
  · exact h i ⟨q1, q2⟩
  · subst q1; rw [hA] at q2; cases q2
theorem dj_sa {P A t : Nat} (h : dj P A) (hP : P.testBit t = false) : dj P (A ||| 2 ^ t) := fun i q => by
  obtain ⟨q1, q2⟩ := q
  rw [Nat.testBit_or, Bool.or_eq_true, Nat.testBit_two_pow, decide_eq_true_eq] at q2
  rcases q2 with q2 | q2
  · exact h i ⟨q1, q2⟩
  · subst q2; rw [hP] at q1; cases q1
section LaysHow
variable {σ0 σ : am_M} {j s P A n r : Nat} {p : Pg} {rk od dp : Nat → Nat} {ow : Nat → Nat → Nat}
theorem KS.w29 {σ σ' : am_M} (h : KS σ σ') (k : Nat) (x : Int32) : KS σ (am_wr σ' 29 k x) := ⟨fun c a b e f => by rw [am_wr_ne _ b]; exact h.1 c a b e f, fun k' a => by rw [am_wr_ne _ (by decide)]; exact h.2.1 k' a, h.2.2⟩
theorem c_lays_how {d : Nat} (hd : 14 ≤ d) (hM : MI σ0 j p n r rk od dp ow) (hs : s ≤ 1048576) (hI : WI σ0 σ j s P A) {t h P' A' : Nat} (ht : t < 8) (hop : sts (P, A) t = 0) (hst : ∀ g, sts (P', A') g = if g = t then h else sts (P, A) g) (hdj : dj P' A') (hP : P' < 256) (hA : A' < 256) {Q : am_Q} (hq : ∀ σ', WI σ0 (am_wr σ' 29 t (nI 0)) j s P A → σ'.1 4 j = nI r → MB σ' j s P' A' p n dp ow → (∀ i, i < n → ∀ w', w' < 3 ^ dp i → TB σ' p dp ow s P' A' i w') → Q none σ') : am_C d 209 [.ref 0, .int (nI j), .int (nI s)] (am_wr σ 29 t (nI h)) Q := by
  obtain ⟨k1, k2, k3, k4⟩ := hI
  have hM2 : MI (am_wr σ 29 t (nI h)) j p n r rk od dp ow := hM.keep (k1.w29 _ _).1
  refine c_lays hd hM2.1 hs (fun g hg => ?_) hdj hP hA (fun σ' hL hB hT => ?_)
  · rw [hst g]
    by_cases e : g = t
    · subst e; rw [am_same, if_pos rfl]
    · rw [am_diff _ _ _ _ _ e, if_neg e]; exact k4 g hg
  · refine hq σ' ⟨((k1.w29 _ _).tr hL.KS).w29 _ _, ?_, ?_, fun g hg => ?_⟩ ?_ hB hT
    · rw [am_wr_ne _ (by decide)]; exact hB.2.1.1
    · rw [am_wr_ne _ (by decide)]; exact hB.2.1.2.1
    · by_cases e : g = t
      · subst e; rw [am_same, hop]
      · rw [am_diff _ _ _ _ _ e, hL.1 29 (by decide) (by decide), am_diff _ _ _ _ _ e]; exact k4 g hg
    · rw [hL.1 4 (by decide) (by decide)]; exact hM2.2.1.1
end LaysHow
set_option maxRecDepth 10000 in
set_option maxHeartbeats 2000000 in
theorem c_waitsFor_loop {d : Nat} (hd : 15 ≤ d) {σ0 : am_M} {j s P A n r g : Nat} {p : Pg} {rk od dp : Nat → Nat} {ow : Nat → Nat → Nat} (hM : MI σ0 j p n r rk od dp ow) (hs : s ≤ 1048576) (hv : s = ST ∨ lv p (r + 1) s = true) (hdj : dj P A) (hP : P < 256) (hA : A < 256) (hg : g < 8) (hop : (dn 255 (P ||| A)).testBit g = true) {Q : am_Q} (hq : ∀ σ', WI σ0 σ' j s P A → Q (some (.int (nI (wfk p (r + 1) s (dn 255 (P ||| A)) P A g 8)))) σ') : ∀ (m k : Nat) (σ' : am_M) (v5 v6 : Option Value), k + m = 8 → WI σ0 σ' j s P A → am_G d M_X10_waitsFor Q 10 [some (.ref 0), some (.int (nI g)), some (.int (nI (dn 255 (P ||| A)))), some (.int (nI (wfk p (r + 1) s (dn 255 (P ||| A)) P A g k))), some (.int (nI k)), v5, v6] [] σ'
  | 0, k, σ', v5, v6, hm, hI => by
    have e : k = 8 := by omega
    subst e
    refine am_run 2 (pc' := 14) (ls' := [some (.ref 0), some (.int (nI g)), some (.int (nI (dn 255 (P ||| A)))), some (.int (nI (wfk p (r + 1) s (dn 255 (P ||| A)) P A g 8))), some (.int (nI 8)), v5, v6]) (st' := [.int (nI 8), .int (nI 8)]) (σ' := σ') rfl ?_
    refine am_ic (ty := 17) (tn := 125) rfl (by decide) rfl rfl (fun (h_1 : nI 8 < nI 8) => ?_) (fun (h_1 : ¬ (nI 8 < nI 8)) => ?_)
    · exact absurd h_1 (by decide)
    refine am_run 1 (pc' := 126) (ls' := [some (.ref 0), some (.int (nI g)), some (.int (nI (dn 255 (P ||| A)))), some (.int (nI (wfk p (r + 1) s (dn 255 (P ||| A)) P A g 8))), some (.int (nI 8)), v5, v6]) (st' := [.int (nI (wfk p (r + 1) s (dn 255 (P ||| A)) P A g 8))]) (σ' := σ') rfl ?_
    refine am_reti rfl rfl ?_
    exact hq σ' hI
  | m + 1, k, σ', v5, v6, hm, hI => by
    have hdl : dn 255 (P ||| A) ≤ 255 := dn_le _ _
    have hk2 : 2 ^ k < 256 := pow_lt_256 (by omega)
    have hwl := wfk_lt p (r + 1) s (dn 255 (P ||| A)) P A g k (by omega)
    have hrn : r < n := hM.2.1.2.1
    have hr0 : dp r = 0 := hM.2.1.2.2
    have hW := hM.1.2.1
    have i38 := hI.2.1
    have i39 := hI.2.2.1
    rcases bt ((dn 255 (P ||| A)).testBit k) with hb | hb
    · obtain ⟨hpk, hak⟩ := dn_op (by omega) hb
      have hop0 : sts (P, A) k = 0 := sts_0.mpr ⟨hpk, hak⟩
      refine am_run 2 (pc' := 14) (ls' := [some (.ref 0), some (.int (nI g)), some (.int (nI (dn 255 (P ||| A)))), some (.int (nI (wfk p (r + 1) s (dn 255 (P ||| A)) P A g k))), some (.int (nI k)), v5, v6]) (st' := [.int (nI 8), .int (nI k)]) (σ' := σ') rfl ?_
      refine am_ic (ty := 17) (tn := 125) rfl (by decide) rfl rfl (fun (h_1 : nI k < nI 8) => ?_) (fun (h_1 : ¬ (nI k < nI 8)) => ?_)
      rotate_left
      · have h_1 : ¬ (k < 8) := fun z => h_1 ((nI_ltI (by omega) (by omega)).mpr z)
        omega
      have h_1 : k < 8 := (nI_ltI (by omega) (by omega)).mp h_1
      refine am_run 2 (pc' := 19) (ls' := [some (.ref 0), some (.int (nI g)), some (.int (nI (dn 255 (P ||| A)))), some (.int (nI (wfk p (r + 1) s (dn 255 (P ||| A)) P A g k))), some (.int (nI k)), v5, v6]) (st' := [.int (nI g), .int (nI (dn 255 (P ||| A)))]) (σ' := σ') rfl ?_
      refine am_invs (y := 149) (as := [.int (nI (dn 255 (P ||| A))), .int (nI g)]) (rest := []) rfl rfl rfl rfl rfl rfl (Nat.le_of_ble_eq_true rfl) ?_
      refine c_m_has (by omega) (a := dn 255 (P ||| A)) (s := g) (by omega) (by omega) (fun _ => ?_) (fun z => absurd (hop.symm.trans z) (by decide))
      show am_G _ M_X10_waitsFor _ 22 [some (.ref 0), some (.int (nI g)), some (.int (nI (dn 255 (P ||| A)))), some (.int (nI (wfk p (r + 1) s (dn 255 (P ||| A)) P A g k))), some (.int (nI k)), v5, v6] [.int (nI 1)] σ'
      refine am_if (ty := 125) (tn := 25) rfl (by decide) rfl rfl (fun (h_2 : nI 1 = 0) => ?_) (fun (h_2 : ¬ (nI 1 = 0)) => ?_)
      · exact absurd h_2 (by decide)
      refine am_run 4 (pc' := 31) (ls' := [some (.ref 0), some (.int (nI g)), some (.int (nI (dn 255 (P ||| A)))), some (.int (nI (wfk p (r + 1) s (dn 255 (P ||| A)) P A g k))), some (.int (nI k)), some (.int (nI 1)), v6]) (st' := [.int (nI 2), .int (nI 1)]) (σ' := σ') rfl ?_
      refine am_ic (ty := 119) (tn := 34) rfl (by decide) rfl rfl (fun (h_3 : nI 2 < nI 1) => ?_) (fun (h_3 : ¬ (nI 2 < nI 1)) => ?_)
      · exact absurd h_3 (by decide)
      refine am_run 2 (pc' := 37) (ls' := [some (.ref 0), some (.int (nI g)), some (.int (nI (dn 255 (P ||| A)))), some (.int (nI (wfk p (r + 1) s (dn 255 (P ||| A)) P A g k))), some (.int (nI k)), some (.int (nI 1)), v6]) (st' := [.int (nI k), .int (nI (dn 255 (P ||| A)))]) (σ' := σ') rfl ?_
      refine am_invs (y := 149) (as := [.int (nI (dn 255 (P ||| A))), .int (nI k)]) (rest := []) rfl rfl rfl rfl rfl rfl (Nat.le_of_ble_eq_true rfl) ?_
      refine c_m_has (by omega) (a := dn 255 (P ||| A)) (s := k) (by omega) (by omega) (fun _ => ?_) (fun z => absurd (hb.symm.trans z) (by decide))
      show am_G _ M_X10_waitsFor _ 40 [some (.ref 0), some (.int (nI g)), some (.int (nI (dn 255 (P ||| A)))), some (.int (nI (wfk p (r + 1) s (dn 255 (P ||| A)) P A g k))), some (.int (nI k)), some (.int (nI 1)), v6] [.int (nI 1)] σ'
      refine am_if (ty := 119) (tn := 43) rfl (by decide) rfl rfl (fun (h_4 : nI 1 = 0) => ?_) (fun (h_4 : ¬ (nI 1 = 0)) => ?_)
      · exact absurd h_4 (by decide)
      refine am_run 4 (pc' := 51) (ls' := [some (.ref 0), some (.int (nI g)), some (.int (nI (dn 255 (P ||| A)))), some (.int (nI (wfk p (r + 1) s (dn 255 (P ||| A)) P A g k))), some (.int (nI k)), some (.int (nI 1)), v6]) (st' := [.int (nI 1), .int (nI k), .ref 29]) (σ' := σ') rfl ?_
      refine am_iastN (n := 8) rfl rfl rfl (by omega) (by decide) ?_
      refine am_run 3 (pc' := 57) (ls' := [some (.ref 0), some (.int (nI g)), some (.int (nI (dn 255 (P ||| A)))), some (.int (nI (wfk p (r + 1) s (dn 255 (P ||| A)) P A g k))), some (.int (nI k)), some (.int (nI 1)), v6]) (st' := [.int (σ'.1 0 38), .ref 0]) (σ' := (am_wr σ' 29 k (nI 1))) rfl ?_
      refine am_top (v' := nI j) i38 ?_
      refine am_run 2 (pc' := 61) (ls' := [some (.ref 0), some (.int (nI g)), some (.int (nI (dn 255 (P ||| A)))), some (.int (nI (wfk p (r + 1) s (dn 255 (P ||| A)) P A g k))), some (.int (nI k)), some (.int (nI 1)), v6]) (st' := [.int (σ'.1 0 39), .int (nI j), .ref 0]) (σ' := (am_wr σ' 29 k (nI 1))) rfl ?_
      refine am_top (v' := nI s) i39 ?_
      refine am_invv (y := 209) (b := 0) (as := [.int (nI j), .int (nI s)]) (rest := []) rfl rfl rfl rfl rfl rfl rfl (Nat.le_of_ble_eq_true rfl) ?_
      refine c_lays_how (by omega) hM hs hI (t := k) (h := 1) (P' := P ||| 2 ^ k) (A' := A) (by omega) hop0 sts_p (dj_sp hdj hak) (or_lt8 hP hk2) hA (fun σ1 hI1 h41 hB1 hT1 => ?_)
      have i381 := hI1.2.1
      have i391 := hI1.2.2.1
      show am_G _ M_X10_waitsFor _ 64 [some (.ref 0), some (.int (nI g)), some (.int (nI (dn 255 (P ||| A)))), some (.int (nI (wfk p (r + 1) s (dn 255 (P ||| A)) P A g k))), some (.int (nI k)), some (.int (nI 1)), v6] [] σ1
      refine am_run 1 (pc' := 65) (ls' := [some (.ref 0), some (.int (nI g)), some (.int (nI (dn 255 (P ||| A)))), some (.int (nI (wfk p (r + 1) s (dn 255 (P ||| A)) P A g k))), some (.int (nI k)), some (.int (nI 1)), v6]) (st' := [.ref 0]) (σ' := σ1) rfl ?_
      refine am_invv (y := 211) (b := 0) (as := []) (rest := []) rfl rfl rfl rfl rfl rfl rfl (Nat.le_of_ble_eq_true rfl) ?_
      refine c_m_whole (by omega) hB1 h41 hrn hr0 (hT1 r hrn 0 (Nat.pow_pos (by decide))) hv ?_
      have ok1 := an_ok hW 61 (r + 1) s true (P ||| 2 ^ k) A (show r + 1 ≤ n by omega)
      obtain ⟨c11, c21, -, -⟩ := id ok1
      show am_G _ M_X10_waitsFor _ 68 [some (.ref 0), some (.int (nI g)), some (.int (nI (dn 255 (P ||| A)))), some (.int (nI (wfk p (r + 1) s (dn 255 (P ||| A)) P A g k))), some (.int (nI k)), some (.int (nI 1)), v6] [.int (nI (eM (an p 61 (r + 1) s true (P ||| 2 ^ k) A)))] σ1
      refine am_run 3 (pc' := 73) (ls' := [some (.ref 0), some (.int (nI g)), some (.int (nI (dn 255 (P ||| A)))), some (.int (nI (wfk p (r + 1) s (dn 255 (P ||| A)) P A g k))), some (.int (nI k)), some (.int (nI 1)), some (.int (nI (eM (an p 61 (r + 1) s true (P ||| 2 ^ k) A))))]) (st' := [.int (nI (eM (an p 61 (r + 1) s true (P ||| 2 ^ k) A))), .int (nI (wfk p (r + 1) s (dn 255 (P ||| A)) P A g k))]) (σ' := σ1) rfl ?_
      refine am_invs (y := 185) (as := [.int (nI (eM (an p 61 (r + 1) s true (P ||| 2 ^ k) A)))]) (rest := [.int (nI (wfk p (r + 1) s (dn 255 (P ||| A)) P A g k))]) rfl rfl rfl rfl rfl rfl (Nat.le_of_ble_eq_true rfl) ?_
      refine c_m_must (by omega) (r := (an p 61 (r + 1) s true (P ||| 2 ^ k) A)) ok1 ?_
      show am_G _ M_X10_waitsFor _ 76 [some (.ref 0), some (.int (nI g)), some (.int (nI (dn 255 (P ||| A)))), some (.int (nI (wfk p (r + 1) s (dn 255 (P ||| A)) P A g k))), some (.int (nI k)), some (.int (nI 1)), some (.int (nI (eM (an p 61 (r + 1) s true (P ||| 2 ^ k) A))))] [.int (nI ((an p 61 (r + 1) s true (P ||| 2 ^ k) A).1)), .int (nI (wfk p (r + 1) s (dn 255 (P ||| A)) P A g k))] σ1
      refine am_run 1 (pc' := 77) (ls' := [some (.ref 0), some (.int (nI g)), some (.int (nI (dn 255 (P ||| A)))), some (.int (nI (wfk p (r + 1) s (dn 255 (P ||| A)) P A g k))), some (.int (nI k)), some (.int (nI 1)), some (.int (nI (eM (an p 61 (r + 1) s true (P ||| 2 ^ k) A))))]) (st' := [.int (nI g), .int (nI ((an p 61 (r + 1) s true (P ||| 2 ^ k) A).1)), .int (nI (wfk p (r + 1) s (dn 255 (P ||| A)) P A g k))]) (σ' := σ1) rfl ?_
      refine am_invs (y := 149) (as := [.int (nI ((an p 61 (r + 1) s true (P ||| 2 ^ k) A).1)), .int (nI g)]) (rest := [.int (nI (wfk p (r + 1) s (dn 255 (P ||| A)) P A g k))]) rfl rfl rfl rfl rfl rfl (Nat.le_of_ble_eq_true rfl) ?_
      refine c_m_has (by omega) (a := (an p 61 (r + 1) s true (P ||| 2 ^ k) A).1) (s := g) (by omega) (by omega) (fun hb_5 => ?_) (fun hb_5 => ?_)
      · show am_G _ M_X10_waitsFor _ 80 [some (.ref 0), some (.int (nI g)), some (.int (nI (dn 255 (P ||| A)))), some (.int (nI (wfk p (r + 1) s (dn 255 (P ||| A)) P A g k))), some (.int (nI k)), some (.int (nI 1)), some (.int (nI (eM (an p 61 (r + 1) s true (P ||| 2 ^ k) A))))] [.int (nI 1), .int (nI (wfk p (r + 1) s (dn 255 (P ||| A)) P A g k))] σ1
        refine am_if (ty := 83) (tn := 95) rfl (by decide) rfl rfl (fun (h_6 : nI 1 = 0) => ?_) (fun (h_6 : ¬ (nI 1 = 0)) => ?_)
        · exact absurd h_6 (by decide)
        refine am_run 3 (pc' := 99) (ls' := [some (.ref 0), some (.int (nI g)), some (.int (nI (dn 255 (P ||| A)))), some (.int (nI (wfk p (r + 1) s (dn 255 (P ||| A)) P A g k))), some (.int (nI k)), some (.int (nI 1)), some (.int (nI (eM (an p 61 (r + 1) s true (P ||| 2 ^ k) A))))]) (st' := [.int ((nI 1) <<< ((nI k) &&& 31)), .int (nI (wfk p (r + 1) s (dn 255 (P ||| A)) P A g k))]) (σ' := σ1) rfl ?_
        refine am_top (v' := nI (2 ^ k)) (by rw [nx_shl _ (by omega), Nat.one_mul]) ?_
        refine am_run 2 (pc' := 104) (ls' := [some (.ref 0), some (.int (nI g)), some (.int (nI (dn 255 (P ||| A)))), some (.int (nI (wfk p (r + 1) s (dn 255 (P ||| A)) P A g k))), some (.int (nI k)), some (.int (nI 1)), some (.int (nI (eM (an p 61 (r + 1) s true (P ||| 2 ^ k) A))))]) (st' := [.int (nI (wfk p (r + 1) s (dn 255 (P ||| A)) P A g k) ||| nI (2 ^ k))]) (σ' := σ1) rfl ?_
        refine am_top (v' := nI (wfk p (r + 1) s (dn 255 (P ||| A)) P A g k ||| 2 ^ k)) (nx_or _ _) ?_
        refine am_run 5 (pc' := 112) (ls' := [some (.ref 0), some (.int (nI g)), some (.int (nI (dn 255 (P ||| A)))), some (.int (nI (wfk p (r + 1) s (dn 255 (P ||| A)) P A g k ||| 2 ^ k))), some (.int (nI k)), some (.int (nI 1)), some (.int (nI (eM (an p 61 (r + 1) s true (P ||| 2 ^ k) A))))]) (st' := [.int (nI 0), .int (nI k), .ref 29]) (σ' := σ1) rfl ?_
        refine am_iastN (n := 8) rfl rfl rfl (by omega) (by decide) ?_
        refine am_run 1 (pc' := 116) (ls' := [some (.ref 0), some (.int (nI g)), some (.int (nI (dn 255 (P ||| A)))), some (.int (nI (wfk p (r + 1) s (dn 255 (P ||| A)) P A g k ||| 2 ^ k))), some (.int (nI k)), some (.int (nI 1 + nI 1)), some (.int (nI (eM (an p 61 (r + 1) s true (P ||| 2 ^ k) A))))]) (st' := []) (σ' := (am_wr σ1 29 k (nI 0))) rfl ?_
        refine am_ls (ls' := [some (.ref 0), some (.int (nI g)), some (.int (nI (dn 255 (P ||| A)))), some (.int (nI (wfk p (r + 1) s (dn 255 (P ||| A)) P A g k ||| 2 ^ k))), some (.int (nI k)), some (.int (nI 2)), some (.int (nI (eM (an p 61 (r + 1) s true (P ||| 2 ^ k) A))))]) (by rw [nI_add]) ?_
        refine am_run 3 (pc' := 31) (ls' := [some (.ref 0), some (.int (nI g)), some (.int (nI (dn 255 (P ||| A)))), some (.int (nI (wfk p (r + 1) s (dn 255 (P ||| A)) P A g k ||| 2 ^ k))), some (.int (nI k)), some (.int (nI 2)), some (.int (nI (eM (an p 61 (r + 1) s true (P ||| 2 ^ k) A))))]) (st' := [.int (nI 2), .int (nI 2)]) (σ' := (am_wr σ1 29 k (nI 0))) rfl ?_
        refine am_ic (ty := 119) (tn := 34) rfl (by decide) rfl rfl (fun (h_7 : nI 2 < nI 2) => ?_) (fun (h_7 : ¬ (nI 2 < nI 2)) => ?_)
        · exact absurd h_7 (by decide)
        refine am_run 2 (pc' := 37) (ls' := [some (.ref 0), some (.int (nI g)), some (.int (nI (dn 255 (P ||| A)))), some (.int (nI (wfk p (r + 1) s (dn 255 (P ||| A)) P A g k ||| 2 ^ k))), some (.int (nI k)), some (.int (nI 2)), some (.int (nI (eM (an p 61 (r + 1) s true (P ||| 2 ^ k) A))))]) (st' := [.int (nI k), .int (nI (dn 255 (P ||| A)))]) (σ' := (am_wr σ1 29 k (nI 0))) rfl ?_
        refine am_invs (y := 149) (as := [.int (nI (dn 255 (P ||| A))), .int (nI k)]) (rest := []) rfl rfl rfl rfl rfl rfl (Nat.le_of_ble_eq_true rfl) ?_
        refine c_m_has (by omega) (a := dn 255 (P ||| A)) (s := k) (by omega) (by omega) (fun _ => ?_) (fun z => absurd (hb.symm.trans z) (by decide))
        show am_G _ M_X10_waitsFor _ 40 [some (.ref 0), some (.int (nI g)), some (.int (nI (dn 255 (P ||| A)))), some (.int (nI (wfk p (r + 1) s (dn 255 (P ||| A)) P A g k ||| 2 ^ k))), some (.int (nI k)), some (.int (nI 2)), some (.int (nI (eM (an p 61 (r + 1) s true (P ||| 2 ^ k) A))))] [.int (nI 1)] (am_wr σ1 29 k (nI 0))
        refine am_if (ty := 119) (tn := 43) rfl (by decide) rfl rfl (fun (h_8 : nI 1 = 0) => ?_) (fun (h_8 : ¬ (nI 1 = 0)) => ?_)
        · exact absurd h_8 (by decide)
        refine am_run 4 (pc' := 51) (ls' := [some (.ref 0), some (.int (nI g)), some (.int (nI (dn 255 (P ||| A)))), some (.int (nI (wfk p (r + 1) s (dn 255 (P ||| A)) P A g k ||| 2 ^ k))), some (.int (nI k)), some (.int (nI 2)), some (.int (nI (eM (an p 61 (r + 1) s true (P ||| 2 ^ k) A))))]) (st' := [.int (nI 2), .int (nI k), .ref 29]) (σ' := (am_wr σ1 29 k (nI 0))) rfl ?_
        refine am_iastN (n := 8) rfl rfl rfl (by omega) (by decide) ?_
        refine am_run 3 (pc' := 57) (ls' := [some (.ref 0), some (.int (nI g)), some (.int (nI (dn 255 (P ||| A)))), some (.int (nI (wfk p (r + 1) s (dn 255 (P ||| A)) P A g k ||| 2 ^ k))), some (.int (nI k)), some (.int (nI 2)), some (.int (nI (eM (an p 61 (r + 1) s true (P ||| 2 ^ k) A))))]) (st' := [.int (σ1.1 0 38), .ref 0]) (σ' := (am_wr (am_wr σ1 29 k (nI 0)) 29 k (nI 2))) rfl ?_
        refine am_top (v' := nI j) (by exact i381) ?_
        refine am_run 2 (pc' := 61) (ls' := [some (.ref 0), some (.int (nI g)), some (.int (nI (dn 255 (P ||| A)))), some (.int (nI (wfk p (r + 1) s (dn 255 (P ||| A)) P A g k ||| 2 ^ k))), some (.int (nI k)), some (.int (nI 2)), some (.int (nI (eM (an p 61 (r + 1) s true (P ||| 2 ^ k) A))))]) (st' := [.int (σ1.1 0 39), .int (nI j), .ref 0]) (σ' := (am_wr (am_wr σ1 29 k (nI 0)) 29 k (nI 2))) rfl ?_
        refine am_top (v' := nI s) (by exact i391) ?_
        refine am_invv (y := 209) (b := 0) (as := [.int (nI j), .int (nI s)]) (rest := []) rfl rfl rfl rfl rfl rfl rfl (Nat.le_of_ble_eq_true rfl) ?_
        refine c_lays_how (by omega) hM hs hI1 (t := k) (h := 2) (P' := P) (A' := A ||| 2 ^ k) (by omega) hop0 (sts_a hpk) (dj_sa hdj hpk) hP (or_lt8 hA hk2) (fun σ2 hI2 h42 hB2 hT2 => ?_)
        have i382 := hI2.2.1
        have i392 := hI2.2.2.1
        show am_G _ M_X10_waitsFor _ 64 [some (.ref 0), some (.int (nI g)), some (.int (nI (dn 255 (P ||| A)))), some (.int (nI (wfk p (r + 1) s (dn 255 (P ||| A)) P A g k ||| 2 ^ k))), some (.int (nI k)), some (.int (nI 2)), some (.int (nI (eM (an p 61 (r + 1) s true (P ||| 2 ^ k) A))))] [] σ2
        refine am_run 1 (pc' := 65) (ls' := [some (.ref 0), some (.int (nI g)), some (.int (nI (dn 255 (P ||| A)))), some (.int (nI (wfk p (r + 1) s (dn 255 (P ||| A)) P A g k ||| 2 ^ k))), some (.int (nI k)), some (.int (nI 2)), some (.int (nI (eM (an p 61 (r + 1) s true (P ||| 2 ^ k) A))))]) (st' := [.ref 0]) (σ' := σ2) rfl ?_
        refine am_invv (y := 211) (b := 0) (as := []) (rest := []) rfl rfl rfl rfl rfl rfl rfl (Nat.le_of_ble_eq_true rfl) ?_
        refine c_m_whole (by omega) hB2 h42 hrn hr0 (hT2 r hrn 0 (Nat.pow_pos (by decide))) hv ?_
        have ok2 := an_ok hW 61 (r + 1) s true P (A ||| 2 ^ k) (show r + 1 ≤ n by omega)
        obtain ⟨c12, c22, -, -⟩ := id ok2
        show am_G _ M_X10_waitsFor _ 68 [some (.ref 0), some (.int (nI g)), some (.int (nI (dn 255 (P ||| A)))), some (.int (nI (wfk p (r + 1) s (dn 255 (P ||| A)) P A g k ||| 2 ^ k))), some (.int (nI k)), some (.int (nI 2)), some (.int (nI (eM (an p 61 (r + 1) s true (P ||| 2 ^ k) A))))] [.int (nI (eM (an p 61 (r + 1) s true P (A ||| 2 ^ k))))] σ2
        refine am_run 3 (pc' := 73) (ls' := [some (.ref 0), some (.int (nI g)), some (.int (nI (dn 255 (P ||| A)))), some (.int (nI (wfk p (r + 1) s (dn 255 (P ||| A)) P A g k ||| 2 ^ k))), some (.int (nI k)), some (.int (nI 2)), some (.int (nI (eM (an p 61 (r + 1) s true P (A ||| 2 ^ k)))))]) (st' := [.int (nI (eM (an p 61 (r + 1) s true P (A ||| 2 ^ k)))), .int (nI (wfk p (r + 1) s (dn 255 (P ||| A)) P A g k ||| 2 ^ k))]) (σ' := σ2) rfl ?_
        refine am_invs (y := 185) (as := [.int (nI (eM (an p 61 (r + 1) s true P (A ||| 2 ^ k))))]) (rest := [.int (nI (wfk p (r + 1) s (dn 255 (P ||| A)) P A g k ||| 2 ^ k))]) rfl rfl rfl rfl rfl rfl (Nat.le_of_ble_eq_true rfl) ?_
        refine c_m_must (by omega) (r := (an p 61 (r + 1) s true P (A ||| 2 ^ k))) ok2 ?_
        show am_G _ M_X10_waitsFor _ 76 [some (.ref 0), some (.int (nI g)), some (.int (nI (dn 255 (P ||| A)))), some (.int (nI (wfk p (r + 1) s (dn 255 (P ||| A)) P A g k ||| 2 ^ k))), some (.int (nI k)), some (.int (nI 2)), some (.int (nI (eM (an p 61 (r + 1) s true P (A ||| 2 ^ k)))))] [.int (nI ((an p 61 (r + 1) s true P (A ||| 2 ^ k)).1)), .int (nI (wfk p (r + 1) s (dn 255 (P ||| A)) P A g k ||| 2 ^ k))] σ2
        refine am_run 1 (pc' := 77) (ls' := [some (.ref 0), some (.int (nI g)), some (.int (nI (dn 255 (P ||| A)))), some (.int (nI (wfk p (r + 1) s (dn 255 (P ||| A)) P A g k ||| 2 ^ k))), some (.int (nI k)), some (.int (nI 2)), some (.int (nI (eM (an p 61 (r + 1) s true P (A ||| 2 ^ k)))))]) (st' := [.int (nI g), .int (nI ((an p 61 (r + 1) s true P (A ||| 2 ^ k)).1)), .int (nI (wfk p (r + 1) s (dn 255 (P ||| A)) P A g k ||| 2 ^ k))]) (σ' := σ2) rfl ?_
        refine am_invs (y := 149) (as := [.int (nI ((an p 61 (r + 1) s true P (A ||| 2 ^ k)).1)), .int (nI g)]) (rest := [.int (nI (wfk p (r + 1) s (dn 255 (P ||| A)) P A g k ||| 2 ^ k))]) rfl rfl rfl rfl rfl rfl (Nat.le_of_ble_eq_true rfl) ?_
        refine c_m_has (by omega) (a := (an p 61 (r + 1) s true P (A ||| 2 ^ k)).1) (s := g) (by omega) (by omega) (fun hb_9 => ?_) (fun hb_9 => ?_)
        · show am_G _ M_X10_waitsFor _ 80 [some (.ref 0), some (.int (nI g)), some (.int (nI (dn 255 (P ||| A)))), some (.int (nI (wfk p (r + 1) s (dn 255 (P ||| A)) P A g k ||| 2 ^ k))), some (.int (nI k)), some (.int (nI 2)), some (.int (nI (eM (an p 61 (r + 1) s true P (A ||| 2 ^ k)))))] [.int (nI 1), .int (nI (wfk p (r + 1) s (dn 255 (P ||| A)) P A g k ||| 2 ^ k))] σ2
          refine am_if (ty := 83) (tn := 95) rfl (by decide) rfl rfl (fun (h_10 : nI 1 = 0) => ?_) (fun (h_10 : ¬ (nI 1 = 0)) => ?_)
          · exact absurd h_10 (by decide)
          refine am_run 3 (pc' := 99) (ls' := [some (.ref 0), some (.int (nI g)), some (.int (nI (dn 255 (P ||| A)))), some (.int (nI (wfk p (r + 1) s (dn 255 (P ||| A)) P A g k ||| 2 ^ k))), some (.int (nI k)), some (.int (nI 2)), some (.int (nI (eM (an p 61 (r + 1) s true P (A ||| 2 ^ k)))))]) (st' := [.int ((nI 1) <<< ((nI k) &&& 31)), .int (nI (wfk p (r + 1) s (dn 255 (P ||| A)) P A g k ||| 2 ^ k))]) (σ' := σ2) rfl ?_
          refine am_top (v' := nI (2 ^ k)) (by rw [nx_shl _ (by omega), Nat.one_mul]) ?_
          refine am_run 2 (pc' := 104) (ls' := [some (.ref 0), some (.int (nI g)), some (.int (nI (dn 255 (P ||| A)))), some (.int (nI (wfk p (r + 1) s (dn 255 (P ||| A)) P A g k ||| 2 ^ k))), some (.int (nI k)), some (.int (nI 2)), some (.int (nI (eM (an p 61 (r + 1) s true P (A ||| 2 ^ k)))))]) (st' := [.int (nI (wfk p (r + 1) s (dn 255 (P ||| A)) P A g k ||| 2 ^ k) ||| nI (2 ^ k))]) (σ' := σ2) rfl ?_
          refine am_top (v' := nI (wfk p (r + 1) s (dn 255 (P ||| A)) P A g k ||| 2 ^ k ||| 2 ^ k)) (nx_or _ _) ?_
          refine am_run 5 (pc' := 112) (ls' := [some (.ref 0), some (.int (nI g)), some (.int (nI (dn 255 (P ||| A)))), some (.int (nI (wfk p (r + 1) s (dn 255 (P ||| A)) P A g k ||| 2 ^ k ||| 2 ^ k))), some (.int (nI k)), some (.int (nI 2)), some (.int (nI (eM (an p 61 (r + 1) s true P (A ||| 2 ^ k)))))]) (st' := [.int (nI 0), .int (nI k), .ref 29]) (σ' := σ2) rfl ?_
          refine am_iastN (n := 8) rfl rfl rfl (by omega) (by decide) ?_
          refine am_run 1 (pc' := 116) (ls' := [some (.ref 0), some (.int (nI g)), some (.int (nI (dn 255 (P ||| A)))), some (.int (nI (wfk p (r + 1) s (dn 255 (P ||| A)) P A g k ||| 2 ^ k ||| 2 ^ k))), some (.int (nI k)), some (.int (nI 2 + nI 1)), some (.int (nI (eM (an p 61 (r + 1) s true P (A ||| 2 ^ k)))))]) (st' := []) (σ' := (am_wr σ2 29 k (nI 0))) rfl ?_
          refine am_ls (ls' := [some (.ref 0), some (.int (nI g)), some (.int (nI (dn 255 (P ||| A)))), some (.int (nI (wfk p (r + 1) s (dn 255 (P ||| A)) P A g k ||| 2 ^ k ||| 2 ^ k))), some (.int (nI k)), some (.int (nI 3)), some (.int (nI (eM (an p 61 (r + 1) s true P (A ||| 2 ^ k)))))]) (by rw [nI_add]) ?_
          refine am_run 3 (pc' := 31) (ls' := [some (.ref 0), some (.int (nI g)), some (.int (nI (dn 255 (P ||| A)))), some (.int (nI (wfk p (r + 1) s (dn 255 (P ||| A)) P A g k ||| 2 ^ k ||| 2 ^ k))), some (.int (nI k)), some (.int (nI 3)), some (.int (nI (eM (an p 61 (r + 1) s true P (A ||| 2 ^ k)))))]) (st' := [.int (nI 2), .int (nI 3)]) (σ' := (am_wr σ2 29 k (nI 0))) rfl ?_
          refine am_ic (ty := 119) (tn := 34) rfl (by decide) rfl rfl (fun (h_11 : nI 2 < nI 3) => ?_) (fun (h_11 : ¬ (nI 2 < nI 3)) => ?_)
          rotate_left
          · exact absurd (by decide) h_11
          refine am_run 1 (pc' := 122) (ls' := [some (.ref 0), some (.int (nI g)), some (.int (nI (dn 255 (P ||| A)))), some (.int (nI (wfk p (r + 1) s (dn 255 (P ||| A)) P A g k ||| 2 ^ k ||| 2 ^ k))), some (.int (nI k + nI 1)), some (.int (nI 3)), some (.int (nI (eM (an p 61 (r + 1) s true P (A ||| 2 ^ k)))))]) (st' := []) (σ' := (am_wr σ2 29 k (nI 0))) rfl ?_
          refine am_ls (ls' := [some (.ref 0), some (.int (nI g)), some (.int (nI (dn 255 (P ||| A)))), some (.int (nI (wfk p (r + 1) s (dn 255 (P ||| A)) P A g k ||| 2 ^ k ||| 2 ^ k))), some (.int (nI (k + 1))), some (.int (nI 3)), some (.int (nI (eM (an p 61 (r + 1) s true P (A ||| 2 ^ k)))))]) (by rw [nI_add]) ?_
          refine am_run 1 (pc' := 10) (ls' := [some (.ref 0), some (.int (nI g)), some (.int (nI (dn 255 (P ||| A)))), some (.int (nI (wfk p (r + 1) s (dn 255 (P ||| A)) P A g k ||| 2 ^ k ||| 2 ^ k))), some (.int (nI (k + 1))), some (.int (nI 3)), some (.int (nI (eM (an p 61 (r + 1) s true P (A ||| 2 ^ k)))))]) (st' := []) (σ' := (am_wr σ2 29 k (nI 0))) rfl ?_
          have e : wfk p (r + 1) s (dn 255 (P ||| A)) P A g (k + 1) = wfk p (r + 1) s (dn 255 (P ||| A)) P A g k ||| 2 ^ k ||| 2 ^ k := by
            rw [show wfk p (r + 1) s (dn 255 (P ||| A)) P A g (k + 1) = wfk p (r + 1) s (dn 255 (P ||| A)) P A g k ||| 2 ^ k from if_pos ⟨hb, by unfold wt1 dcd; simp [*]⟩]
            simp only [Nat.or_zero, Nat.or_assoc, Nat.or_self]
          refine am_ls (ls' := [some (.ref 0), some (.int (nI g)), some (.int (nI (dn 255 (P ||| A)))), some (.int (nI (wfk p (r + 1) s (dn 255 (P ||| A)) P A g (k + 1)))), some (.int (nI (k + 1))), some (.int (nI 3)), some (.int (nI (eM (an p 61 (r + 1) s true P (A ||| 2 ^ k)))))]) (by rw [e]) ?_
          exact c_waitsFor_loop hd hM hs hv hdj hP hA hg hop hq m (k + 1) _ _ _ (by omega) hI2
        · show am_G _ M_X10_waitsFor _ 80 [some (.ref 0), some (.int (nI g)), some (.int (nI (dn 255 (P ||| A)))), some (.int (nI (wfk p (r + 1) s (dn 255 (P ||| A)) P A g k ||| 2 ^ k))), some (.int (nI k)), some (.int (nI 2)), some (.int (nI (eM (an p 61 (r + 1) s true P (A ||| 2 ^ k)))))] [.int (nI 0), .int (nI (wfk p (r + 1) s (dn 255 (P ||| A)) P A g k ||| 2 ^ k))] σ2
          refine am_if (ty := 83) (tn := 95) rfl (by decide) rfl rfl (fun (h_12 : nI 0 = 0) => ?_) (fun (h_12 : ¬ (nI 0 = 0)) => ?_)
          rotate_left
          · exact absurd (by decide) h_12
          refine am_run 1 (pc' := 85) (ls' := [some (.ref 0), some (.int (nI g)), some (.int (nI (dn 255 (P ||| A)))), some (.int (nI (wfk p (r + 1) s (dn 255 (P ||| A)) P A g k ||| 2 ^ k))), some (.int (nI k)), some (.int (nI 2)), some (.int (nI (eM (an p 61 (r + 1) s true P (A ||| 2 ^ k)))))]) (st' := [.int (nI (eM (an p 61 (r + 1) s true P (A ||| 2 ^ k)))), .int (nI (wfk p (r + 1) s (dn 255 (P ||| A)) P A g k ||| 2 ^ k))]) (σ' := σ2) rfl ?_
          refine am_invs (y := 186) (as := [.int (nI (eM (an p 61 (r + 1) s true P (A ||| 2 ^ k))))]) (rest := [.int (nI (wfk p (r + 1) s (dn 255 (P ||| A)) P A g k ||| 2 ^ k))]) rfl rfl rfl rfl rfl rfl (Nat.le_of_ble_eq_true rfl) ?_
          refine c_m_can (by omega) (r := (an p 61 (r + 1) s true P (A ||| 2 ^ k))) ok2 ?_
          show am_G _ M_X10_waitsFor _ 88 [some (.ref 0), some (.int (nI g)), some (.int (nI (dn 255 (P ||| A)))), some (.int (nI (wfk p (r + 1) s (dn 255 (P ||| A)) P A g k ||| 2 ^ k))), some (.int (nI k)), some (.int (nI 2)), some (.int (nI (eM (an p 61 (r + 1) s true P (A ||| 2 ^ k)))))] [.int (nI ((an p 61 (r + 1) s true P (A ||| 2 ^ k)).2.1)), .int (nI (wfk p (r + 1) s (dn 255 (P ||| A)) P A g k ||| 2 ^ k))] σ2
          refine am_run 1 (pc' := 89) (ls' := [some (.ref 0), some (.int (nI g)), some (.int (nI (dn 255 (P ||| A)))), some (.int (nI (wfk p (r + 1) s (dn 255 (P ||| A)) P A g k ||| 2 ^ k))), some (.int (nI k)), some (.int (nI 2)), some (.int (nI (eM (an p 61 (r + 1) s true P (A ||| 2 ^ k)))))]) (st' := [.int (nI g), .int (nI ((an p 61 (r + 1) s true P (A ||| 2 ^ k)).2.1)), .int (nI (wfk p (r + 1) s (dn 255 (P ||| A)) P A g k ||| 2 ^ k))]) (σ' := σ2) rfl ?_
          refine am_invs (y := 149) (as := [.int (nI ((an p 61 (r + 1) s true P (A ||| 2 ^ k)).2.1)), .int (nI g)]) (rest := [.int (nI (wfk p (r + 1) s (dn 255 (P ||| A)) P A g k ||| 2 ^ k))]) rfl rfl rfl rfl rfl rfl (Nat.le_of_ble_eq_true rfl) ?_
          refine c_m_has (by omega) (a := (an p 61 (r + 1) s true P (A ||| 2 ^ k)).2.1) (s := g) (by omega) (by omega) (fun hb_13 => ?_) (fun hb_13 => ?_)
          · show am_G _ M_X10_waitsFor _ 92 [some (.ref 0), some (.int (nI g)), some (.int (nI (dn 255 (P ||| A)))), some (.int (nI (wfk p (r + 1) s (dn 255 (P ||| A)) P A g k ||| 2 ^ k))), some (.int (nI k)), some (.int (nI 2)), some (.int (nI (eM (an p 61 (r + 1) s true P (A ||| 2 ^ k)))))] [.int (nI 1), .int (nI (wfk p (r + 1) s (dn 255 (P ||| A)) P A g k ||| 2 ^ k))] σ2
            refine am_if (ty := 95) (tn := 102) rfl (by decide) rfl rfl (fun (h_14 : nI 1 = 0) => ?_) (fun (h_14 : ¬ (nI 1 = 0)) => ?_)
            · exact absurd h_14 (by decide)
            refine am_run 2 (pc' := 104) (ls' := [some (.ref 0), some (.int (nI g)), some (.int (nI (dn 255 (P ||| A)))), some (.int (nI (wfk p (r + 1) s (dn 255 (P ||| A)) P A g k ||| 2 ^ k))), some (.int (nI k)), some (.int (nI 2)), some (.int (nI (eM (an p 61 (r + 1) s true P (A ||| 2 ^ k)))))]) (st' := [.int (nI (wfk p (r + 1) s (dn 255 (P ||| A)) P A g k ||| 2 ^ k) ||| nI 0)]) (σ' := σ2) rfl ?_
            refine am_top (v' := nI (wfk p (r + 1) s (dn 255 (P ||| A)) P A g k ||| 2 ^ k ||| 0)) (nx_or _ _) ?_
            refine am_run 5 (pc' := 112) (ls' := [some (.ref 0), some (.int (nI g)), some (.int (nI (dn 255 (P ||| A)))), some (.int (nI (wfk p (r + 1) s (dn 255 (P ||| A)) P A g k ||| 2 ^ k ||| 0))), some (.int (nI k)), some (.int (nI 2)), some (.int (nI (eM (an p 61 (r + 1) s true P (A ||| 2 ^ k)))))]) (st' := [.int (nI 0), .int (nI k), .ref 29]) (σ' := σ2) rfl ?_
            refine am_iastN (n := 8) rfl rfl rfl (by omega) (by decide) ?_
            refine am_run 1 (pc' := 116) (ls' := [some (.ref 0), some (.int (nI g)), some (.int (nI (dn 255 (P ||| A)))), some (.int (nI (wfk p (r + 1) s (dn 255 (P ||| A)) P A g k ||| 2 ^ k ||| 0))), some (.int (nI k)), some (.int (nI 2 + nI 1)), some (.int (nI (eM (an p 61 (r + 1) s true P (A ||| 2 ^ k)))))]) (st' := []) (σ' := (am_wr σ2 29 k (nI 0))) rfl ?_
            refine am_ls (ls' := [some (.ref 0), some (.int (nI g)), some (.int (nI (dn 255 (P ||| A)))), some (.int (nI (wfk p (r + 1) s (dn 255 (P ||| A)) P A g k ||| 2 ^ k ||| 0))), some (.int (nI k)), some (.int (nI 3)), some (.int (nI (eM (an p 61 (r + 1) s true P (A ||| 2 ^ k)))))]) (by rw [nI_add]) ?_
            refine am_run 3 (pc' := 31) (ls' := [some (.ref 0), some (.int (nI g)), some (.int (nI (dn 255 (P ||| A)))), some (.int (nI (wfk p (r + 1) s (dn 255 (P ||| A)) P A g k ||| 2 ^ k ||| 0))), some (.int (nI k)), some (.int (nI 3)), some (.int (nI (eM (an p 61 (r + 1) s true P (A ||| 2 ^ k)))))]) (st' := [.int (nI 2), .int (nI 3)]) (σ' := (am_wr σ2 29 k (nI 0))) rfl ?_
            refine am_ic (ty := 119) (tn := 34) rfl (by decide) rfl rfl (fun (h_15 : nI 2 < nI 3) => ?_) (fun (h_15 : ¬ (nI 2 < nI 3)) => ?_)
            rotate_left
            · exact absurd (by decide) h_15
            refine am_run 1 (pc' := 122) (ls' := [some (.ref 0), some (.int (nI g)), some (.int (nI (dn 255 (P ||| A)))), some (.int (nI (wfk p (r + 1) s (dn 255 (P ||| A)) P A g k ||| 2 ^ k ||| 0))), some (.int (nI k + nI 1)), some (.int (nI 3)), some (.int (nI (eM (an p 61 (r + 1) s true P (A ||| 2 ^ k)))))]) (st' := []) (σ' := (am_wr σ2 29 k (nI 0))) rfl ?_
            refine am_ls (ls' := [some (.ref 0), some (.int (nI g)), some (.int (nI (dn 255 (P ||| A)))), some (.int (nI (wfk p (r + 1) s (dn 255 (P ||| A)) P A g k ||| 2 ^ k ||| 0))), some (.int (nI (k + 1))), some (.int (nI 3)), some (.int (nI (eM (an p 61 (r + 1) s true P (A ||| 2 ^ k)))))]) (by rw [nI_add]) ?_
            refine am_run 1 (pc' := 10) (ls' := [some (.ref 0), some (.int (nI g)), some (.int (nI (dn 255 (P ||| A)))), some (.int (nI (wfk p (r + 1) s (dn 255 (P ||| A)) P A g k ||| 2 ^ k ||| 0))), some (.int (nI (k + 1))), some (.int (nI 3)), some (.int (nI (eM (an p 61 (r + 1) s true P (A ||| 2 ^ k)))))]) (st' := []) (σ' := (am_wr σ2 29 k (nI 0))) rfl ?_
            have e : wfk p (r + 1) s (dn 255 (P ||| A)) P A g (k + 1) = wfk p (r + 1) s (dn 255 (P ||| A)) P A g k ||| 2 ^ k ||| 0 := by
              rw [show wfk p (r + 1) s (dn 255 (P ||| A)) P A g (k + 1) = wfk p (r + 1) s (dn 255 (P ||| A)) P A g k ||| 2 ^ k from if_pos ⟨hb, by unfold wt1 dcd; simp [*]⟩]
              simp only [Nat.or_zero, Nat.or_assoc, Nat.or_self]
            refine am_ls (ls' := [some (.ref 0), some (.int (nI g)), some (.int (nI (dn 255 (P ||| A)))), some (.int (nI (wfk p (r + 1) s (dn 255 (P ||| A)) P A g (k + 1)))), some (.int (nI (k + 1))), some (.int (nI 3)), some (.int (nI (eM (an p 61 (r + 1) s true P (A ||| 2 ^ k)))))]) (by rw [e]) ?_
            exact c_waitsFor_loop hd hM hs hv hdj hP hA hg hop hq m (k + 1) _ _ _ (by omega) hI2
          · show am_G _ M_X10_waitsFor _ 92 [some (.ref 0), some (.int (nI g)), some (.int (nI (dn 255 (P ||| A)))), some (.int (nI (wfk p (r + 1) s (dn 255 (P ||| A)) P A g k ||| 2 ^ k))), some (.int (nI k)), some (.int (nI 2)), some (.int (nI (eM (an p 61 (r + 1) s true P (A ||| 2 ^ k)))))] [.int (nI 0), .int (nI (wfk p (r + 1) s (dn 255 (P ||| A)) P A g k ||| 2 ^ k))] σ2
            refine am_if (ty := 95) (tn := 102) rfl (by decide) rfl rfl (fun (h_16 : nI 0 = 0) => ?_) (fun (h_16 : ¬ (nI 0 = 0)) => ?_)
            rotate_left
            · exact absurd (by decide) h_16
            refine am_run 3 (pc' := 99) (ls' := [some (.ref 0), some (.int (nI g)), some (.int (nI (dn 255 (P ||| A)))), some (.int (nI (wfk p (r + 1) s (dn 255 (P ||| A)) P A g k ||| 2 ^ k))), some (.int (nI k)), some (.int (nI 2)), some (.int (nI (eM (an p 61 (r + 1) s true P (A ||| 2 ^ k)))))]) (st' := [.int ((nI 1) <<< ((nI k) &&& 31)), .int (nI (wfk p (r + 1) s (dn 255 (P ||| A)) P A g k ||| 2 ^ k))]) (σ' := σ2) rfl ?_
            refine am_top (v' := nI (2 ^ k)) (by rw [nx_shl _ (by omega), Nat.one_mul]) ?_
            refine am_run 2 (pc' := 104) (ls' := [some (.ref 0), some (.int (nI g)), some (.int (nI (dn 255 (P ||| A)))), some (.int (nI (wfk p (r + 1) s (dn 255 (P ||| A)) P A g k ||| 2 ^ k))), some (.int (nI k)), some (.int (nI 2)), some (.int (nI (eM (an p 61 (r + 1) s true P (A ||| 2 ^ k)))))]) (st' := [.int (nI (wfk p (r + 1) s (dn 255 (P ||| A)) P A g k ||| 2 ^ k) ||| nI (2 ^ k))]) (σ' := σ2) rfl ?_
            refine am_top (v' := nI (wfk p (r + 1) s (dn 255 (P ||| A)) P A g k ||| 2 ^ k ||| 2 ^ k)) (nx_or _ _) ?_
            refine am_run 5 (pc' := 112) (ls' := [some (.ref 0), some (.int (nI g)), some (.int (nI (dn 255 (P ||| A)))), some (.int (nI (wfk p (r + 1) s (dn 255 (P ||| A)) P A g k ||| 2 ^ k ||| 2 ^ k))), some (.int (nI k)), some (.int (nI 2)), some (.int (nI (eM (an p 61 (r + 1) s true P (A ||| 2 ^ k)))))]) (st' := [.int (nI 0), .int (nI k), .ref 29]) (σ' := σ2) rfl ?_
            refine am_iastN (n := 8) rfl rfl rfl (by omega) (by decide) ?_
            refine am_run 1 (pc' := 116) (ls' := [some (.ref 0), some (.int (nI g)), some (.int (nI (dn 255 (P ||| A)))), some (.int (nI (wfk p (r + 1) s (dn 255 (P ||| A)) P A g k ||| 2 ^ k ||| 2 ^ k))), some (.int (nI k)), some (.int (nI 2 + nI 1)), some (.int (nI (eM (an p 61 (r + 1) s true P (A ||| 2 ^ k)))))]) (st' := []) (σ' := (am_wr σ2 29 k (nI 0))) rfl ?_
            refine am_ls (ls' := [some (.ref 0), some (.int (nI g)), some (.int (nI (dn 255 (P ||| A)))), some (.int (nI (wfk p (r + 1) s (dn 255 (P ||| A)) P A g k ||| 2 ^ k ||| 2 ^ k))), some (.int (nI k)), some (.int (nI 3)), some (.int (nI (eM (an p 61 (r + 1) s true P (A ||| 2 ^ k)))))]) (by rw [nI_add]) ?_
            refine am_run 3 (pc' := 31) (ls' := [some (.ref 0), some (.int (nI g)), some (.int (nI (dn 255 (P ||| A)))), some (.int (nI (wfk p (r + 1) s (dn 255 (P ||| A)) P A g k ||| 2 ^ k ||| 2 ^ k))), some (.int (nI k)), some (.int (nI 3)), some (.int (nI (eM (an p 61 (r + 1) s true P (A ||| 2 ^ k)))))]) (st' := [.int (nI 2), .int (nI 3)]) (σ' := (am_wr σ2 29 k (nI 0))) rfl ?_
            refine am_ic (ty := 119) (tn := 34) rfl (by decide) rfl rfl (fun (h_17 : nI 2 < nI 3) => ?_) (fun (h_17 : ¬ (nI 2 < nI 3)) => ?_)
            rotate_left
            · exact absurd (by decide) h_17
            refine am_run 1 (pc' := 122) (ls' := [some (.ref 0), some (.int (nI g)), some (.int (nI (dn 255 (P ||| A)))), some (.int (nI (wfk p (r + 1) s (dn 255 (P ||| A)) P A g k ||| 2 ^ k ||| 2 ^ k))), some (.int (nI k + nI 1)), some (.int (nI 3)), some (.int (nI (eM (an p 61 (r + 1) s true P (A ||| 2 ^ k)))))]) (st' := []) (σ' := (am_wr σ2 29 k (nI 0))) rfl ?_
            refine am_ls (ls' := [some (.ref 0), some (.int (nI g)), some (.int (nI (dn 255 (P ||| A)))), some (.int (nI (wfk p (r + 1) s (dn 255 (P ||| A)) P A g k ||| 2 ^ k ||| 2 ^ k))), some (.int (nI (k + 1))), some (.int (nI 3)), some (.int (nI (eM (an p 61 (r + 1) s true P (A ||| 2 ^ k)))))]) (by rw [nI_add]) ?_
            refine am_run 1 (pc' := 10) (ls' := [some (.ref 0), some (.int (nI g)), some (.int (nI (dn 255 (P ||| A)))), some (.int (nI (wfk p (r + 1) s (dn 255 (P ||| A)) P A g k ||| 2 ^ k ||| 2 ^ k))), some (.int (nI (k + 1))), some (.int (nI 3)), some (.int (nI (eM (an p 61 (r + 1) s true P (A ||| 2 ^ k)))))]) (st' := []) (σ' := (am_wr σ2 29 k (nI 0))) rfl ?_
            have e : wfk p (r + 1) s (dn 255 (P ||| A)) P A g (k + 1) = wfk p (r + 1) s (dn 255 (P ||| A)) P A g k ||| 2 ^ k ||| 2 ^ k := by
              rw [show wfk p (r + 1) s (dn 255 (P ||| A)) P A g (k + 1) = wfk p (r + 1) s (dn 255 (P ||| A)) P A g k ||| 2 ^ k from if_pos ⟨hb, by unfold wt1 dcd; simp [*]⟩]
              simp only [Nat.or_zero, Nat.or_assoc, Nat.or_self]
            refine am_ls (ls' := [some (.ref 0), some (.int (nI g)), some (.int (nI (dn 255 (P ||| A)))), some (.int (nI (wfk p (r + 1) s (dn 255 (P ||| A)) P A g (k + 1)))), some (.int (nI (k + 1))), some (.int (nI 3)), some (.int (nI (eM (an p 61 (r + 1) s true P (A ||| 2 ^ k)))))]) (by rw [e]) ?_
            exact c_waitsFor_loop hd hM hs hv hdj hP hA hg hop hq m (k + 1) _ _ _ (by omega) hI2
      · show am_G _ M_X10_waitsFor _ 80 [some (.ref 0), some (.int (nI g)), some (.int (nI (dn 255 (P ||| A)))), some (.int (nI (wfk p (r + 1) s (dn 255 (P ||| A)) P A g k))), some (.int (nI k)), some (.int (nI 1)), some (.int (nI (eM (an p 61 (r + 1) s true (P ||| 2 ^ k) A))))] [.int (nI 0), .int (nI (wfk p (r + 1) s (dn 255 (P ||| A)) P A g k))] σ1
        refine am_if (ty := 83) (tn := 95) rfl (by decide) rfl rfl (fun (h_18 : nI 0 = 0) => ?_) (fun (h_18 : ¬ (nI 0 = 0)) => ?_)
        rotate_left
        · exact absurd (by decide) h_18
        refine am_run 1 (pc' := 85) (ls' := [some (.ref 0), some (.int (nI g)), some (.int (nI (dn 255 (P ||| A)))), some (.int (nI (wfk p (r + 1) s (dn 255 (P ||| A)) P A g k))), some (.int (nI k)), some (.int (nI 1)), some (.int (nI (eM (an p 61 (r + 1) s true (P ||| 2 ^ k) A))))]) (st' := [.int (nI (eM (an p 61 (r + 1) s true (P ||| 2 ^ k) A))), .int (nI (wfk p (r + 1) s (dn 255 (P ||| A)) P A g k))]) (σ' := σ1) rfl ?_
        refine am_invs (y := 186) (as := [.int (nI (eM (an p 61 (r + 1) s true (P ||| 2 ^ k) A)))]) (rest := [.int (nI (wfk p (r + 1) s (dn 255 (P ||| A)) P A g k))]) rfl rfl rfl rfl rfl rfl (Nat.le_of_ble_eq_true rfl) ?_
        refine c_m_can (by omega) (r := (an p 61 (r + 1) s true (P ||| 2 ^ k) A)) ok1 ?_
        show am_G _ M_X10_waitsFor _ 88 [some (.ref 0), some (.int (nI g)), some (.int (nI (dn 255 (P ||| A)))), some (.int (nI (wfk p (r + 1) s (dn 255 (P ||| A)) P A g k))), some (.int (nI k)), some (.int (nI 1)), some (.int (nI (eM (an p 61 (r + 1) s true (P ||| 2 ^ k) A))))] [.int (nI ((an p 61 (r + 1) s true (P ||| 2 ^ k) A).2.1)), .int (nI (wfk p (r + 1) s (dn 255 (P ||| A)) P A g k))] σ1
        refine am_run 1 (pc' := 89) (ls' := [some (.ref 0), some (.int (nI g)), some (.int (nI (dn 255 (P ||| A)))), some (.int (nI (wfk p (r + 1) s (dn 255 (P ||| A)) P A g k))), some (.int (nI k)), some (.int (nI 1)), some (.int (nI (eM (an p 61 (r + 1) s true (P ||| 2 ^ k) A))))]) (st' := [.int (nI g), .int (nI ((an p 61 (r + 1) s true (P ||| 2 ^ k) A).2.1)), .int (nI (wfk p (r + 1) s (dn 255 (P ||| A)) P A g k))]) (σ' := σ1) rfl ?_
        refine am_invs (y := 149) (as := [.int (nI ((an p 61 (r + 1) s true (P ||| 2 ^ k) A).2.1)), .int (nI g)]) (rest := [.int (nI (wfk p (r + 1) s (dn 255 (P ||| A)) P A g k))]) rfl rfl rfl rfl rfl rfl (Nat.le_of_ble_eq_true rfl) ?_
        refine c_m_has (by omega) (a := (an p 61 (r + 1) s true (P ||| 2 ^ k) A).2.1) (s := g) (by omega) (by omega) (fun hb_19 => ?_) (fun hb_19 => ?_)
        · show am_G _ M_X10_waitsFor _ 92 [some (.ref 0), some (.int (nI g)), some (.int (nI (dn 255 (P ||| A)))), some (.int (nI (wfk p (r + 1) s (dn 255 (P ||| A)) P A g k))), some (.int (nI k)), some (.int (nI 1)), some (.int (nI (eM (an p 61 (r + 1) s true (P ||| 2 ^ k) A))))] [.int (nI 1), .int (nI (wfk p (r + 1) s (dn 255 (P ||| A)) P A g k))] σ1
          refine am_if (ty := 95) (tn := 102) rfl (by decide) rfl rfl (fun (h_20 : nI 1 = 0) => ?_) (fun (h_20 : ¬ (nI 1 = 0)) => ?_)
          · exact absurd h_20 (by decide)
          refine am_run 2 (pc' := 104) (ls' := [some (.ref 0), some (.int (nI g)), some (.int (nI (dn 255 (P ||| A)))), some (.int (nI (wfk p (r + 1) s (dn 255 (P ||| A)) P A g k))), some (.int (nI k)), some (.int (nI 1)), some (.int (nI (eM (an p 61 (r + 1) s true (P ||| 2 ^ k) A))))]) (st' := [.int (nI (wfk p (r + 1) s (dn 255 (P ||| A)) P A g k) ||| nI 0)]) (σ' := σ1) rfl ?_
          refine am_top (v' := nI (wfk p (r + 1) s (dn 255 (P ||| A)) P A g k ||| 0)) (nx_or _ _) ?_
          refine am_run 5 (pc' := 112) (ls' := [some (.ref 0), some (.int (nI g)), some (.int (nI (dn 255 (P ||| A)))), some (.int (nI (wfk p (r + 1) s (dn 255 (P ||| A)) P A g k ||| 0))), some (.int (nI k)), some (.int (nI 1)), some (.int (nI (eM (an p 61 (r + 1) s true (P ||| 2 ^ k) A))))]) (st' := [.int (nI 0), .int (nI k), .ref 29]) (σ' := σ1) rfl ?_
          refine am_iastN (n := 8) rfl rfl rfl (by omega) (by decide) ?_
          refine am_run 1 (pc' := 116) (ls' := [some (.ref 0), some (.int (nI g)), some (.int (nI (dn 255 (P ||| A)))), some (.int (nI (wfk p (r + 1) s (dn 255 (P ||| A)) P A g k ||| 0))), some (.int (nI k)), some (.int (nI 1 + nI 1)), some (.int (nI (eM (an p 61 (r + 1) s true (P ||| 2 ^ k) A))))]) (st' := []) (σ' := (am_wr σ1 29 k (nI 0))) rfl ?_
          refine am_ls (ls' := [some (.ref 0), some (.int (nI g)), some (.int (nI (dn 255 (P ||| A)))), some (.int (nI (wfk p (r + 1) s (dn 255 (P ||| A)) P A g k ||| 0))), some (.int (nI k)), some (.int (nI 2)), some (.int (nI (eM (an p 61 (r + 1) s true (P ||| 2 ^ k) A))))]) (by rw [nI_add]) ?_
          refine am_run 3 (pc' := 31) (ls' := [some (.ref 0), some (.int (nI g)), some (.int (nI (dn 255 (P ||| A)))), some (.int (nI (wfk p (r + 1) s (dn 255 (P ||| A)) P A g k ||| 0))), some (.int (nI k)), some (.int (nI 2)), some (.int (nI (eM (an p 61 (r + 1) s true (P ||| 2 ^ k) A))))]) (st' := [.int (nI 2), .int (nI 2)]) (σ' := (am_wr σ1 29 k (nI 0))) rfl ?_
          refine am_ic (ty := 119) (tn := 34) rfl (by decide) rfl rfl (fun (h_21 : nI 2 < nI 2) => ?_) (fun (h_21 : ¬ (nI 2 < nI 2)) => ?_)
          · exact absurd h_21 (by decide)
          refine am_run 2 (pc' := 37) (ls' := [some (.ref 0), some (.int (nI g)), some (.int (nI (dn 255 (P ||| A)))), some (.int (nI (wfk p (r + 1) s (dn 255 (P ||| A)) P A g k ||| 0))), some (.int (nI k)), some (.int (nI 2)), some (.int (nI (eM (an p 61 (r + 1) s true (P ||| 2 ^ k) A))))]) (st' := [.int (nI k), .int (nI (dn 255 (P ||| A)))]) (σ' := (am_wr σ1 29 k (nI 0))) rfl ?_
          refine am_invs (y := 149) (as := [.int (nI (dn 255 (P ||| A))), .int (nI k)]) (rest := []) rfl rfl rfl rfl rfl rfl (Nat.le_of_ble_eq_true rfl) ?_
          refine c_m_has (by omega) (a := dn 255 (P ||| A)) (s := k) (by omega) (by omega) (fun _ => ?_) (fun z => absurd (hb.symm.trans z) (by decide))
          show am_G _ M_X10_waitsFor _ 40 [some (.ref 0), some (.int (nI g)), some (.int (nI (dn 255 (P ||| A)))), some (.int (nI (wfk p (r + 1) s (dn 255 (P ||| A)) P A g k ||| 0))), some (.int (nI k)), some (.int (nI 2)), some (.int (nI (eM (an p 61 (r + 1) s true (P ||| 2 ^ k) A))))] [.int (nI 1)] (am_wr σ1 29 k (nI 0))
          refine am_if (ty := 119) (tn := 43) rfl (by decide) rfl rfl (fun (h_22 : nI 1 = 0) => ?_) (fun (h_22 : ¬ (nI 1 = 0)) => ?_)
          · exact absurd h_22 (by decide)
          refine am_run 4 (pc' := 51) (ls' := [some (.ref 0), some (.int (nI g)), some (.int (nI (dn 255 (P ||| A)))), some (.int (nI (wfk p (r + 1) s (dn 255 (P ||| A)) P A g k ||| 0))), some (.int (nI k)), some (.int (nI 2)), some (.int (nI (eM (an p 61 (r + 1) s true (P ||| 2 ^ k) A))))]) (st' := [.int (nI 2), .int (nI k), .ref 29]) (σ' := (am_wr σ1 29 k (nI 0))) rfl ?_
          refine am_iastN (n := 8) rfl rfl rfl (by omega) (by decide) ?_
          refine am_run 3 (pc' := 57) (ls' := [some (.ref 0), some (.int (nI g)), some (.int (nI (dn 255 (P ||| A)))), some (.int (nI (wfk p (r + 1) s (dn 255 (P ||| A)) P A g k ||| 0))), some (.int (nI k)), some (.int (nI 2)), some (.int (nI (eM (an p 61 (r + 1) s true (P ||| 2 ^ k) A))))]) (st' := [.int (σ1.1 0 38), .ref 0]) (σ' := (am_wr (am_wr σ1 29 k (nI 0)) 29 k (nI 2))) rfl ?_
          refine am_top (v' := nI j) (by exact i381) ?_
          refine am_run 2 (pc' := 61) (ls' := [some (.ref 0), some (.int (nI g)), some (.int (nI (dn 255 (P ||| A)))), some (.int (nI (wfk p (r + 1) s (dn 255 (P ||| A)) P A g k ||| 0))), some (.int (nI k)), some (.int (nI 2)), some (.int (nI (eM (an p 61 (r + 1) s true (P ||| 2 ^ k) A))))]) (st' := [.int (σ1.1 0 39), .int (nI j), .ref 0]) (σ' := (am_wr (am_wr σ1 29 k (nI 0)) 29 k (nI 2))) rfl ?_
          refine am_top (v' := nI s) (by exact i391) ?_
          refine am_invv (y := 209) (b := 0) (as := [.int (nI j), .int (nI s)]) (rest := []) rfl rfl rfl rfl rfl rfl rfl (Nat.le_of_ble_eq_true rfl) ?_
          refine c_lays_how (by omega) hM hs hI1 (t := k) (h := 2) (P' := P) (A' := A ||| 2 ^ k) (by omega) hop0 (sts_a hpk) (dj_sa hdj hpk) hP (or_lt8 hA hk2) (fun σ2 hI2 h42 hB2 hT2 => ?_)
          have i382 := hI2.2.1
          have i392 := hI2.2.2.1
          show am_G _ M_X10_waitsFor _ 64 [some (.ref 0), some (.int (nI g)), some (.int (nI (dn 255 (P ||| A)))), some (.int (nI (wfk p (r + 1) s (dn 255 (P ||| A)) P A g k ||| 0))), some (.int (nI k)), some (.int (nI 2)), some (.int (nI (eM (an p 61 (r + 1) s true (P ||| 2 ^ k) A))))] [] σ2
          refine am_run 1 (pc' := 65) (ls' := [some (.ref 0), some (.int (nI g)), some (.int (nI (dn 255 (P ||| A)))), some (.int (nI (wfk p (r + 1) s (dn 255 (P ||| A)) P A g k ||| 0))), some (.int (nI k)), some (.int (nI 2)), some (.int (nI (eM (an p 61 (r + 1) s true (P ||| 2 ^ k) A))))]) (st' := [.ref 0]) (σ' := σ2) rfl ?_
          refine am_invv (y := 211) (b := 0) (as := []) (rest := []) rfl rfl rfl rfl rfl rfl rfl (Nat.le_of_ble_eq_true rfl) ?_
          refine c_m_whole (by omega) hB2 h42 hrn hr0 (hT2 r hrn 0 (Nat.pow_pos (by decide))) hv ?_
          have ok2 := an_ok hW 61 (r + 1) s true P (A ||| 2 ^ k) (show r + 1 ≤ n by omega)
          obtain ⟨c12, c22, -, -⟩ := id ok2
          show am_G _ M_X10_waitsFor _ 68 [some (.ref 0), some (.int (nI g)), some (.int (nI (dn 255 (P ||| A)))), some (.int (nI (wfk p (r + 1) s (dn 255 (P ||| A)) P A g k ||| 0))), some (.int (nI k)), some (.int (nI 2)), some (.int (nI (eM (an p 61 (r + 1) s true (P ||| 2 ^ k) A))))] [.int (nI (eM (an p 61 (r + 1) s true P (A ||| 2 ^ k))))] σ2
          refine am_run 3 (pc' := 73) (ls' := [some (.ref 0), some (.int (nI g)), some (.int (nI (dn 255 (P ||| A)))), some (.int (nI (wfk p (r + 1) s (dn 255 (P ||| A)) P A g k ||| 0))), some (.int (nI k)), some (.int (nI 2)), some (.int (nI (eM (an p 61 (r + 1) s true P (A ||| 2 ^ k)))))]) (st' := [.int (nI (eM (an p 61 (r + 1) s true P (A ||| 2 ^ k)))), .int (nI (wfk p (r + 1) s (dn 255 (P ||| A)) P A g k ||| 0))]) (σ' := σ2) rfl ?_
          refine am_invs (y := 185) (as := [.int (nI (eM (an p 61 (r + 1) s true P (A ||| 2 ^ k))))]) (rest := [.int (nI (wfk p (r + 1) s (dn 255 (P ||| A)) P A g k ||| 0))]) rfl rfl rfl rfl rfl rfl (Nat.le_of_ble_eq_true rfl) ?_
          refine c_m_must (by omega) (r := (an p 61 (r + 1) s true P (A ||| 2 ^ k))) ok2 ?_
          show am_G _ M_X10_waitsFor _ 76 [some (.ref 0), some (.int (nI g)), some (.int (nI (dn 255 (P ||| A)))), some (.int (nI (wfk p (r + 1) s (dn 255 (P ||| A)) P A g k ||| 0))), some (.int (nI k)), some (.int (nI 2)), some (.int (nI (eM (an p 61 (r + 1) s true P (A ||| 2 ^ k)))))] [.int (nI ((an p 61 (r + 1) s true P (A ||| 2 ^ k)).1)), .int (nI (wfk p (r + 1) s (dn 255 (P ||| A)) P A g k ||| 0))] σ2
          refine am_run 1 (pc' := 77) (ls' := [some (.ref 0), some (.int (nI g)), some (.int (nI (dn 255 (P ||| A)))), some (.int (nI (wfk p (r + 1) s (dn 255 (P ||| A)) P A g k ||| 0))), some (.int (nI k)), some (.int (nI 2)), some (.int (nI (eM (an p 61 (r + 1) s true P (A ||| 2 ^ k)))))]) (st' := [.int (nI g), .int (nI ((an p 61 (r + 1) s true P (A ||| 2 ^ k)).1)), .int (nI (wfk p (r + 1) s (dn 255 (P ||| A)) P A g k ||| 0))]) (σ' := σ2) rfl ?_
          refine am_invs (y := 149) (as := [.int (nI ((an p 61 (r + 1) s true P (A ||| 2 ^ k)).1)), .int (nI g)]) (rest := [.int (nI (wfk p (r + 1) s (dn 255 (P ||| A)) P A g k ||| 0))]) rfl rfl rfl rfl rfl rfl (Nat.le_of_ble_eq_true rfl) ?_
          refine c_m_has (by omega) (a := (an p 61 (r + 1) s true P (A ||| 2 ^ k)).1) (s := g) (by omega) (by omega) (fun hb_23 => ?_) (fun hb_23 => ?_)
          · show am_G _ M_X10_waitsFor _ 80 [some (.ref 0), some (.int (nI g)), some (.int (nI (dn 255 (P ||| A)))), some (.int (nI (wfk p (r + 1) s (dn 255 (P ||| A)) P A g k ||| 0))), some (.int (nI k)), some (.int (nI 2)), some (.int (nI (eM (an p 61 (r + 1) s true P (A ||| 2 ^ k)))))] [.int (nI 1), .int (nI (wfk p (r + 1) s (dn 255 (P ||| A)) P A g k ||| 0))] σ2
            refine am_if (ty := 83) (tn := 95) rfl (by decide) rfl rfl (fun (h_24 : nI 1 = 0) => ?_) (fun (h_24 : ¬ (nI 1 = 0)) => ?_)
            · exact absurd h_24 (by decide)
            refine am_run 3 (pc' := 99) (ls' := [some (.ref 0), some (.int (nI g)), some (.int (nI (dn 255 (P ||| A)))), some (.int (nI (wfk p (r + 1) s (dn 255 (P ||| A)) P A g k ||| 0))), some (.int (nI k)), some (.int (nI 2)), some (.int (nI (eM (an p 61 (r + 1) s true P (A ||| 2 ^ k)))))]) (st' := [.int ((nI 1) <<< ((nI k) &&& 31)), .int (nI (wfk p (r + 1) s (dn 255 (P ||| A)) P A g k ||| 0))]) (σ' := σ2) rfl ?_
            refine am_top (v' := nI (2 ^ k)) (by rw [nx_shl _ (by omega), Nat.one_mul]) ?_
            refine am_run 2 (pc' := 104) (ls' := [some (.ref 0), some (.int (nI g)), some (.int (nI (dn 255 (P ||| A)))), some (.int (nI (wfk p (r + 1) s (dn 255 (P ||| A)) P A g k ||| 0))), some (.int (nI k)), some (.int (nI 2)), some (.int (nI (eM (an p 61 (r + 1) s true P (A ||| 2 ^ k)))))]) (st' := [.int (nI (wfk p (r + 1) s (dn 255 (P ||| A)) P A g k ||| 0) ||| nI (2 ^ k))]) (σ' := σ2) rfl ?_
            refine am_top (v' := nI (wfk p (r + 1) s (dn 255 (P ||| A)) P A g k ||| 0 ||| 2 ^ k)) (nx_or _ _) ?_
            refine am_run 5 (pc' := 112) (ls' := [some (.ref 0), some (.int (nI g)), some (.int (nI (dn 255 (P ||| A)))), some (.int (nI (wfk p (r + 1) s (dn 255 (P ||| A)) P A g k ||| 0 ||| 2 ^ k))), some (.int (nI k)), some (.int (nI 2)), some (.int (nI (eM (an p 61 (r + 1) s true P (A ||| 2 ^ k)))))]) (st' := [.int (nI 0), .int (nI k), .ref 29]) (σ' := σ2) rfl ?_
            refine am_iastN (n := 8) rfl rfl rfl (by omega) (by decide) ?_
            refine am_run 1 (pc' := 116) (ls' := [some (.ref 0), some (.int (nI g)), some (.int (nI (dn 255 (P ||| A)))), some (.int (nI (wfk p (r + 1) s (dn 255 (P ||| A)) P A g k ||| 0 ||| 2 ^ k))), some (.int (nI k)), some (.int (nI 2 + nI 1)), some (.int (nI (eM (an p 61 (r + 1) s true P (A ||| 2 ^ k)))))]) (st' := []) (σ' := (am_wr σ2 29 k (nI 0))) rfl ?_
            refine am_ls (ls' := [some (.ref 0), some (.int (nI g)), some (.int (nI (dn 255 (P ||| A)))), some (.int (nI (wfk p (r + 1) s (dn 255 (P ||| A)) P A g k ||| 0 ||| 2 ^ k))), some (.int (nI k)), some (.int (nI 3)), some (.int (nI (eM (an p 61 (r + 1) s true P (A ||| 2 ^ k)))))]) (by rw [nI_add]) ?_
            refine am_run 3 (pc' := 31) (ls' := [some (.ref 0), some (.int (nI g)), some (.int (nI (dn 255 (P ||| A)))), some (.int (nI (wfk p (r + 1) s (dn 255 (P ||| A)) P A g k ||| 0 ||| 2 ^ k))), some (.int (nI k)), some (.int (nI 3)), some (.int (nI (eM (an p 61 (r + 1) s true P (A ||| 2 ^ k)))))]) (st' := [.int (nI 2), .int (nI 3)]) (σ' := (am_wr σ2 29 k (nI 0))) rfl ?_
            refine am_ic (ty := 119) (tn := 34) rfl (by decide) rfl rfl (fun (h_25 : nI 2 < nI 3) => ?_) (fun (h_25 : ¬ (nI 2 < nI 3)) => ?_)
            rotate_left
            · exact absurd (by decide) h_25
            refine am_run 1 (pc' := 122) (ls' := [some (.ref 0), some (.int (nI g)), some (.int (nI (dn 255 (P ||| A)))), some (.int (nI (wfk p (r + 1) s (dn 255 (P ||| A)) P A g k ||| 0 ||| 2 ^ k))), some (.int (nI k + nI 1)), some (.int (nI 3)), some (.int (nI (eM (an p 61 (r + 1) s true P (A ||| 2 ^ k)))))]) (st' := []) (σ' := (am_wr σ2 29 k (nI 0))) rfl ?_
            refine am_ls (ls' := [some (.ref 0), some (.int (nI g)), some (.int (nI (dn 255 (P ||| A)))), some (.int (nI (wfk p (r + 1) s (dn 255 (P ||| A)) P A g k ||| 0 ||| 2 ^ k))), some (.int (nI (k + 1))), some (.int (nI 3)), some (.int (nI (eM (an p 61 (r + 1) s true P (A ||| 2 ^ k)))))]) (by rw [nI_add]) ?_
            refine am_run 1 (pc' := 10) (ls' := [some (.ref 0), some (.int (nI g)), some (.int (nI (dn 255 (P ||| A)))), some (.int (nI (wfk p (r + 1) s (dn 255 (P ||| A)) P A g k ||| 0 ||| 2 ^ k))), some (.int (nI (k + 1))), some (.int (nI 3)), some (.int (nI (eM (an p 61 (r + 1) s true P (A ||| 2 ^ k)))))]) (st' := []) (σ' := (am_wr σ2 29 k (nI 0))) rfl ?_
            have e : wfk p (r + 1) s (dn 255 (P ||| A)) P A g (k + 1) = wfk p (r + 1) s (dn 255 (P ||| A)) P A g k ||| 0 ||| 2 ^ k := by
              rw [show wfk p (r + 1) s (dn 255 (P ||| A)) P A g (k + 1) = wfk p (r + 1) s (dn 255 (P ||| A)) P A g k ||| 2 ^ k from if_pos ⟨hb, by unfold wt1 dcd; simp [*]⟩]
              simp only [Nat.or_zero, Nat.or_assoc, Nat.or_self]
            refine am_ls (ls' := [some (.ref 0), some (.int (nI g)), some (.int (nI (dn 255 (P ||| A)))), some (.int (nI (wfk p (r + 1) s (dn 255 (P ||| A)) P A g (k + 1)))), some (.int (nI (k + 1))), some (.int (nI 3)), some (.int (nI (eM (an p 61 (r + 1) s true P (A ||| 2 ^ k)))))]) (by rw [e]) ?_
            exact c_waitsFor_loop hd hM hs hv hdj hP hA hg hop hq m (k + 1) _ _ _ (by omega) hI2
          · show am_G _ M_X10_waitsFor _ 80 [some (.ref 0), some (.int (nI g)), some (.int (nI (dn 255 (P ||| A)))), some (.int (nI (wfk p (r + 1) s (dn 255 (P ||| A)) P A g k ||| 0))), some (.int (nI k)), some (.int (nI 2)), some (.int (nI (eM (an p 61 (r + 1) s true P (A ||| 2 ^ k)))))] [.int (nI 0), .int (nI (wfk p (r + 1) s (dn 255 (P ||| A)) P A g k ||| 0))] σ2
            refine am_if (ty := 83) (tn := 95) rfl (by decide) rfl rfl (fun (h_26 : nI 0 = 0) => ?_) (fun (h_26 : ¬ (nI 0 = 0)) => ?_)
            rotate_left
            · exact absurd (by decide) h_26
            refine am_run 1 (pc' := 85) (ls' := [some (.ref 0), some (.int (nI g)), some (.int (nI (dn 255 (P ||| A)))), some (.int (nI (wfk p (r + 1) s (dn 255 (P ||| A)) P A g k ||| 0))), some (.int (nI k)), some (.int (nI 2)), some (.int (nI (eM (an p 61 (r + 1) s true P (A ||| 2 ^ k)))))]) (st' := [.int (nI (eM (an p 61 (r + 1) s true P (A ||| 2 ^ k)))), .int (nI (wfk p (r + 1) s (dn 255 (P ||| A)) P A g k ||| 0))]) (σ' := σ2) rfl ?_
            refine am_invs (y := 186) (as := [.int (nI (eM (an p 61 (r + 1) s true P (A ||| 2 ^ k))))]) (rest := [.int (nI (wfk p (r + 1) s (dn 255 (P ||| A)) P A g k ||| 0))]) rfl rfl rfl rfl rfl rfl (Nat.le_of_ble_eq_true rfl) ?_
            refine c_m_can (by omega) (r := (an p 61 (r + 1) s true P (A ||| 2 ^ k))) ok2 ?_
            show am_G _ M_X10_waitsFor _ 88 [some (.ref 0), some (.int (nI g)), some (.int (nI (dn 255 (P ||| A)))), some (.int (nI (wfk p (r + 1) s (dn 255 (P ||| A)) P A g k ||| 0))), some (.int (nI k)), some (.int (nI 2)), some (.int (nI (eM (an p 61 (r + 1) s true P (A ||| 2 ^ k)))))] [.int (nI ((an p 61 (r + 1) s true P (A ||| 2 ^ k)).2.1)), .int (nI (wfk p (r + 1) s (dn 255 (P ||| A)) P A g k ||| 0))] σ2
            refine am_run 1 (pc' := 89) (ls' := [some (.ref 0), some (.int (nI g)), some (.int (nI (dn 255 (P ||| A)))), some (.int (nI (wfk p (r + 1) s (dn 255 (P ||| A)) P A g k ||| 0))), some (.int (nI k)), some (.int (nI 2)), some (.int (nI (eM (an p 61 (r + 1) s true P (A ||| 2 ^ k)))))]) (st' := [.int (nI g), .int (nI ((an p 61 (r + 1) s true P (A ||| 2 ^ k)).2.1)), .int (nI (wfk p (r + 1) s (dn 255 (P ||| A)) P A g k ||| 0))]) (σ' := σ2) rfl ?_
            refine am_invs (y := 149) (as := [.int (nI ((an p 61 (r + 1) s true P (A ||| 2 ^ k)).2.1)), .int (nI g)]) (rest := [.int (nI (wfk p (r + 1) s (dn 255 (P ||| A)) P A g k ||| 0))]) rfl rfl rfl rfl rfl rfl (Nat.le_of_ble_eq_true rfl) ?_
            refine c_m_has (by omega) (a := (an p 61 (r + 1) s true P (A ||| 2 ^ k)).2.1) (s := g) (by omega) (by omega) (fun hb_27 => ?_) (fun hb_27 => ?_)
            · show am_G _ M_X10_waitsFor _ 92 [some (.ref 0), some (.int (nI g)), some (.int (nI (dn 255 (P ||| A)))), some (.int (nI (wfk p (r + 1) s (dn 255 (P ||| A)) P A g k ||| 0))), some (.int (nI k)), some (.int (nI 2)), some (.int (nI (eM (an p 61 (r + 1) s true P (A ||| 2 ^ k)))))] [.int (nI 1), .int (nI (wfk p (r + 1) s (dn 255 (P ||| A)) P A g k ||| 0))] σ2
              refine am_if (ty := 95) (tn := 102) rfl (by decide) rfl rfl (fun (h_28 : nI 1 = 0) => ?_) (fun (h_28 : ¬ (nI 1 = 0)) => ?_)
              · exact absurd h_28 (by decide)
              refine am_run 2 (pc' := 104) (ls' := [some (.ref 0), some (.int (nI g)), some (.int (nI (dn 255 (P ||| A)))), some (.int (nI (wfk p (r + 1) s (dn 255 (P ||| A)) P A g k ||| 0))), some (.int (nI k)), some (.int (nI 2)), some (.int (nI (eM (an p 61 (r + 1) s true P (A ||| 2 ^ k)))))]) (st' := [.int (nI (wfk p (r + 1) s (dn 255 (P ||| A)) P A g k ||| 0) ||| nI 0)]) (σ' := σ2) rfl ?_
              refine am_top (v' := nI (wfk p (r + 1) s (dn 255 (P ||| A)) P A g k ||| 0 ||| 0)) (nx_or _ _) ?_
              refine am_run 5 (pc' := 112) (ls' := [some (.ref 0), some (.int (nI g)), some (.int (nI (dn 255 (P ||| A)))), some (.int (nI (wfk p (r + 1) s (dn 255 (P ||| A)) P A g k ||| 0 ||| 0))), some (.int (nI k)), some (.int (nI 2)), some (.int (nI (eM (an p 61 (r + 1) s true P (A ||| 2 ^ k)))))]) (st' := [.int (nI 0), .int (nI k), .ref 29]) (σ' := σ2) rfl ?_
              refine am_iastN (n := 8) rfl rfl rfl (by omega) (by decide) ?_
              refine am_run 1 (pc' := 116) (ls' := [some (.ref 0), some (.int (nI g)), some (.int (nI (dn 255 (P ||| A)))), some (.int (nI (wfk p (r + 1) s (dn 255 (P ||| A)) P A g k ||| 0 ||| 0))), some (.int (nI k)), some (.int (nI 2 + nI 1)), some (.int (nI (eM (an p 61 (r + 1) s true P (A ||| 2 ^ k)))))]) (st' := []) (σ' := (am_wr σ2 29 k (nI 0))) rfl ?_
              refine am_ls (ls' := [some (.ref 0), some (.int (nI g)), some (.int (nI (dn 255 (P ||| A)))), some (.int (nI (wfk p (r + 1) s (dn 255 (P ||| A)) P A g k ||| 0 ||| 0))), some (.int (nI k)), some (.int (nI 3)), some (.int (nI (eM (an p 61 (r + 1) s true P (A ||| 2 ^ k)))))]) (by rw [nI_add]) ?_
              refine am_run 3 (pc' := 31) (ls' := [some (.ref 0), some (.int (nI g)), some (.int (nI (dn 255 (P ||| A)))), some (.int (nI (wfk p (r + 1) s (dn 255 (P ||| A)) P A g k ||| 0 ||| 0))), some (.int (nI k)), some (.int (nI 3)), some (.int (nI (eM (an p 61 (r + 1) s true P (A ||| 2 ^ k)))))]) (st' := [.int (nI 2), .int (nI 3)]) (σ' := (am_wr σ2 29 k (nI 0))) rfl ?_
              refine am_ic (ty := 119) (tn := 34) rfl (by decide) rfl rfl (fun (h_29 : nI 2 < nI 3) => ?_) (fun (h_29 : ¬ (nI 2 < nI 3)) => ?_)
              rotate_left
              · exact absurd (by decide) h_29
              refine am_run 1 (pc' := 122) (ls' := [some (.ref 0), some (.int (nI g)), some (.int (nI (dn 255 (P ||| A)))), some (.int (nI (wfk p (r + 1) s (dn 255 (P ||| A)) P A g k ||| 0 ||| 0))), some (.int (nI k + nI 1)), some (.int (nI 3)), some (.int (nI (eM (an p 61 (r + 1) s true P (A ||| 2 ^ k)))))]) (st' := []) (σ' := (am_wr σ2 29 k (nI 0))) rfl ?_
              refine am_ls (ls' := [some (.ref 0), some (.int (nI g)), some (.int (nI (dn 255 (P ||| A)))), some (.int (nI (wfk p (r + 1) s (dn 255 (P ||| A)) P A g k ||| 0 ||| 0))), some (.int (nI (k + 1))), some (.int (nI 3)), some (.int (nI (eM (an p 61 (r + 1) s true P (A ||| 2 ^ k)))))]) (by rw [nI_add]) ?_
              refine am_run 1 (pc' := 10) (ls' := [some (.ref 0), some (.int (nI g)), some (.int (nI (dn 255 (P ||| A)))), some (.int (nI (wfk p (r + 1) s (dn 255 (P ||| A)) P A g k ||| 0 ||| 0))), some (.int (nI (k + 1))), some (.int (nI 3)), some (.int (nI (eM (an p 61 (r + 1) s true P (A ||| 2 ^ k)))))]) (st' := []) (σ' := (am_wr σ2 29 k (nI 0))) rfl ?_
              have e : wfk p (r + 1) s (dn 255 (P ||| A)) P A g (k + 1) = wfk p (r + 1) s (dn 255 (P ||| A)) P A g k ||| 0 ||| 0 := by
                rw [show wfk p (r + 1) s (dn 255 (P ||| A)) P A g (k + 1) = wfk p (r + 1) s (dn 255 (P ||| A)) P A g k from if_neg (fun z => by have := z.2; unfold wt1 dcd at this; simp [*] at this)]
                simp only [Nat.or_zero]
              refine am_ls (ls' := [some (.ref 0), some (.int (nI g)), some (.int (nI (dn 255 (P ||| A)))), some (.int (nI (wfk p (r + 1) s (dn 255 (P ||| A)) P A g (k + 1)))), some (.int (nI (k + 1))), some (.int (nI 3)), some (.int (nI (eM (an p 61 (r + 1) s true P (A ||| 2 ^ k)))))]) (by rw [e]) ?_
              exact c_waitsFor_loop hd hM hs hv hdj hP hA hg hop hq m (k + 1) _ _ _ (by omega) hI2
            · show am_G _ M_X10_waitsFor _ 92 [some (.ref 0), some (.int (nI g)), some (.int (nI (dn 255 (P ||| A)))), some (.int (nI (wfk p (r + 1) s (dn 255 (P ||| A)) P A g k ||| 0))), some (.int (nI k)), some (.int (nI 2)), some (.int (nI (eM (an p 61 (r + 1) s true P (A ||| 2 ^ k)))))] [.int (nI 0), .int (nI (wfk p (r + 1) s (dn 255 (P ||| A)) P A g k ||| 0))] σ2
              refine am_if (ty := 95) (tn := 102) rfl (by decide) rfl rfl (fun (h_30 : nI 0 = 0) => ?_) (fun (h_30 : ¬ (nI 0 = 0)) => ?_)
              rotate_left
              · exact absurd (by decide) h_30
              refine am_run 3 (pc' := 99) (ls' := [some (.ref 0), some (.int (nI g)), some (.int (nI (dn 255 (P ||| A)))), some (.int (nI (wfk p (r + 1) s (dn 255 (P ||| A)) P A g k ||| 0))), some (.int (nI k)), some (.int (nI 2)), some (.int (nI (eM (an p 61 (r + 1) s true P (A ||| 2 ^ k)))))]) (st' := [.int ((nI 1) <<< ((nI k) &&& 31)), .int (nI (wfk p (r + 1) s (dn 255 (P ||| A)) P A g k ||| 0))]) (σ' := σ2) rfl ?_
              refine am_top (v' := nI (2 ^ k)) (by rw [nx_shl _ (by omega), Nat.one_mul]) ?_
              refine am_run 2 (pc' := 104) (ls' := [some (.ref 0), some (.int (nI g)), some (.int (nI (dn 255 (P ||| A)))), some (.int (nI (wfk p (r + 1) s (dn 255 (P ||| A)) P A g k ||| 0))), some (.int (nI k)), some (.int (nI 2)), some (.int (nI (eM (an p 61 (r + 1) s true P (A ||| 2 ^ k)))))]) (st' := [.int (nI (wfk p (r + 1) s (dn 255 (P ||| A)) P A g k ||| 0) ||| nI (2 ^ k))]) (σ' := σ2) rfl ?_
              refine am_top (v' := nI (wfk p (r + 1) s (dn 255 (P ||| A)) P A g k ||| 0 ||| 2 ^ k)) (nx_or _ _) ?_
              refine am_run 5 (pc' := 112) (ls' := [some (.ref 0), some (.int (nI g)), some (.int (nI (dn 255 (P ||| A)))), some (.int (nI (wfk p (r + 1) s (dn 255 (P ||| A)) P A g k ||| 0 ||| 2 ^ k))), some (.int (nI k)), some (.int (nI 2)), some (.int (nI (eM (an p 61 (r + 1) s true P (A ||| 2 ^ k)))))]) (st' := [.int (nI 0), .int (nI k), .ref 29]) (σ' := σ2) rfl ?_
              refine am_iastN (n := 8) rfl rfl rfl (by omega) (by decide) ?_
              refine am_run 1 (pc' := 116) (ls' := [some (.ref 0), some (.int (nI g)), some (.int (nI (dn 255 (P ||| A)))), some (.int (nI (wfk p (r + 1) s (dn 255 (P ||| A)) P A g k ||| 0 ||| 2 ^ k))), some (.int (nI k)), some (.int (nI 2 + nI 1)), some (.int (nI (eM (an p 61 (r + 1) s true P (A ||| 2 ^ k)))))]) (st' := []) (σ' := (am_wr σ2 29 k (nI 0))) rfl ?_
              refine am_ls (ls' := [some (.ref 0), some (.int (nI g)), some (.int (nI (dn 255 (P ||| A)))), some (.int (nI (wfk p (r + 1) s (dn 255 (P ||| A)) P A g k ||| 0 ||| 2 ^ k))), some (.int (nI k)), some (.int (nI 3)), some (.int (nI (eM (an p 61 (r + 1) s true P (A ||| 2 ^ k)))))]) (by rw [nI_add]) ?_
              refine am_run 3 (pc' := 31) (ls' := [some (.ref 0), some (.int (nI g)), some (.int (nI (dn 255 (P ||| A)))), some (.int (nI (wfk p (r + 1) s (dn 255 (P ||| A)) P A g k ||| 0 ||| 2 ^ k))), some (.int (nI k)), some (.int (nI 3)), some (.int (nI (eM (an p 61 (r + 1) s true P (A ||| 2 ^ k)))))]) (st' := [.int (nI 2), .int (nI 3)]) (σ' := (am_wr σ2 29 k (nI 0))) rfl ?_
              refine am_ic (ty := 119) (tn := 34) rfl (by decide) rfl rfl (fun (h_31 : nI 2 < nI 3) => ?_) (fun (h_31 : ¬ (nI 2 < nI 3)) => ?_)
              rotate_left
              · exact absurd (by decide) h_31
              refine am_run 1 (pc' := 122) (ls' := [some (.ref 0), some (.int (nI g)), some (.int (nI (dn 255 (P ||| A)))), some (.int (nI (wfk p (r + 1) s (dn 255 (P ||| A)) P A g k ||| 0 ||| 2 ^ k))), some (.int (nI k + nI 1)), some (.int (nI 3)), some (.int (nI (eM (an p 61 (r + 1) s true P (A ||| 2 ^ k)))))]) (st' := []) (σ' := (am_wr σ2 29 k (nI 0))) rfl ?_
              refine am_ls (ls' := [some (.ref 0), some (.int (nI g)), some (.int (nI (dn 255 (P ||| A)))), some (.int (nI (wfk p (r + 1) s (dn 255 (P ||| A)) P A g k ||| 0 ||| 2 ^ k))), some (.int (nI (k + 1))), some (.int (nI 3)), some (.int (nI (eM (an p 61 (r + 1) s true P (A ||| 2 ^ k)))))]) (by rw [nI_add]) ?_
              refine am_run 1 (pc' := 10) (ls' := [some (.ref 0), some (.int (nI g)), some (.int (nI (dn 255 (P ||| A)))), some (.int (nI (wfk p (r + 1) s (dn 255 (P ||| A)) P A g k ||| 0 ||| 2 ^ k))), some (.int (nI (k + 1))), some (.int (nI 3)), some (.int (nI (eM (an p 61 (r + 1) s true P (A ||| 2 ^ k)))))]) (st' := []) (σ' := (am_wr σ2 29 k (nI 0))) rfl ?_
              have e : wfk p (r + 1) s (dn 255 (P ||| A)) P A g (k + 1) = wfk p (r + 1) s (dn 255 (P ||| A)) P A g k ||| 0 ||| 2 ^ k := by
                rw [show wfk p (r + 1) s (dn 255 (P ||| A)) P A g (k + 1) = wfk p (r + 1) s (dn 255 (P ||| A)) P A g k ||| 2 ^ k from if_pos ⟨hb, by unfold wt1 dcd; simp [*]⟩]
                simp only [Nat.or_zero, Nat.or_assoc, Nat.or_self]
              refine am_ls (ls' := [some (.ref 0), some (.int (nI g)), some (.int (nI (dn 255 (P ||| A)))), some (.int (nI (wfk p (r + 1) s (dn 255 (P ||| A)) P A g (k + 1)))), some (.int (nI (k + 1))), some (.int (nI 3)), some (.int (nI (eM (an p 61 (r + 1) s true P (A ||| 2 ^ k)))))]) (by rw [e]) ?_
              exact c_waitsFor_loop hd hM hs hv hdj hP hA hg hop hq m (k + 1) _ _ _ (by omega) hI2
        · show am_G _ M_X10_waitsFor _ 92 [some (.ref 0), some (.int (nI g)), some (.int (nI (dn 255 (P ||| A)))), some (.int (nI (wfk p (r + 1) s (dn 255 (P ||| A)) P A g k))), some (.int (nI k)), some (.int (nI 1)), some (.int (nI (eM (an p 61 (r + 1) s true (P ||| 2 ^ k) A))))] [.int (nI 0), .int (nI (wfk p (r + 1) s (dn 255 (P ||| A)) P A g k))] σ1
          refine am_if (ty := 95) (tn := 102) rfl (by decide) rfl rfl (fun (h_32 : nI 0 = 0) => ?_) (fun (h_32 : ¬ (nI 0 = 0)) => ?_)
          rotate_left
          · exact absurd (by decide) h_32
          refine am_run 3 (pc' := 99) (ls' := [some (.ref 0), some (.int (nI g)), some (.int (nI (dn 255 (P ||| A)))), some (.int (nI (wfk p (r + 1) s (dn 255 (P ||| A)) P A g k))), some (.int (nI k)), some (.int (nI 1)), some (.int (nI (eM (an p 61 (r + 1) s true (P ||| 2 ^ k) A))))]) (st' := [.int ((nI 1) <<< ((nI k) &&& 31)), .int (nI (wfk p (r + 1) s (dn 255 (P ||| A)) P A g k))]) (σ' := σ1) rfl ?_
          refine am_top (v' := nI (2 ^ k)) (by rw [nx_shl _ (by omega), Nat.one_mul]) ?_
          refine am_run 2 (pc' := 104) (ls' := [some (.ref 0), some (.int (nI g)), some (.int (nI (dn 255 (P ||| A)))), some (.int (nI (wfk p (r + 1) s (dn 255 (P ||| A)) P A g k))), some (.int (nI k)), some (.int (nI 1)), some (.int (nI (eM (an p 61 (r + 1) s true (P ||| 2 ^ k) A))))]) (st' := [.int (nI (wfk p (r + 1) s (dn 255 (P ||| A)) P A g k) ||| nI (2 ^ k))]) (σ' := σ1) rfl ?_
          refine am_top (v' := nI (wfk p (r + 1) s (dn 255 (P ||| A)) P A g k ||| 2 ^ k)) (nx_or _ _) ?_
          refine am_run 5 (pc' := 112) (ls' := [some (.ref 0), some (.int (nI g)), some (.int (nI (dn 255 (P ||| A)))), some (.int (nI (wfk p (r + 1) s (dn 255 (P ||| A)) P A g k ||| 2 ^ k))), some (.int (nI k)), some (.int (nI 1)), some (.int (nI (eM (an p 61 (r + 1) s true (P ||| 2 ^ k) A))))]) (st' := [.int (nI 0), .int (nI k), .ref 29]) (σ' := σ1) rfl ?_
          refine am_iastN (n := 8) rfl rfl rfl (by omega) (by decide) ?_
          refine am_run 1 (pc' := 116) (ls' := [some (.ref 0), some (.int (nI g)), some (.int (nI (dn 255 (P ||| A)))), some (.int (nI (wfk p (r + 1) s (dn 255 (P ||| A)) P A g k ||| 2 ^ k))), some (.int (nI k)), some (.int (nI 1 + nI 1)), some (.int (nI (eM (an p 61 (r + 1) s true (P ||| 2 ^ k) A))))]) (st' := []) (σ' := (am_wr σ1 29 k (nI 0))) rfl ?_
          refine am_ls (ls' := [some (.ref 0), some (.int (nI g)), some (.int (nI (dn 255 (P ||| A)))), some (.int (nI (wfk p (r + 1) s (dn 255 (P ||| A)) P A g k ||| 2 ^ k))), some (.int (nI k)), some (.int (nI 2)), some (.int (nI (eM (an p 61 (r + 1) s true (P ||| 2 ^ k) A))))]) (by rw [nI_add]) ?_
          refine am_run 3 (pc' := 31) (ls' := [some (.ref 0), some (.int (nI g)), some (.int (nI (dn 255 (P ||| A)))), some (.int (nI (wfk p (r + 1) s (dn 255 (P ||| A)) P A g k ||| 2 ^ k))), some (.int (nI k)), some (.int (nI 2)), some (.int (nI (eM (an p 61 (r + 1) s true (P ||| 2 ^ k) A))))]) (st' := [.int (nI 2), .int (nI 2)]) (σ' := (am_wr σ1 29 k (nI 0))) rfl ?_
          refine am_ic (ty := 119) (tn := 34) rfl (by decide) rfl rfl (fun (h_33 : nI 2 < nI 2) => ?_) (fun (h_33 : ¬ (nI 2 < nI 2)) => ?_)
          · exact absurd h_33 (by decide)
          refine am_run 2 (pc' := 37) (ls' := [some (.ref 0), some (.int (nI g)), some (.int (nI (dn 255 (P ||| A)))), some (.int (nI (wfk p (r + 1) s (dn 255 (P ||| A)) P A g k ||| 2 ^ k))), some (.int (nI k)), some (.int (nI 2)), some (.int (nI (eM (an p 61 (r + 1) s true (P ||| 2 ^ k) A))))]) (st' := [.int (nI k), .int (nI (dn 255 (P ||| A)))]) (σ' := (am_wr σ1 29 k (nI 0))) rfl ?_
          refine am_invs (y := 149) (as := [.int (nI (dn 255 (P ||| A))), .int (nI k)]) (rest := []) rfl rfl rfl rfl rfl rfl (Nat.le_of_ble_eq_true rfl) ?_
          refine c_m_has (by omega) (a := dn 255 (P ||| A)) (s := k) (by omega) (by omega) (fun _ => ?_) (fun z => absurd (hb.symm.trans z) (by decide))
          show am_G _ M_X10_waitsFor _ 40 [some (.ref 0), some (.int (nI g)), some (.int (nI (dn 255 (P ||| A)))), some (.int (nI (wfk p (r + 1) s (dn 255 (P ||| A)) P A g k ||| 2 ^ k))), some (.int (nI k)), some (.int (nI 2)), some (.int (nI (eM (an p 61 (r + 1) s true (P ||| 2 ^ k) A))))] [.int (nI 1)] (am_wr σ1 29 k (nI 0))
          refine am_if (ty := 119) (tn := 43) rfl (by decide) rfl rfl (fun (h_34 : nI 1 = 0) => ?_) (fun (h_34 : ¬ (nI 1 = 0)) => ?_)
          · exact absurd h_34 (by decide)
          refine am_run 4 (pc' := 51) (ls' := [some (.ref 0), some (.int (nI g)), some (.int (nI (dn 255 (P ||| A)))), some (.int (nI (wfk p (r + 1) s (dn 255 (P ||| A)) P A g k ||| 2 ^ k))), some (.int (nI k)), some (.int (nI 2)), some (.int (nI (eM (an p 61 (r + 1) s true (P ||| 2 ^ k) A))))]) (st' := [.int (nI 2), .int (nI k), .ref 29]) (σ' := (am_wr σ1 29 k (nI 0))) rfl ?_
          refine am_iastN (n := 8) rfl rfl rfl (by omega) (by decide) ?_
          refine am_run 3 (pc' := 57) (ls' := [some (.ref 0), some (.int (nI g)), some (.int (nI (dn 255 (P ||| A)))), some (.int (nI (wfk p (r + 1) s (dn 255 (P ||| A)) P A g k ||| 2 ^ k))), some (.int (nI k)), some (.int (nI 2)), some (.int (nI (eM (an p 61 (r + 1) s true (P ||| 2 ^ k) A))))]) (st' := [.int (σ1.1 0 38), .ref 0]) (σ' := (am_wr (am_wr σ1 29 k (nI 0)) 29 k (nI 2))) rfl ?_
          refine am_top (v' := nI j) (by exact i381) ?_
          refine am_run 2 (pc' := 61) (ls' := [some (.ref 0), some (.int (nI g)), some (.int (nI (dn 255 (P ||| A)))), some (.int (nI (wfk p (r + 1) s (dn 255 (P ||| A)) P A g k ||| 2 ^ k))), some (.int (nI k)), some (.int (nI 2)), some (.int (nI (eM (an p 61 (r + 1) s true (P ||| 2 ^ k) A))))]) (st' := [.int (σ1.1 0 39), .int (nI j), .ref 0]) (σ' := (am_wr (am_wr σ1 29 k (nI 0)) 29 k (nI 2))) rfl ?_
          refine am_top (v' := nI s) (by exact i391) ?_
          refine am_invv (y := 209) (b := 0) (as := [.int (nI j), .int (nI s)]) (rest := []) rfl rfl rfl rfl rfl rfl rfl (Nat.le_of_ble_eq_true rfl) ?_
          refine c_lays_how (by omega) hM hs hI1 (t := k) (h := 2) (P' := P) (A' := A ||| 2 ^ k) (by omega) hop0 (sts_a hpk) (dj_sa hdj hpk) hP (or_lt8 hA hk2) (fun σ2 hI2 h42 hB2 hT2 => ?_)
          have i382 := hI2.2.1
          have i392 := hI2.2.2.1
          show am_G _ M_X10_waitsFor _ 64 [some (.ref 0), some (.int (nI g)), some (.int (nI (dn 255 (P ||| A)))), some (.int (nI (wfk p (r + 1) s (dn 255 (P ||| A)) P A g k ||| 2 ^ k))), some (.int (nI k)), some (.int (nI 2)), some (.int (nI (eM (an p 61 (r + 1) s true (P ||| 2 ^ k) A))))] [] σ2
          refine am_run 1 (pc' := 65) (ls' := [some (.ref 0), some (.int (nI g)), some (.int (nI (dn 255 (P ||| A)))), some (.int (nI (wfk p (r + 1) s (dn 255 (P ||| A)) P A g k ||| 2 ^ k))), some (.int (nI k)), some (.int (nI 2)), some (.int (nI (eM (an p 61 (r + 1) s true (P ||| 2 ^ k) A))))]) (st' := [.ref 0]) (σ' := σ2) rfl ?_
          refine am_invv (y := 211) (b := 0) (as := []) (rest := []) rfl rfl rfl rfl rfl rfl rfl (Nat.le_of_ble_eq_true rfl) ?_
          refine c_m_whole (by omega) hB2 h42 hrn hr0 (hT2 r hrn 0 (Nat.pow_pos (by decide))) hv ?_
          have ok2 := an_ok hW 61 (r + 1) s true P (A ||| 2 ^ k) (show r + 1 ≤ n by omega)
          obtain ⟨c12, c22, -, -⟩ := id ok2
          show am_G _ M_X10_waitsFor _ 68 [some (.ref 0), some (.int (nI g)), some (.int (nI (dn 255 (P ||| A)))), some (.int (nI (wfk p (r + 1) s (dn 255 (P ||| A)) P A g k ||| 2 ^ k))), some (.int (nI k)), some (.int (nI 2)), some (.int (nI (eM (an p 61 (r + 1) s true (P ||| 2 ^ k) A))))] [.int (nI (eM (an p 61 (r + 1) s true P (A ||| 2 ^ k))))] σ2
          refine am_run 3 (pc' := 73) (ls' := [some (.ref 0), some (.int (nI g)), some (.int (nI (dn 255 (P ||| A)))), some (.int (nI (wfk p (r + 1) s (dn 255 (P ||| A)) P A g k ||| 2 ^ k))), some (.int (nI k)), some (.int (nI 2)), some (.int (nI (eM (an p 61 (r + 1) s true P (A ||| 2 ^ k)))))]) (st' := [.int (nI (eM (an p 61 (r + 1) s true P (A ||| 2 ^ k)))), .int (nI (wfk p (r + 1) s (dn 255 (P ||| A)) P A g k ||| 2 ^ k))]) (σ' := σ2) rfl ?_
          refine am_invs (y := 185) (as := [.int (nI (eM (an p 61 (r + 1) s true P (A ||| 2 ^ k))))]) (rest := [.int (nI (wfk p (r + 1) s (dn 255 (P ||| A)) P A g k ||| 2 ^ k))]) rfl rfl rfl rfl rfl rfl (Nat.le_of_ble_eq_true rfl) ?_
          refine c_m_must (by omega) (r := (an p 61 (r + 1) s true P (A ||| 2 ^ k))) ok2 ?_
          show am_G _ M_X10_waitsFor _ 76 [some (.ref 0), some (.int (nI g)), some (.int (nI (dn 255 (P ||| A)))), some (.int (nI (wfk p (r + 1) s (dn 255 (P ||| A)) P A g k ||| 2 ^ k))), some (.int (nI k)), some (.int (nI 2)), some (.int (nI (eM (an p 61 (r + 1) s true P (A ||| 2 ^ k)))))] [.int (nI ((an p 61 (r + 1) s true P (A ||| 2 ^ k)).1)), .int (nI (wfk p (r + 1) s (dn 255 (P ||| A)) P A g k ||| 2 ^ k))] σ2
          refine am_run 1 (pc' := 77) (ls' := [some (.ref 0), some (.int (nI g)), some (.int (nI (dn 255 (P ||| A)))), some (.int (nI (wfk p (r + 1) s (dn 255 (P ||| A)) P A g k ||| 2 ^ k))), some (.int (nI k)), some (.int (nI 2)), some (.int (nI (eM (an p 61 (r + 1) s true P (A ||| 2 ^ k)))))]) (st' := [.int (nI g), .int (nI ((an p 61 (r + 1) s true P (A ||| 2 ^ k)).1)), .int (nI (wfk p (r + 1) s (dn 255 (P ||| A)) P A g k ||| 2 ^ k))]) (σ' := σ2) rfl ?_
          refine am_invs (y := 149) (as := [.int (nI ((an p 61 (r + 1) s true P (A ||| 2 ^ k)).1)), .int (nI g)]) (rest := [.int (nI (wfk p (r + 1) s (dn 255 (P ||| A)) P A g k ||| 2 ^ k))]) rfl rfl rfl rfl rfl rfl (Nat.le_of_ble_eq_true rfl) ?_
          refine c_m_has (by omega) (a := (an p 61 (r + 1) s true P (A ||| 2 ^ k)).1) (s := g) (by omega) (by omega) (fun hb_35 => ?_) (fun hb_35 => ?_)
          · show am_G _ M_X10_waitsFor _ 80 [some (.ref 0), some (.int (nI g)), some (.int (nI (dn 255 (P ||| A)))), some (.int (nI (wfk p (r + 1) s (dn 255 (P ||| A)) P A g k ||| 2 ^ k))), some (.int (nI k)), some (.int (nI 2)), some (.int (nI (eM (an p 61 (r + 1) s true P (A ||| 2 ^ k)))))] [.int (nI 1), .int (nI (wfk p (r + 1) s (dn 255 (P ||| A)) P A g k ||| 2 ^ k))] σ2
            refine am_if (ty := 83) (tn := 95) rfl (by decide) rfl rfl (fun (h_36 : nI 1 = 0) => ?_) (fun (h_36 : ¬ (nI 1 = 0)) => ?_)
            · exact absurd h_36 (by decide)
            refine am_run 3 (pc' := 99) (ls' := [some (.ref 0), some (.int (nI g)), some (.int (nI (dn 255 (P ||| A)))), some (.int (nI (wfk p (r + 1) s (dn 255 (P ||| A)) P A g k ||| 2 ^ k))), some (.int (nI k)), some (.int (nI 2)), some (.int (nI (eM (an p 61 (r + 1) s true P (A ||| 2 ^ k)))))]) (st' := [.int ((nI 1) <<< ((nI k) &&& 31)), .int (nI (wfk p (r + 1) s (dn 255 (P ||| A)) P A g k ||| 2 ^ k))]) (σ' := σ2) rfl ?_
            refine am_top (v' := nI (2 ^ k)) (by rw [nx_shl _ (by omega), Nat.one_mul]) ?_
            refine am_run 2 (pc' := 104) (ls' := [some (.ref 0), some (.int (nI g)), some (.int (nI (dn 255 (P ||| A)))), some (.int (nI (wfk p (r + 1) s (dn 255 (P ||| A)) P A g k ||| 2 ^ k))), some (.int (nI k)), some (.int (nI 2)), some (.int (nI (eM (an p 61 (r + 1) s true P (A ||| 2 ^ k)))))]) (st' := [.int (nI (wfk p (r + 1) s (dn 255 (P ||| A)) P A g k ||| 2 ^ k) ||| nI (2 ^ k))]) (σ' := σ2) rfl ?_
            refine am_top (v' := nI (wfk p (r + 1) s (dn 255 (P ||| A)) P A g k ||| 2 ^ k ||| 2 ^ k)) (nx_or _ _) ?_
            refine am_run 5 (pc' := 112) (ls' := [some (.ref 0), some (.int (nI g)), some (.int (nI (dn 255 (P ||| A)))), some (.int (nI (wfk p (r + 1) s (dn 255 (P ||| A)) P A g k ||| 2 ^ k ||| 2 ^ k))), some (.int (nI k)), some (.int (nI 2)), some (.int (nI (eM (an p 61 (r + 1) s true P (A ||| 2 ^ k)))))]) (st' := [.int (nI 0), .int (nI k), .ref 29]) (σ' := σ2) rfl ?_
            refine am_iastN (n := 8) rfl rfl rfl (by omega) (by decide) ?_
            refine am_run 1 (pc' := 116) (ls' := [some (.ref 0), some (.int (nI g)), some (.int (nI (dn 255 (P ||| A)))), some (.int (nI (wfk p (r + 1) s (dn 255 (P ||| A)) P A g k ||| 2 ^ k ||| 2 ^ k))), some (.int (nI k)), some (.int (nI 2 + nI 1)), some (.int (nI (eM (an p 61 (r + 1) s true P (A ||| 2 ^ k)))))]) (st' := []) (σ' := (am_wr σ2 29 k (nI 0))) rfl ?_
            refine am_ls (ls' := [some (.ref 0), some (.int (nI g)), some (.int (nI (dn 255 (P ||| A)))), some (.int (nI (wfk p (r + 1) s (dn 255 (P ||| A)) P A g k ||| 2 ^ k ||| 2 ^ k))), some (.int (nI k)), some (.int (nI 3)), some (.int (nI (eM (an p 61 (r + 1) s true P (A ||| 2 ^ k)))))]) (by rw [nI_add]) ?_
            refine am_run 3 (pc' := 31) (ls' := [some (.ref 0), some (.int (nI g)), some (.int (nI (dn 255 (P ||| A)))), some (.int (nI (wfk p (r + 1) s (dn 255 (P ||| A)) P A g k ||| 2 ^ k ||| 2 ^ k))), some (.int (nI k)), some (.int (nI 3)), some (.int (nI (eM (an p 61 (r + 1) s true P (A ||| 2 ^ k)))))]) (st' := [.int (nI 2), .int (nI 3)]) (σ' := (am_wr σ2 29 k (nI 0))) rfl ?_
            refine am_ic (ty := 119) (tn := 34) rfl (by decide) rfl rfl (fun (h_37 : nI 2 < nI 3) => ?_) (fun (h_37 : ¬ (nI 2 < nI 3)) => ?_)
            rotate_left
            · exact absurd (by decide) h_37
            refine am_run 1 (pc' := 122) (ls' := [some (.ref 0), some (.int (nI g)), some (.int (nI (dn 255 (P ||| A)))), some (.int (nI (wfk p (r + 1) s (dn 255 (P ||| A)) P A g k ||| 2 ^ k ||| 2 ^ k))), some (.int (nI k + nI 1)), some (.int (nI 3)), some (.int (nI (eM (an p 61 (r + 1) s true P (A ||| 2 ^ k)))))]) (st' := []) (σ' := (am_wr σ2 29 k (nI 0))) rfl ?_
            refine am_ls (ls' := [some (.ref 0), some (.int (nI g)), some (.int (nI (dn 255 (P ||| A)))), some (.int (nI (wfk p (r + 1) s (dn 255 (P ||| A)) P A g k ||| 2 ^ k ||| 2 ^ k))), some (.int (nI (k + 1))), some (.int (nI 3)), some (.int (nI (eM (an p 61 (r + 1) s true P (A ||| 2 ^ k)))))]) (by rw [nI_add]) ?_
            refine am_run 1 (pc' := 10) (ls' := [some (.ref 0), some (.int (nI g)), some (.int (nI (dn 255 (P ||| A)))), some (.int (nI (wfk p (r + 1) s (dn 255 (P ||| A)) P A g k ||| 2 ^ k ||| 2 ^ k))), some (.int (nI (k + 1))), some (.int (nI 3)), some (.int (nI (eM (an p 61 (r + 1) s true P (A ||| 2 ^ k)))))]) (st' := []) (σ' := (am_wr σ2 29 k (nI 0))) rfl ?_
            have e : wfk p (r + 1) s (dn 255 (P ||| A)) P A g (k + 1) = wfk p (r + 1) s (dn 255 (P ||| A)) P A g k ||| 2 ^ k ||| 2 ^ k := by
              rw [show wfk p (r + 1) s (dn 255 (P ||| A)) P A g (k + 1) = wfk p (r + 1) s (dn 255 (P ||| A)) P A g k ||| 2 ^ k from if_pos ⟨hb, by unfold wt1 dcd; simp [*]⟩]
              simp only [Nat.or_zero, Nat.or_assoc, Nat.or_self]
            refine am_ls (ls' := [some (.ref 0), some (.int (nI g)), some (.int (nI (dn 255 (P ||| A)))), some (.int (nI (wfk p (r + 1) s (dn 255 (P ||| A)) P A g (k + 1)))), some (.int (nI (k + 1))), some (.int (nI 3)), some (.int (nI (eM (an p 61 (r + 1) s true P (A ||| 2 ^ k)))))]) (by rw [e]) ?_
            exact c_waitsFor_loop hd hM hs hv hdj hP hA hg hop hq m (k + 1) _ _ _ (by omega) hI2
          · show am_G _ M_X10_waitsFor _ 80 [some (.ref 0), some (.int (nI g)), some (.int (nI (dn 255 (P ||| A)))), some (.int (nI (wfk p (r + 1) s (dn 255 (P ||| A)) P A g k ||| 2 ^ k))), some (.int (nI k)), some (.int (nI 2)), some (.int (nI (eM (an p 61 (r + 1) s true P (A ||| 2 ^ k)))))] [.int (nI 0), .int (nI (wfk p (r + 1) s (dn 255 (P ||| A)) P A g k ||| 2 ^ k))] σ2
            refine am_if (ty := 83) (tn := 95) rfl (by decide) rfl rfl (fun (h_38 : nI 0 = 0) => ?_) (fun (h_38 : ¬ (nI 0 = 0)) => ?_)
            rotate_left
            · exact absurd (by decide) h_38
            refine am_run 1 (pc' := 85) (ls' := [some (.ref 0), some (.int (nI g)), some (.int (nI (dn 255 (P ||| A)))), some (.int (nI (wfk p (r + 1) s (dn 255 (P ||| A)) P A g k ||| 2 ^ k))), some (.int (nI k)), some (.int (nI 2)), some (.int (nI (eM (an p 61 (r + 1) s true P (A ||| 2 ^ k)))))]) (st' := [.int (nI (eM (an p 61 (r + 1) s true P (A ||| 2 ^ k)))), .int (nI (wfk p (r + 1) s (dn 255 (P ||| A)) P A g k ||| 2 ^ k))]) (σ' := σ2) rfl ?_
            refine am_invs (y := 186) (as := [.int (nI (eM (an p 61 (r + 1) s true P (A ||| 2 ^ k))))]) (rest := [.int (nI (wfk p (r + 1) s (dn 255 (P ||| A)) P A g k ||| 2 ^ k))]) rfl rfl rfl rfl rfl rfl (Nat.le_of_ble_eq_true rfl) ?_
            refine c_m_can (by omega) (r := (an p 61 (r + 1) s true P (A ||| 2 ^ k))) ok2 ?_
            show am_G _ M_X10_waitsFor _ 88 [some (.ref 0), some (.int (nI g)), some (.int (nI (dn 255 (P ||| A)))), some (.int (nI (wfk p (r + 1) s (dn 255 (P ||| A)) P A g k ||| 2 ^ k))), some (.int (nI k)), some (.int (nI 2)), some (.int (nI (eM (an p 61 (r + 1) s true P (A ||| 2 ^ k)))))] [.int (nI ((an p 61 (r + 1) s true P (A ||| 2 ^ k)).2.1)), .int (nI (wfk p (r + 1) s (dn 255 (P ||| A)) P A g k ||| 2 ^ k))] σ2
            refine am_run 1 (pc' := 89) (ls' := [some (.ref 0), some (.int (nI g)), some (.int (nI (dn 255 (P ||| A)))), some (.int (nI (wfk p (r + 1) s (dn 255 (P ||| A)) P A g k ||| 2 ^ k))), some (.int (nI k)), some (.int (nI 2)), some (.int (nI (eM (an p 61 (r + 1) s true P (A ||| 2 ^ k)))))]) (st' := [.int (nI g), .int (nI ((an p 61 (r + 1) s true P (A ||| 2 ^ k)).2.1)), .int (nI (wfk p (r + 1) s (dn 255 (P ||| A)) P A g k ||| 2 ^ k))]) (σ' := σ2) rfl ?_
            refine am_invs (y := 149) (as := [.int (nI ((an p 61 (r + 1) s true P (A ||| 2 ^ k)).2.1)), .int (nI g)]) (rest := [.int (nI (wfk p (r + 1) s (dn 255 (P ||| A)) P A g k ||| 2 ^ k))]) rfl rfl rfl rfl rfl rfl (Nat.le_of_ble_eq_true rfl) ?_
            refine c_m_has (by omega) (a := (an p 61 (r + 1) s true P (A ||| 2 ^ k)).2.1) (s := g) (by omega) (by omega) (fun hb_39 => ?_) (fun hb_39 => ?_)
            · show am_G _ M_X10_waitsFor _ 92 [some (.ref 0), some (.int (nI g)), some (.int (nI (dn 255 (P ||| A)))), some (.int (nI (wfk p (r + 1) s (dn 255 (P ||| A)) P A g k ||| 2 ^ k))), some (.int (nI k)), some (.int (nI 2)), some (.int (nI (eM (an p 61 (r + 1) s true P (A ||| 2 ^ k)))))] [.int (nI 1), .int (nI (wfk p (r + 1) s (dn 255 (P ||| A)) P A g k ||| 2 ^ k))] σ2
              refine am_if (ty := 95) (tn := 102) rfl (by decide) rfl rfl (fun (h_40 : nI 1 = 0) => ?_) (fun (h_40 : ¬ (nI 1 = 0)) => ?_)
              · exact absurd h_40 (by decide)
              refine am_run 2 (pc' := 104) (ls' := [some (.ref 0), some (.int (nI g)), some (.int (nI (dn 255 (P ||| A)))), some (.int (nI (wfk p (r + 1) s (dn 255 (P ||| A)) P A g k ||| 2 ^ k))), some (.int (nI k)), some (.int (nI 2)), some (.int (nI (eM (an p 61 (r + 1) s true P (A ||| 2 ^ k)))))]) (st' := [.int (nI (wfk p (r + 1) s (dn 255 (P ||| A)) P A g k ||| 2 ^ k) ||| nI 0)]) (σ' := σ2) rfl ?_
              refine am_top (v' := nI (wfk p (r + 1) s (dn 255 (P ||| A)) P A g k ||| 2 ^ k ||| 0)) (nx_or _ _) ?_
              refine am_run 5 (pc' := 112) (ls' := [some (.ref 0), some (.int (nI g)), some (.int (nI (dn 255 (P ||| A)))), some (.int (nI (wfk p (r + 1) s (dn 255 (P ||| A)) P A g k ||| 2 ^ k ||| 0))), some (.int (nI k)), some (.int (nI 2)), some (.int (nI (eM (an p 61 (r + 1) s true P (A ||| 2 ^ k)))))]) (st' := [.int (nI 0), .int (nI k), .ref 29]) (σ' := σ2) rfl ?_
              refine am_iastN (n := 8) rfl rfl rfl (by omega) (by decide) ?_
              refine am_run 1 (pc' := 116) (ls' := [some (.ref 0), some (.int (nI g)), some (.int (nI (dn 255 (P ||| A)))), some (.int (nI (wfk p (r + 1) s (dn 255 (P ||| A)) P A g k ||| 2 ^ k ||| 0))), some (.int (nI k)), some (.int (nI 2 + nI 1)), some (.int (nI (eM (an p 61 (r + 1) s true P (A ||| 2 ^ k)))))]) (st' := []) (σ' := (am_wr σ2 29 k (nI 0))) rfl ?_
              refine am_ls (ls' := [some (.ref 0), some (.int (nI g)), some (.int (nI (dn 255 (P ||| A)))), some (.int (nI (wfk p (r + 1) s (dn 255 (P ||| A)) P A g k ||| 2 ^ k ||| 0))), some (.int (nI k)), some (.int (nI 3)), some (.int (nI (eM (an p 61 (r + 1) s true P (A ||| 2 ^ k)))))]) (by rw [nI_add]) ?_
              refine am_run 3 (pc' := 31) (ls' := [some (.ref 0), some (.int (nI g)), some (.int (nI (dn 255 (P ||| A)))), some (.int (nI (wfk p (r + 1) s (dn 255 (P ||| A)) P A g k ||| 2 ^ k ||| 0))), some (.int (nI k)), some (.int (nI 3)), some (.int (nI (eM (an p 61 (r + 1) s true P (A ||| 2 ^ k)))))]) (st' := [.int (nI 2), .int (nI 3)]) (σ' := (am_wr σ2 29 k (nI 0))) rfl ?_
              refine am_ic (ty := 119) (tn := 34) rfl (by decide) rfl rfl (fun (h_41 : nI 2 < nI 3) => ?_) (fun (h_41 : ¬ (nI 2 < nI 3)) => ?_)
              rotate_left
              · exact absurd (by decide) h_41
              refine am_run 1 (pc' := 122) (ls' := [some (.ref 0), some (.int (nI g)), some (.int (nI (dn 255 (P ||| A)))), some (.int (nI (wfk p (r + 1) s (dn 255 (P ||| A)) P A g k ||| 2 ^ k ||| 0))), some (.int (nI k + nI 1)), some (.int (nI 3)), some (.int (nI (eM (an p 61 (r + 1) s true P (A ||| 2 ^ k)))))]) (st' := []) (σ' := (am_wr σ2 29 k (nI 0))) rfl ?_
              refine am_ls (ls' := [some (.ref 0), some (.int (nI g)), some (.int (nI (dn 255 (P ||| A)))), some (.int (nI (wfk p (r + 1) s (dn 255 (P ||| A)) P A g k ||| 2 ^ k ||| 0))), some (.int (nI (k + 1))), some (.int (nI 3)), some (.int (nI (eM (an p 61 (r + 1) s true P (A ||| 2 ^ k)))))]) (by rw [nI_add]) ?_
              refine am_run 1 (pc' := 10) (ls' := [some (.ref 0), some (.int (nI g)), some (.int (nI (dn 255 (P ||| A)))), some (.int (nI (wfk p (r + 1) s (dn 255 (P ||| A)) P A g k ||| 2 ^ k ||| 0))), some (.int (nI (k + 1))), some (.int (nI 3)), some (.int (nI (eM (an p 61 (r + 1) s true P (A ||| 2 ^ k)))))]) (st' := []) (σ' := (am_wr σ2 29 k (nI 0))) rfl ?_
              have e : wfk p (r + 1) s (dn 255 (P ||| A)) P A g (k + 1) = wfk p (r + 1) s (dn 255 (P ||| A)) P A g k ||| 2 ^ k ||| 0 := by
                rw [show wfk p (r + 1) s (dn 255 (P ||| A)) P A g (k + 1) = wfk p (r + 1) s (dn 255 (P ||| A)) P A g k ||| 2 ^ k from if_pos ⟨hb, by unfold wt1 dcd; simp [*]⟩]
                simp only [Nat.or_zero, Nat.or_assoc, Nat.or_self]
              refine am_ls (ls' := [some (.ref 0), some (.int (nI g)), some (.int (nI (dn 255 (P ||| A)))), some (.int (nI (wfk p (r + 1) s (dn 255 (P ||| A)) P A g (k + 1)))), some (.int (nI (k + 1))), some (.int (nI 3)), some (.int (nI (eM (an p 61 (r + 1) s true P (A ||| 2 ^ k)))))]) (by rw [e]) ?_
              exact c_waitsFor_loop hd hM hs hv hdj hP hA hg hop hq m (k + 1) _ _ _ (by omega) hI2
            · show am_G _ M_X10_waitsFor _ 92 [some (.ref 0), some (.int (nI g)), some (.int (nI (dn 255 (P ||| A)))), some (.int (nI (wfk p (r + 1) s (dn 255 (P ||| A)) P A g k ||| 2 ^ k))), some (.int (nI k)), some (.int (nI 2)), some (.int (nI (eM (an p 61 (r + 1) s true P (A ||| 2 ^ k)))))] [.int (nI 0), .int (nI (wfk p (r + 1) s (dn 255 (P ||| A)) P A g k ||| 2 ^ k))] σ2
              refine am_if (ty := 95) (tn := 102) rfl (by decide) rfl rfl (fun (h_42 : nI 0 = 0) => ?_) (fun (h_42 : ¬ (nI 0 = 0)) => ?_)
              rotate_left
              · exact absurd (by decide) h_42
              refine am_run 3 (pc' := 99) (ls' := [some (.ref 0), some (.int (nI g)), some (.int (nI (dn 255 (P ||| A)))), some (.int (nI (wfk p (r + 1) s (dn 255 (P ||| A)) P A g k ||| 2 ^ k))), some (.int (nI k)), some (.int (nI 2)), some (.int (nI (eM (an p 61 (r + 1) s true P (A ||| 2 ^ k)))))]) (st' := [.int ((nI 1) <<< ((nI k) &&& 31)), .int (nI (wfk p (r + 1) s (dn 255 (P ||| A)) P A g k ||| 2 ^ k))]) (σ' := σ2) rfl ?_
              refine am_top (v' := nI (2 ^ k)) (by rw [nx_shl _ (by omega), Nat.one_mul]) ?_
              refine am_run 2 (pc' := 104) (ls' := [some (.ref 0), some (.int (nI g)), some (.int (nI (dn 255 (P ||| A)))), some (.int (nI (wfk p (r + 1) s (dn 255 (P ||| A)) P A g k ||| 2 ^ k))), some (.int (nI k)), some (.int (nI 2)), some (.int (nI (eM (an p 61 (r + 1) s true P (A ||| 2 ^ k)))))]) (st' := [.int (nI (wfk p (r + 1) s (dn 255 (P ||| A)) P A g k ||| 2 ^ k) ||| nI (2 ^ k))]) (σ' := σ2) rfl ?_
              refine am_top (v' := nI (wfk p (r + 1) s (dn 255 (P ||| A)) P A g k ||| 2 ^ k ||| 2 ^ k)) (nx_or _ _) ?_
              refine am_run 5 (pc' := 112) (ls' := [some (.ref 0), some (.int (nI g)), some (.int (nI (dn 255 (P ||| A)))), some (.int (nI (wfk p (r + 1) s (dn 255 (P ||| A)) P A g k ||| 2 ^ k ||| 2 ^ k))), some (.int (nI k)), some (.int (nI 2)), some (.int (nI (eM (an p 61 (r + 1) s true P (A ||| 2 ^ k)))))]) (st' := [.int (nI 0), .int (nI k), .ref 29]) (σ' := σ2) rfl ?_
              refine am_iastN (n := 8) rfl rfl rfl (by omega) (by decide) ?_
              refine am_run 1 (pc' := 116) (ls' := [some (.ref 0), some (.int (nI g)), some (.int (nI (dn 255 (P ||| A)))), some (.int (nI (wfk p (r + 1) s (dn 255 (P ||| A)) P A g k ||| 2 ^ k ||| 2 ^ k))), some (.int (nI k)), some (.int (nI 2 + nI 1)), some (.int (nI (eM (an p 61 (r + 1) s true P (A ||| 2 ^ k)))))]) (st' := []) (σ' := (am_wr σ2 29 k (nI 0))) rfl ?_
              refine am_ls (ls' := [some (.ref 0), some (.int (nI g)), some (.int (nI (dn 255 (P ||| A)))), some (.int (nI (wfk p (r + 1) s (dn 255 (P ||| A)) P A g k ||| 2 ^ k ||| 2 ^ k))), some (.int (nI k)), some (.int (nI 3)), some (.int (nI (eM (an p 61 (r + 1) s true P (A ||| 2 ^ k)))))]) (by rw [nI_add]) ?_
              refine am_run 3 (pc' := 31) (ls' := [some (.ref 0), some (.int (nI g)), some (.int (nI (dn 255 (P ||| A)))), some (.int (nI (wfk p (r + 1) s (dn 255 (P ||| A)) P A g k ||| 2 ^ k ||| 2 ^ k))), some (.int (nI k)), some (.int (nI 3)), some (.int (nI (eM (an p 61 (r + 1) s true P (A ||| 2 ^ k)))))]) (st' := [.int (nI 2), .int (nI 3)]) (σ' := (am_wr σ2 29 k (nI 0))) rfl ?_
              refine am_ic (ty := 119) (tn := 34) rfl (by decide) rfl rfl (fun (h_43 : nI 2 < nI 3) => ?_) (fun (h_43 : ¬ (nI 2 < nI 3)) => ?_)
              rotate_left
              · exact absurd (by decide) h_43
              refine am_run 1 (pc' := 122) (ls' := [some (.ref 0), some (.int (nI g)), some (.int (nI (dn 255 (P ||| A)))), some (.int (nI (wfk p (r + 1) s (dn 255 (P ||| A)) P A g k ||| 2 ^ k ||| 2 ^ k))), some (.int (nI k + nI 1)), some (.int (nI 3)), some (.int (nI (eM (an p 61 (r + 1) s true P (A ||| 2 ^ k)))))]) (st' := []) (σ' := (am_wr σ2 29 k (nI 0))) rfl ?_
              refine am_ls (ls' := [some (.ref 0), some (.int (nI g)), some (.int (nI (dn 255 (P ||| A)))), some (.int (nI (wfk p (r + 1) s (dn 255 (P ||| A)) P A g k ||| 2 ^ k ||| 2 ^ k))), some (.int (nI (k + 1))), some (.int (nI 3)), some (.int (nI (eM (an p 61 (r + 1) s true P (A ||| 2 ^ k)))))]) (by rw [nI_add]) ?_
              refine am_run 1 (pc' := 10) (ls' := [some (.ref 0), some (.int (nI g)), some (.int (nI (dn 255 (P ||| A)))), some (.int (nI (wfk p (r + 1) s (dn 255 (P ||| A)) P A g k ||| 2 ^ k ||| 2 ^ k))), some (.int (nI (k + 1))), some (.int (nI 3)), some (.int (nI (eM (an p 61 (r + 1) s true P (A ||| 2 ^ k)))))]) (st' := []) (σ' := (am_wr σ2 29 k (nI 0))) rfl ?_
              have e : wfk p (r + 1) s (dn 255 (P ||| A)) P A g (k + 1) = wfk p (r + 1) s (dn 255 (P ||| A)) P A g k ||| 2 ^ k ||| 2 ^ k := by
                rw [show wfk p (r + 1) s (dn 255 (P ||| A)) P A g (k + 1) = wfk p (r + 1) s (dn 255 (P ||| A)) P A g k ||| 2 ^ k from if_pos ⟨hb, by unfold wt1 dcd; simp [*]⟩]
                simp only [Nat.or_zero, Nat.or_assoc, Nat.or_self]
              refine am_ls (ls' := [some (.ref 0), some (.int (nI g)), some (.int (nI (dn 255 (P ||| A)))), some (.int (nI (wfk p (r + 1) s (dn 255 (P ||| A)) P A g (k + 1)))), some (.int (nI (k + 1))), some (.int (nI 3)), some (.int (nI (eM (an p 61 (r + 1) s true P (A ||| 2 ^ k)))))]) (by rw [e]) ?_
              exact c_waitsFor_loop hd hM hs hv hdj hP hA hg hop hq m (k + 1) _ _ _ (by omega) hI2
    · skip
      refine am_run 2 (pc' := 14) (ls' := [some (.ref 0), some (.int (nI g)), some (.int (nI (dn 255 (P ||| A)))), some (.int (nI (wfk p (r + 1) s (dn 255 (P ||| A)) P A g k))), some (.int (nI k)), v5, v6]) (st' := [.int (nI 8), .int (nI k)]) (σ' := σ') rfl ?_
      refine am_ic (ty := 17) (tn := 125) rfl (by decide) rfl rfl (fun (h_1 : nI k < nI 8) => ?_) (fun (h_1 : ¬ (nI k < nI 8)) => ?_)
      rotate_left
      · have h_1 : ¬ (k < 8) := fun z => h_1 ((nI_ltI (by omega) (by omega)).mpr z)
        omega
      have h_1 : k < 8 := (nI_ltI (by omega) (by omega)).mp h_1
      refine am_run 2 (pc' := 19) (ls' := [some (.ref 0), some (.int (nI g)), some (.int (nI (dn 255 (P ||| A)))), some (.int (nI (wfk p (r + 1) s (dn 255 (P ||| A)) P A g k))), some (.int (nI k)), v5, v6]) (st' := [.int (nI g), .int (nI (dn 255 (P ||| A)))]) (σ' := σ') rfl ?_
      refine am_invs (y := 149) (as := [.int (nI (dn 255 (P ||| A))), .int (nI g)]) (rest := []) rfl rfl rfl rfl rfl rfl (Nat.le_of_ble_eq_true rfl) ?_
      refine c_m_has (by omega) (a := dn 255 (P ||| A)) (s := g) (by omega) (by omega) (fun _ => ?_) (fun z => absurd (hop.symm.trans z) (by decide))
      show am_G _ M_X10_waitsFor _ 22 [some (.ref 0), some (.int (nI g)), some (.int (nI (dn 255 (P ||| A)))), some (.int (nI (wfk p (r + 1) s (dn 255 (P ||| A)) P A g k))), some (.int (nI k)), v5, v6] [.int (nI 1)] σ'
      refine am_if (ty := 125) (tn := 25) rfl (by decide) rfl rfl (fun (h_2 : nI 1 = 0) => ?_) (fun (h_2 : ¬ (nI 1 = 0)) => ?_)
      · exact absurd h_2 (by decide)
      refine am_run 4 (pc' := 31) (ls' := [some (.ref 0), some (.int (nI g)), some (.int (nI (dn 255 (P ||| A)))), some (.int (nI (wfk p (r + 1) s (dn 255 (P ||| A)) P A g k))), some (.int (nI k)), some (.int (nI 1)), v6]) (st' := [.int (nI 2), .int (nI 1)]) (σ' := σ') rfl ?_
      refine am_ic (ty := 119) (tn := 34) rfl (by decide) rfl rfl (fun (h_3 : nI 2 < nI 1) => ?_) (fun (h_3 : ¬ (nI 2 < nI 1)) => ?_)
      · exact absurd h_3 (by decide)
      refine am_run 2 (pc' := 37) (ls' := [some (.ref 0), some (.int (nI g)), some (.int (nI (dn 255 (P ||| A)))), some (.int (nI (wfk p (r + 1) s (dn 255 (P ||| A)) P A g k))), some (.int (nI k)), some (.int (nI 1)), v6]) (st' := [.int (nI k), .int (nI (dn 255 (P ||| A)))]) (σ' := σ') rfl ?_
      refine am_invs (y := 149) (as := [.int (nI (dn 255 (P ||| A))), .int (nI k)]) (rest := []) rfl rfl rfl rfl rfl rfl (Nat.le_of_ble_eq_true rfl) ?_
      refine c_m_has (by omega) (a := dn 255 (P ||| A)) (s := k) (by omega) (by omega) (fun z => absurd (hb.symm.trans z) (by decide)) (fun _ => ?_)
      show am_G _ M_X10_waitsFor _ 40 [some (.ref 0), some (.int (nI g)), some (.int (nI (dn 255 (P ||| A)))), some (.int (nI (wfk p (r + 1) s (dn 255 (P ||| A)) P A g k))), some (.int (nI k)), some (.int (nI 1)), v6] [.int (nI 0)] σ'
      refine am_if (ty := 119) (tn := 43) rfl (by decide) rfl rfl (fun (h_4 : nI 0 = 0) => ?_) (fun (h_4 : ¬ (nI 0 = 0)) => ?_)
      rotate_left
      · exact absurd (by decide) h_4
      refine am_run 1 (pc' := 122) (ls' := [some (.ref 0), some (.int (nI g)), some (.int (nI (dn 255 (P ||| A)))), some (.int (nI (wfk p (r + 1) s (dn 255 (P ||| A)) P A g k))), some (.int (nI k + nI 1)), some (.int (nI 1)), v6]) (st' := []) (σ' := σ') rfl ?_
      refine am_ls (ls' := [some (.ref 0), some (.int (nI g)), some (.int (nI (dn 255 (P ||| A)))), some (.int (nI (wfk p (r + 1) s (dn 255 (P ||| A)) P A g k))), some (.int (nI (k + 1))), some (.int (nI 1)), v6]) (by rw [nI_add]) ?_
      refine am_run 1 (pc' := 10) (ls' := [some (.ref 0), some (.int (nI g)), some (.int (nI (dn 255 (P ||| A)))), some (.int (nI (wfk p (r + 1) s (dn 255 (P ||| A)) P A g k))), some (.int (nI (k + 1))), some (.int (nI 1)), v6]) (st' := []) (σ' := σ') rfl ?_
      have e : wfk p (r + 1) s (dn 255 (P ||| A)) P A g (k + 1) = wfk p (r + 1) s (dn 255 (P ||| A)) P A g k := if_neg (fun z => nfl hb z.1)
      refine am_ls (ls' := [some (.ref 0), some (.int (nI g)), some (.int (nI (dn 255 (P ||| A)))), some (.int (nI (wfk p (r + 1) s (dn 255 (P ||| A)) P A g (k + 1)))), some (.int (nI (k + 1))), some (.int (nI 1)), v6]) (by rw [e]) ?_
      exact c_waitsFor_loop hd hM hs hv hdj hP hA hg hop hq m (k + 1) _ _ _ (by omega) hI
set_option maxRecDepth 10000 in
set_option maxHeartbeats 2000000 in
theorem c_waitsFor {d : Nat} (hd : 16 ≤ d) {σ : am_M} {j s P A n r g : Nat} {p : Pg} {rk od dp : Nat → Nat} {ow : Nat → Nat → Nat} (hM : MI σ j p n r rk od dp ow) (hs : s ≤ 1048576) (hv : s = ST ∨ lv p (r + 1) s = true) (hdj : dj P A) (hP : P < 256) (hA : A < 256) (hg : g < 8) (h38 : σ.1 0 38 = nI j) (h39 : σ.1 0 39 = nI s) (hI : ∀ g, g < 8 → σ.1 29 g = nI (sts (P, A) g)) {Q : am_Q} (hq : ∀ σ', WI σ σ' j s P A → Q (some (.int (nI (wfs p (r + 1) s (dn 255 (P ||| A)) P A g)))) σ') : am_C d 236 [.ref 0, .int (nI g)] σ Q := by
  have hdl : dn 255 (P ||| A) ≤ 255 := dn_le _ _
  have hWI : WI σ σ j s P A := ⟨KS.rf σ, h38, h39, hI⟩
  rcases bt ((dn 255 (P ||| A)).testBit g) with hop | hop
  · have hq2 : ∀ σ', WI σ σ' j s P A → Q (some (.int (nI (wfk p (r + 1) s (dn 255 (P ||| A)) P A g 8)))) σ' := fun σ' z => by have := hq σ' z; rw [show wfs p (r + 1) s (dn 255 (P ||| A)) P A g = wfk p (r + 1) s (dn 255 (P ||| A)) P A g 8 from if_pos hop] at this; exact this
    refine am_enter' (M := M_X10_waitsFor) rfl rfl rfl (by omega) (ls := [some (.ref 0), some (.int (nI g)), none, none, none, none, none]) rfl (fun d' hd' => ?_)
    refine am_run 1 (pc' := 1) (ls' := [some (.ref 0), some (.int (nI g)), none, none, none, none, none]) (st' := [.ref 0]) (σ' := σ) rfl ?_
    refine am_invv (y := 212) (b := 0) (as := []) (rest := []) rfl rfl rfl rfl rfl rfl rfl (Nat.le_of_ble_eq_true rfl) ?_
    refine c_m_openSet (by omega) hI ?_
    show am_G _ M_X10_waitsFor _ 4 [some (.ref 0), some (.int (nI g)), none, none, none, none, none] [.int (nI (dn 255 (P ||| A)))] σ
    refine am_run 5 (pc' := 10) (ls' := [some (.ref 0), some (.int (nI g)), some (.int (nI (dn 255 (P ||| A)))), some (.int (nI 0)), some (.int (nI 0)), none, none]) (st' := []) (σ' := σ) rfl ?_
    exact c_waitsFor_loop (by omega) hM hs hv hdj hP hA hg hop hq2 8 0 σ _ _ rfl hWI
  · have hq2 := hq σ hWI
    rw [show wfs p (r + 1) s (dn 255 (P ||| A)) P A g = 0 from if_neg (nfl hop)] at hq2
    refine am_enter' (M := M_X10_waitsFor) rfl rfl rfl (by omega) (ls := [some (.ref 0), some (.int (nI g)), none, none, none, none, none]) rfl (fun d' hd' => ?_)
    refine am_run 1 (pc' := 1) (ls' := [some (.ref 0), some (.int (nI g)), none, none, none, none, none]) (st' := [.ref 0]) (σ' := σ) rfl ?_
    refine am_invv (y := 212) (b := 0) (as := []) (rest := []) rfl rfl rfl rfl rfl rfl rfl (Nat.le_of_ble_eq_true rfl) ?_
    refine c_m_openSet (by omega) hI ?_
    show am_G _ M_X10_waitsFor _ 4 [some (.ref 0), some (.int (nI g)), none, none, none, none, none] [.int (nI (dn 255 (P ||| A)))] σ
    refine am_run 7 (pc' := 14) (ls' := [some (.ref 0), some (.int (nI g)), some (.int (nI (dn 255 (P ||| A)))), some (.int (nI 0)), some (.int (nI 0)), none, none]) (st' := [.int (nI 8), .int (nI 0)]) (σ' := σ) rfl ?_
    refine am_ic (ty := 17) (tn := 125) rfl (by decide) rfl rfl (fun (h_1 : nI 0 < nI 8) => ?_) (fun (h_1 : ¬ (nI 0 < nI 8)) => ?_)
    rotate_left
    · exact absurd (by decide) h_1
    refine am_run 2 (pc' := 19) (ls' := [some (.ref 0), some (.int (nI g)), some (.int (nI (dn 255 (P ||| A)))), some (.int (nI 0)), some (.int (nI 0)), none, none]) (st' := [.int (nI g), .int (nI (dn 255 (P ||| A)))]) (σ' := σ) rfl ?_
    refine am_invs (y := 149) (as := [.int (nI (dn 255 (P ||| A))), .int (nI g)]) (rest := []) rfl rfl rfl rfl rfl rfl (Nat.le_of_ble_eq_true rfl) ?_
    refine c_m_has (by omega) (a := dn 255 (P ||| A)) (s := g) (by omega) (by omega) (fun z => absurd (hop.symm.trans z) (by decide)) (fun _ => ?_)
    show am_G _ M_X10_waitsFor _ 22 [some (.ref 0), some (.int (nI g)), some (.int (nI (dn 255 (P ||| A)))), some (.int (nI 0)), some (.int (nI 0)), none, none] [.int (nI 0)] σ
    refine am_if (ty := 125) (tn := 25) rfl (by decide) rfl rfl (fun (h_2 : nI 0 = 0) => ?_) (fun (h_2 : ¬ (nI 0 = 0)) => ?_)
    rotate_left
    · exact absurd (by decide) h_2
    refine am_run 1 (pc' := 126) (ls' := [some (.ref 0), some (.int (nI g)), some (.int (nI (dn 255 (P ||| A)))), some (.int (nI 0)), some (.int (nI 0)), none, none]) (st' := [.int (nI 0)]) (σ' := σ) rfl ?_
    refine am_reti rfl rfl ?_
    exact hq2

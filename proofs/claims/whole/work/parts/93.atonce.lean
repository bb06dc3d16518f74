/-! with which codes each can be at once; the first loop that may end so -/
theorem ev0 (ow : Nat → Nat) : ∀ a, evn ow 0 0 0 a = (0, 0)
  | 0 => rfl
  | a + 1 => by
    show up3 (evn ow 0 0 0 a) (ow a) (0 / 3 ^ a % 3) = (0, 0)
    rw [ev0 ow a, Nat.zero_div, Nat.zero_mod]
    unfold up3
    rw [if_neg (by decide), if_neg (by decide)]
    have z : ∀ s, cl 0 s = 0 := fun s => by unfold cl; rw [Nat.zero_and]
    rw [z]
theorem st0 (g : Nat) : sts (0, 0) g = 0 := by
  unfold sts
  rw [Nat.zero_testBit]
  rfl
theorem nI_prd (k : Nat) : nI (k + 1) + -1 = nI k := by
  rw [← nI_add]
  show nI k + nI 1 + -1 = nI k
  rw [Int32.add_assoc, show nI 1 + (-1 : Int32) = 0 by decide, Int32.add_zero]
theorem nI_sub1 (a : Nat) : nI a - nI 1 = nI a + -1 := by
  rw [Int32.sub_eq_add_neg]
  rfl
def ldl (p : Nat → Nat → Nat) (k : Nat) : Bool := p 0 k == 42 && (an p 61 (p 2 k) ST false 0 0).2.2.2.testBit 0
def fz (p : Nat → Nat → Nat) (n : Nat) : Nat → Nat
  | 0 => n
  | m + 1 => if ldl p (n - (m + 1)) = true then n - (m + 1) else fz p n m
def fI (f n : Nat) : Int32 := if f = n then -1 else nI f
theorem fz_s {p : Nat → Nat → Nat} {n k : Nat} (h : k < n) : fz p n (n - k) = if ldl p k = true then k else fz p n (n - (k + 1)) := by
  obtain ⟨m, hm⟩ : ∃ m, n - k = m + 1 := ⟨n - k - 1, by omega⟩
  rw [hm, show n - (k + 1) = m by omega]
  show (if ldl p (n - (m + 1)) = true then n - (m + 1) else fz p n m) = _
  rw [show n - (m + 1) = k by omega]
theorem fz_k {p : Nat → Nat → Nat} {n : Nat} : ∀ m, m ≤ n → fz p n m = n ∨ (fz p n m < n ∧ ldl p (fz p n m) = true)
  | 0, _ => Or.inl rfl
  | m + 1, h => by
    by_cases hl : ldl p (n - (m + 1)) = true
    · have e : fz p n (m + 1) = n - (m + 1) := if_pos hl
      rw [e]
      exact Or.inr ⟨by omega, hl⟩
    · have e : fz p n (m + 1) = fz p n m := if_neg hl
      rw [e]
      exact fz_k m (by omega)
def KAo (σ0 σ : am_M) : Prop := (∀ c, c ≠ 0 → c ≠ 16 → c ≠ 28 → c ≠ 29 → σ.1 c = σ0.1 c) ∧ σ.2 = σ0.2 ∧ (∀ k, k ≠ 38 → k ≠ 39 → σ.1 0 k = σ0.1 0 k) ∧ ∀ x, x < 120 → σ.1 16 x = σ0.1 16 x
theorem RDY.nd {σ : am_M} {p g : Nat → Nat → Nat} {n r k : Nat} (h : RDY σ p g n r) (hk : k < n) : NL p g 0 n k ∧ NP p g 0 n r k ∧ 0 ≤ g 2 k ∧ g 2 k < 0 + (n - 0) := h.2.2.2.1.2.2.2.2.2.2.2.2.2 k (Nat.zero_le _) hk
theorem RDY.pw {σ : am_M} {p g : Nat → Nat → Nat} {n r : Nat} (h : RDY σ p g n r) : PW p n := ⟨h.2.1, fun i hi => by
  obtain ⟨⟨⟨c0, c1, c4, cs, cx, -⟩, k2, k3, -⟩, -⟩ := h.nd hi
  refine ⟨c0, c1, ?_, ?_, c4, fun z => cs (by unfold tSig; exact z), cx⟩
  · rcases k2 with k2 | ⟨-, k2, -⟩ <;> omega
  · rcases k3 with k3 | ⟨-, k3, -⟩ <;> omega⟩
theorem RDY.wt {σ : am_M} {p g : Nat → Nat → Nat} {n r : Nat} (h : RDY σ p g n r) : WT p n (g 2) (g 0) (fun i y => g (7 + y) i) := fun i hi => by
  obtain ⟨⟨⟨c0, c1, c4, cs, cx, c36, cu, cb, ci, c3, c8, -⟩, k2, k3, e7, e36, e4, eu⟩, -, -, r2⟩ := h.nd hi
  refine ⟨?_, ?_, c36, fun z => ?_, fun z => ?_, ?_, by omega, c3, c8⟩
  · rcases k2 with k2 | ⟨-, -, q1, q2, q3⟩
    · exact Or.inl k2
    · exact Or.inr ⟨q1, q2, q3, e36⟩
  · rcases k3 with k3 | ⟨-, -, q1, q2, q3⟩
    · exact Or.inl k3
    · exact Or.inr ⟨q1, q2, q3⟩
  · have hu : tUn (p 0 i) := z
    have e2 := cu hu
    refine ⟨e2, ?_⟩
    rw [e4 (Or.inl hu), eu hu]
    unfold pzo
    rw [if_neg e2, if_pos rfl, Nat.or_zero]
  · have hu : tBi (p 0 i) := z
    have e2 := cb hu
    refine ⟨e2, ?_⟩
    rw [e4 (Or.inr hu)]
    unfold pzo
    rw [if_neg e2]
  · unfold tIn at ci
    omega
theorem RDY.mp {σ : am_M} {p g : Nat → Nat → Nat} {n r : Nat} (h : RDY σ p g n r) (h13 : ∀ k, k < n → σ.1 13 (120 + k) = nI (p 4 k)) : ∃ od, MP σ 2 p n (g 2) od (g 0) (fun i y => g (7 + y) i) := by
  have hn := h.2.1
  have ex : ∀ a, ∃ i, a < n → i < n ∧ g 2 i = a := fun a => by
    by_cases ha : a < n
    · obtain ⟨i, -, h1, h2⟩ := h.2.2.2.1.2.2.2.2.2.2.2.2.1 a (Nat.zero_le _) (by omega)
      exact ⟨i, fun _ => ⟨h1, h2⟩⟩
    · exact ⟨0, fun z => absurd z ha⟩
  obtain ⟨od, hod⟩ := Classical.axiomOfChoice ex
  have m9 : ∀ k, k < n → σ.1 9 (120 + g 2 k) = nI k := fun k hk => (h.2.2.1 k (Nat.zero_le _) hk).2.2
  refine ⟨od, by decide, h.pw, h.wt, h.1, fun a ha => ?_, fun i hi => ?_, fun i hi => ?_⟩
  · obtain ⟨o1, o2⟩ := hod a ha
    have := m9 (od a) o1
    rw [o2] at this
    exact ⟨this, o1, o2⟩
  · have hr := (h.nd hi).2.2.2
    obtain ⟨o1, o2⟩ := hod (g 2 i) (by omega)
    have e1 := m9 (od (g 2 i)) o1
    rw [o2, m9 i hi] at e1
    exact ((nI_eq (by omega) (by omega)).mp e1).symm
  · obtain ⟨⟨m5, m6, m7, m8, m10, m11, -⟩, -, -⟩ := h.2.2.1 i (Nat.zero_le _) hi
    exact ⟨m5, m6, m7, m8, h13 i hi, m10, m11⟩
theorem MP.keep2 {σ σ' : am_M} (h : ∀ c, 2 ≤ c ∧ c ≤ 16 → σ'.1 c = σ.1 c) {j n : Nat} {p : Pg} {rk od dp : Nat → Nat} {ow : Nat → Nat → Nat} (hM : MP σ j p n rk od dp ow) : MP σ' j p n rk od dp ow := by
  obtain ⟨hj, hW, hWT, hn2, hod, hrk, hMN⟩ := hM
  refine ⟨hj, hW, hWT, by rw [h 2 (by omega)]; exact hn2, fun a ha => by rw [h 9 (by omega)]; exact hod a ha, hrk, fun i hi => ?_⟩
  have := hMN i hi
  unfold MN
  rw [h 5 (by omega), h 6 (by omega), h 7 (by omega), h 8 (by omega), h 13 (by omega), h 10 (by omega), h 11 (by omega)]
  exact this
set_option maxRecDepth 10000 in
set_option maxHeartbeats 2000000 in
theorem ao_loop {d : Nat} (hd : 2 ≤ d) {σ0 : am_M} {p : Pg} {n : Nat} (hW : PW p n) (hn2 : σ0.1 2 2 = nI n) (h42 : ∀ k, k < n → p 0 k = 42 → p 2 k ≠ 0) (h5 : ∀ k, k < n → σ0.1 5 (120 + k) = nI (p 0 k) ∧ σ0.1 7 (120 + k) = oI (p 2 k)) (hT : ∀ k, k < n → σ0.1 28 ((k * 27 + 0) * 4 + 1) = nI (eM (an p 61 (k + 1) ST false 0 0))) {Q : am_Q} (hq : ∀ σ, KAo σ0 σ → (∀ k, k < n → σ.1 16 (120 + k) = nI (an p 61 (k + 1) ST false 0 0).2.2.2) → Q (some (.int (fI (fz p n n) n))) σ) : ∀ (m : Nat) (σ : am_M) (v3 : Option Value), m ≤ n → KAo σ0 σ → σ.1 28 = σ0.1 28 → (∀ k, m ≤ k → k < n → σ.1 16 (120 + k) = nI (an p 61 (k + 1) ST false 0 0).2.2.2) → am_G d M_X10_laysAtOnce Q 39 [some (.ref 0), some (.int (fI (fz p n (n - m)) n)), some (.int (nI m + -1)), v3] [] σ
  | 0, σ, v3, hm, hK, h28, hold => by
    refine am_ls (ls' := [some (.ref 0), some (.int (fI (fz p n n) n)), some (.int (-1)), v3]) rfl ?_
    refine am_run 1 (pc' := 40) (ls' := [some (.ref 0), some (.int (fI (fz p n n) n)), some (.int (-1)), v3]) (st' := [.int (-1)]) (σ' := σ) rfl ?_
    refine am_if (ty := 118) (tn := 43) rfl (by decide) rfl rfl (fun (h_301 : -1 < 0) => ?_) (fun (h_301 : ¬ (-1 < 0)) => ?_)
    rotate_left
    · exact absurd (by decide) h_301
    refine am_run 1 (pc' := 119) (ls' := [some (.ref 0), some (.int (fI (fz p n n) n)), some (.int (-1)), v3]) (st' := [.int (fI (fz p n n) n)]) (σ' := σ) rfl ?_
    refine am_reti rfl rfl ?_
    exact hq σ hK (fun k hk => hold k (Nat.zero_le _) hk)
  | k + 1, σ, v3, hm, hK, h28, hold => by
    have hn60 := hW.1
    have oka : ∀ x, x ≤ n → ok4 (an p 61 x ST false 0 0) := fun x hx => an_ok hW 61 x ST false 0 0 hx
    have c5 : σ.1 5 (120 + k) = nI (p 0 k) := by rw [hK.1 5 (by decide) (by decide) (by decide) (by decide)]; exact (h5 k (by omega)).1
    have c7 : σ.1 7 (120 + k) = oI (p 2 k) := by rw [hK.1 7 (by decide) (by decide) (by decide) (by decide)]; exact (h5 k (by omega)).2
    have c28 : ∀ k, k < n → σ.1 28 ((k * 27 + 0) * 4 + 1) = nI (eM (an p 61 (k + 1) ST false 0 0)) := fun k hk => by rw [h28]; exact hT k hk
    have p0 := (hW.2 k (by omega)).1
    have hfz := fz_s (p := p) (n := n) (k := k) (by omega)
    have hKA : KAo σ0 (am_wr σ 16 (120 + k) (nI (an p 61 (k + 1) ST false 0 0).2.2.2)) := ⟨fun c a b e f => by rw [am_wr_ne _ (by omega)]; exact hK.1 c a b e f, hK.2.1, fun x a b => by rw [am_wr_ne _ (by decide)]; exact hK.2.2.1 x a b, fun x hx => by rw [am_ne2 _ (by omega)]; exact hK.2.2.2 x hx⟩
    have h28' : (am_wr σ 16 (120 + k) (nI (an p 61 (k + 1) ST false 0 0).2.2.2)).1 28 = σ0.1 28 := by rw [am_wr_ne _ (by decide)]; exact h28
    have hold' : ∀ k', k ≤ k' → k' < n → (am_wr σ 16 (120 + k) (nI (an p 61 (k + 1) ST false 0 0).2.2.2)).1 16 (120 + k') = nI (an p 61 (k' + 1) ST false 0 0).2.2.2 := fun k' h1 h2 => by
      by_cases hz : k' = k
      · subst hz
        rw [am_same]
      · rw [am_ne2 _ (by omega)]
        exact hold k' (by omega) h2
    refine am_ls (ls' := [some (.ref 0), some (.int (fI (fz p n (n - (k + 1))) n)), some (.int (nI k)), v3]) (by rw [nI_prd]) ?_
    by_cases h420 : p 0 k = 42
    · obtain ⟨x, hx⟩ : ∃ x, p 2 k = x + 1 := ⟨p 2 k - 1, by have := h42 k (by omega) h420; omega⟩
      have hxn := (hW.2 k (by omega)).2.2.1
      refine am_run 1 (pc' := 40) (ls' := [some (.ref 0), some (.int (fI (fz p n (n - (k + 1))) n)), some (.int (nI k)), v3]) (st' := [.int (nI k)]) (σ' := σ) rfl ?_
      refine am_if (ty := 118) (tn := 43) rfl (by decide) rfl rfl (fun (h_301 : nI k < 0) => ?_) (fun (h_301 : ¬ (nI k < 0)) => ?_)
      · have h_301 : k < 0 := (am_nlt0 (by omega)).mp h_301
        omega
      have h_301 : ¬ (k < 0) := fun z => h_301 ((am_nlt0 (by omega)).mpr z)
      refine am_run 2 (pc' := 45) (ls' := [some (.ref 0), some (.int (fI (fz p n (n - (k + 1))) n)), some (.int (nI k)), v3]) (st' := [.int (nI k), .int (nI 2)]) (σ' := σ) rfl ?_
      refine am_invs (y := 158) (as := [.int (nI 2), .int (nI k)]) (rest := []) rfl rfl rfl rfl rfl rfl (Nat.le_of_ble_eq_true rfl) ?_
      refine c_m_placeOf (by omega) (j := 2) ?_
      show am_G _ M_X10_laysAtOnce _ 48 [some (.ref 0), some (.int (fI (fz p n (n - (k + 1))) n)), some (.int (nI k)), v3] [.int (nI (120 + k))] σ
      refine am_run 9 (pc' := 61) (ls' := [some (.ref 0), some (.int (fI (fz p n (n - (k + 1))) n)), some (.int (nI k)), some (.int (nI (120 + k)))]) (st' := [.int (nI 1), .int (nI 0), .int (nI k), .ref 28, .int (nI (120 + k)), .ref 16]) (σ' := σ) rfl ?_
      refine am_invs (y := 189) (as := [.int (nI k), .int (nI 0), .int (nI 1)]) (rest := [.ref 28, .int (nI (120 + k)), .ref 16]) rfl rfl rfl rfl rfl rfl (Nat.le_of_ble_eq_true rfl) ?_
      refine c_m_cellOf (by omega) ?_
      show am_G _ M_X10_laysAtOnce _ 64 [some (.ref 0), some (.int (fI (fz p n (n - (k + 1))) n)), some (.int (nI k)), some (.int (nI (120 + k)))] [.int (nI ((k * 27 + 0) * 4 + 1)), .ref 28, .int (nI (120 + k)), .ref 16] σ
      refine am_ialdN (n := 6481) (v := nI (eM (an p 61 (k + 1) ST false 0 0))) rfl rfl rfl (by omega) (c28 k (by omega)) (by decide) ?_
      refine am_invs (y := 188) (as := [.int (nI (eM (an p 61 (k + 1) ST false 0 0)))]) (rest := [.int (nI (120 + k)), .ref 16]) rfl rfl rfl rfl rfl rfl (Nat.le_of_ble_eq_true rfl) ?_
      refine c_m_canCodes (by omega) (oka _ (by omega)) ?_
      show am_G _ M_X10_laysAtOnce _ 68 [some (.ref 0), some (.int (fI (fz p n (n - (k + 1))) n)), some (.int (nI k)), some (.int (nI (120 + k)))] [.int (nI ((an p 61 (k + 1) ST false 0 0).2.2.2)), .int (nI (120 + k)), .ref 16] σ
      refine am_iastN (n := 180) rfl rfl rfl (by omega) (by decide) ?_
      refine am_run 3 (pc' := 74) (ls' := [some (.ref 0), some (.int (fI (fz p n (n - (k + 1))) n)), some (.int (nI k)), some (.int (nI (120 + k)))]) (st' := [.int (nI (120 + k)), .ref 5]) (σ' := (am_wr σ 16 (120 + k) (nI ((an p 61 (k + 1) ST false 0 0).2.2.2)))) rfl ?_
      refine am_ialdN (n := 180) (v := nI (p 0 k)) rfl rfl rfl (by omega) (by rw [am_wr_ne _ (by decide)]; exact c5) (by decide) ?_
      refine am_run 1 (pc' := 77) (ls' := [some (.ref 0), some (.int (fI (fz p n (n - (k + 1))) n)), some (.int (nI k)), some (.int (nI (120 + k)))]) (st' := [.int (nI 42), .int (nI (p 0 k))]) (σ' := (am_wr σ 16 (120 + k) (nI ((an p 61 (k + 1) ST false 0 0).2.2.2)))) rfl ?_
      refine am_ic (ty := 80) (tn := 110) rfl (by decide) rfl rfl (fun (h_302 : nI (p 0 k) = nI 42) => ?_) (fun (h_302 : ¬ (nI (p 0 k) = nI 42)) => ?_)
      rotate_left
      · have h_302 : ¬ (p 0 k = 42) := fun z => h_302 ((nI_eq (by omega) (by omega)).mpr z)
        omega
      have h_302 : p 0 k = 42 := (nI_eq (by omega) (by omega)).mp h_302
      refine am_run 5 (pc' := 89) (ls' := [some (.ref 0), some (.int (fI (fz p n (n - (k + 1))) n)), some (.int (nI k)), some (.int (nI (120 + k)))]) (st' := [.int (nI (120 + k)), .ref 7, .ref 28]) (σ' := (am_wr σ 16 (120 + k) (nI ((an p 61 (k + 1) ST false 0 0).2.2.2)))) rfl ?_
      refine am_ialdN (n := 180) (v := nI x) rfl rfl rfl (by omega) (by rw [am_wr_ne _ (by decide)]; exact (c7.trans (by rw [hx, oI_s]))) (by decide) ?_
      refine am_run 2 (pc' := 92) (ls' := [some (.ref 0), some (.int (fI (fz p n (n - (k + 1))) n)), some (.int (nI k)), some (.int (nI (120 + k)))]) (st' := [.int (nI 1), .int (nI 0), .int (nI x), .ref 28]) (σ' := (am_wr σ 16 (120 + k) (nI ((an p 61 (k + 1) ST false 0 0).2.2.2)))) rfl ?_
      refine am_invs (y := 189) (as := [.int (nI x), .int (nI 0), .int (nI 1)]) (rest := [.ref 28]) rfl rfl rfl rfl rfl rfl (Nat.le_of_ble_eq_true rfl) ?_
      refine c_m_cellOf (by omega) ?_
      show am_G _ M_X10_laysAtOnce _ 95 [some (.ref 0), some (.int (fI (fz p n (n - (k + 1))) n)), some (.int (nI k)), some (.int (nI (120 + k)))] [.int (nI ((x * 27 + 0) * 4 + 1)), .ref 28] (am_wr σ 16 (120 + k) (nI ((an p 61 (k + 1) ST false 0 0).2.2.2)))
      refine am_ialdN (n := 6481) (v := nI (eM (an p 61 (x + 1) ST false 0 0))) rfl rfl rfl (by omega) (by rw [am_wr_ne _ (by decide)]; exact c28 x (by omega)) (by decide) ?_
      refine am_invs (y := 188) (as := [.int (nI (eM (an p 61 (x + 1) ST false 0 0)))]) (rest := []) rfl rfl rfl rfl rfl rfl (Nat.le_of_ble_eq_true rfl) ?_
      refine c_m_canCodes (by omega) (oka _ (by omega)) ?_
      show am_G _ M_X10_laysAtOnce _ 99 [some (.ref 0), some (.int (fI (fz p n (n - (k + 1))) n)), some (.int (nI k)), some (.int (nI (120 + k)))] [.int (nI ((an p 61 (x + 1) ST false 0 0).2.2.2))] (am_wr σ 16 (120 + k) (nI ((an p 61 (k + 1) ST false 0 0).2.2.2)))
      refine am_run 1 (pc' := 100) (ls' := [some (.ref 0), some (.int (fI (fz p n (n - (k + 1))) n)), some (.int (nI k)), some (.int (nI (120 + k)))]) (st' := [.int (nI 0), .int (nI ((an p 61 (x + 1) ST false 0 0).2.2.2))]) (σ' := (am_wr σ 16 (120 + k) (nI ((an p 61 (k + 1) ST false 0 0).2.2.2)))) rfl ?_
      refine am_invs (y := 149) (as := [.int (nI ((an p 61 (x + 1) ST false 0 0).2.2.2)), .int (nI 0)]) (rest := []) rfl rfl rfl rfl rfl rfl (Nat.le_of_ble_eq_true rfl) ?_
      refine c_m_has (by omega) (by have := (oka (x + 1) (by omega)).2.2.2; omega) (by omega) (fun hx1 => ?_) (fun hx1 => ?_)
      · show am_G _ M_X10_laysAtOnce _ 103 [some (.ref 0), some (.int (fI (fz p n (n - (k + 1))) n)), some (.int (nI k)), some (.int (nI (120 + k)))] [.int (nI 1)] (am_wr σ 16 (120 + k) (nI ((an p 61 (k + 1) ST false 0 0).2.2.2)))
        refine am_if (ty := 110) (tn := 106) rfl (by decide) rfl rfl (fun (h_303 : nI 1 = 0) => ?_) (fun (h_303 : ¬ (nI 1 = 0)) => ?_)
        · exact absurd h_303 (by decide)
        refine am_run 5 (pc' := 39) (ls' := [some (.ref 0), some (.int (nI k)), some (.int (nI k + -1)), some (.int (nI (120 + k)))]) (st' := []) (σ' := (am_wr σ 16 (120 + k) (nI ((an p 61 (k + 1) ST false 0 0).2.2.2)))) rfl ?_
        have hl : ldl p k = true := by
          unfold ldl
          rw [Bool.and_eq_true, beq_iff_eq]
          exact ⟨by omega, by rw [hx]; exact hx1⟩
        rw [if_pos hl] at hfz
        have hz := ao_loop hd hW hn2 h42 h5 hT hq k _ (some (.int (nI (120 + k)))) (by omega) hKA h28' hold'
        rw [hfz, show fI k n = nI k from if_neg (by omega)] at hz
        exact hz
      · show am_G _ M_X10_laysAtOnce _ 103 [some (.ref 0), some (.int (fI (fz p n (n - (k + 1))) n)), some (.int (nI k)), some (.int (nI (120 + k)))] [.int (nI 0)] (am_wr σ 16 (120 + k) (nI ((an p 61 (k + 1) ST false 0 0).2.2.2)))
        refine am_if (ty := 110) (tn := 106) rfl (by decide) rfl rfl (fun (h_304 : nI 0 = 0) => ?_) (fun (h_304 : ¬ (nI 0 = 0)) => ?_)
        rotate_left
        · exact absurd (by decide) h_304
        refine am_run 4 (pc' := 39) (ls' := [some (.ref 0), some (.int (fI (fz p n (n - (k + 1))) n)), some (.int (nI k + -1)), some (.int (nI (120 + k)))]) (st' := []) (σ' := (am_wr σ 16 (120 + k) (nI ((an p 61 (k + 1) ST false 0 0).2.2.2)))) rfl ?_
        have hl : ¬ ldl p k = true := fun z => by
          unfold ldl at z
          rw [Bool.and_eq_true, hx, hx1] at z
          exact absurd z.2 (by decide)
        rw [if_neg hl] at hfz
        have hz := ao_loop hd hW hn2 h42 h5 hT hq k _ (some (.int (nI (120 + k)))) (by omega) hKA h28' hold'
        rw [hfz] at hz
        exact hz
    · refine am_run 1 (pc' := 40) (ls' := [some (.ref 0), some (.int (fI (fz p n (n - (k + 1))) n)), some (.int (nI k)), v3]) (st' := [.int (nI k)]) (σ' := σ) rfl ?_
      refine am_if (ty := 118) (tn := 43) rfl (by decide) rfl rfl (fun (h_301 : nI k < 0) => ?_) (fun (h_301 : ¬ (nI k < 0)) => ?_)
      · have h_301 : k < 0 := (am_nlt0 (by omega)).mp h_301
        omega
      have h_301 : ¬ (k < 0) := fun z => h_301 ((am_nlt0 (by omega)).mpr z)
      refine am_run 2 (pc' := 45) (ls' := [some (.ref 0), some (.int (fI (fz p n (n - (k + 1))) n)), some (.int (nI k)), v3]) (st' := [.int (nI k), .int (nI 2)]) (σ' := σ) rfl ?_
      refine am_invs (y := 158) (as := [.int (nI 2), .int (nI k)]) (rest := []) rfl rfl rfl rfl rfl rfl (Nat.le_of_ble_eq_true rfl) ?_
      refine c_m_placeOf (by omega) (j := 2) ?_
      show am_G _ M_X10_laysAtOnce _ 48 [some (.ref 0), some (.int (fI (fz p n (n - (k + 1))) n)), some (.int (nI k)), v3] [.int (nI (120 + k))] σ
      refine am_run 9 (pc' := 61) (ls' := [some (.ref 0), some (.int (fI (fz p n (n - (k + 1))) n)), some (.int (nI k)), some (.int (nI (120 + k)))]) (st' := [.int (nI 1), .int (nI 0), .int (nI k), .ref 28, .int (nI (120 + k)), .ref 16]) (σ' := σ) rfl ?_
      refine am_invs (y := 189) (as := [.int (nI k), .int (nI 0), .int (nI 1)]) (rest := [.ref 28, .int (nI (120 + k)), .ref 16]) rfl rfl rfl rfl rfl rfl (Nat.le_of_ble_eq_true rfl) ?_
      refine c_m_cellOf (by omega) ?_
      show am_G _ M_X10_laysAtOnce _ 64 [some (.ref 0), some (.int (fI (fz p n (n - (k + 1))) n)), some (.int (nI k)), some (.int (nI (120 + k)))] [.int (nI ((k * 27 + 0) * 4 + 1)), .ref 28, .int (nI (120 + k)), .ref 16] σ
      refine am_ialdN (n := 6481) (v := nI (eM (an p 61 (k + 1) ST false 0 0))) rfl rfl rfl (by omega) (c28 k (by omega)) (by decide) ?_
      refine am_invs (y := 188) (as := [.int (nI (eM (an p 61 (k + 1) ST false 0 0)))]) (rest := [.int (nI (120 + k)), .ref 16]) rfl rfl rfl rfl rfl rfl (Nat.le_of_ble_eq_true rfl) ?_
      refine c_m_canCodes (by omega) (oka _ (by omega)) ?_
      show am_G _ M_X10_laysAtOnce _ 68 [some (.ref 0), some (.int (fI (fz p n (n - (k + 1))) n)), some (.int (nI k)), some (.int (nI (120 + k)))] [.int (nI ((an p 61 (k + 1) ST false 0 0).2.2.2)), .int (nI (120 + k)), .ref 16] σ
      refine am_iastN (n := 180) rfl rfl rfl (by omega) (by decide) ?_
      refine am_run 3 (pc' := 74) (ls' := [some (.ref 0), some (.int (fI (fz p n (n - (k + 1))) n)), some (.int (nI k)), some (.int (nI (120 + k)))]) (st' := [.int (nI (120 + k)), .ref 5]) (σ' := (am_wr σ 16 (120 + k) (nI ((an p 61 (k + 1) ST false 0 0).2.2.2)))) rfl ?_
      refine am_ialdN (n := 180) (v := nI (p 0 k)) rfl rfl rfl (by omega) (by rw [am_wr_ne _ (by decide)]; exact c5) (by decide) ?_
      refine am_run 1 (pc' := 77) (ls' := [some (.ref 0), some (.int (fI (fz p n (n - (k + 1))) n)), some (.int (nI k)), some (.int (nI (120 + k)))]) (st' := [.int (nI 42), .int (nI (p 0 k))]) (σ' := (am_wr σ 16 (120 + k) (nI ((an p 61 (k + 1) ST false 0 0).2.2.2)))) rfl ?_
      refine am_ic (ty := 80) (tn := 110) rfl (by decide) rfl rfl (fun (h_302 : nI (p 0 k) = nI 42) => ?_) (fun (h_302 : ¬ (nI (p 0 k) = nI 42)) => ?_)
      · have h_302 : p 0 k = 42 := (nI_eq (by omega) (by omega)).mp h_302
        omega
      have h_302 : ¬ (p 0 k = 42) := fun z => h_302 ((nI_eq (by omega) (by omega)).mpr z)
      refine am_run 4 (pc' := 39) (ls' := [some (.ref 0), some (.int (fI (fz p n (n - (k + 1))) n)), some (.int (nI k + -1)), some (.int (nI (120 + k)))]) (st' := []) (σ' := (am_wr σ 16 (120 + k) (nI ((an p 61 (k + 1) ST false 0 0).2.2.2)))) rfl ?_
      have hl : ¬ ldl p k = true := fun z => by
        unfold ldl at z
        rw [Bool.and_eq_true, beq_iff_eq] at z
        omega
      rw [if_neg hl] at hfz
      have hz := ao_loop hd hW hn2 h42 h5 hT hq k _ (some (.int (nI (120 + k)))) (by omega) hKA h28' hold'
      rw [hfz] at hz
      exact hz
set_option maxRecDepth 10000 in
set_option maxHeartbeats 2000000 in
theorem c_laysAtOnce {d : Nat} (hd : 16 ≤ d) {σ0 : am_M} {p g : Nat → Nat → Nat} {n r : Nat} (h : RDY σ0 p g n r) (h13 : ∀ k, k < n → σ0.1 13 (120 + k) = nI (p 4 k)) {Q : am_Q} (hq : ∀ σ, KAo σ0 σ → (∀ k, k < n → σ.1 16 (120 + k) = nI (an p 61 (k + 1) ST false 0 0).2.2.2) → Q (some (.int (fI (fz p n n) n))) σ) : am_C d 177 [.ref 0] σ0 Q := by
  obtain ⟨od, hM⟩ := h.mp h13
  have hn1 := h.2.2.2.1.2.1
  have hn60 := h.2.1
  refine am_enter' (M := M_X10_laysAtOnce) rfl rfl rfl (by omega) (ls := [some (.ref 0), none, none, none]) rfl (fun d' hd' => ?_)
  refine am_run 4 (pc' := 5) (ls' := [some (.ref 0), some (.int (nI 0)), none, none]) (st' := [.int (nI 8), .int (nI 0)]) (σ' := σ0) rfl ?_
  refine am_ic (ty := 8) (tn := 21) rfl (by decide) rfl rfl (fun (h_1 : nI 0 < nI 8) => ?_) (fun (h_1 : ¬ (nI 0 < nI 8)) => ?_)
  rotate_left
  · exact absurd (by decide) h_1
  refine am_run 4 (pc' := 14) (ls' := [some (.ref 0), some (.int (nI 0)), none, none]) (st' := [.int (nI 0), .int (nI 0), .ref 29]) (σ' := σ0) rfl ?_
  refine am_iastN (n := 8) rfl rfl rfl (by omega) (by decide) ?_
  refine am_run 1 (pc' := 18) (ls' := [some (.ref 0), some (.int (nI 0 + nI 1)), none, none]) (st' := []) (σ' := (am_wr σ0 29 0 (nI 0))) rfl ?_
  refine am_ls (ls' := [some (.ref 0), some (.int (nI 1)), none, none]) (by rw [nI_add]) ?_
  refine am_run 3 (pc' := 5) (ls' := [some (.ref 0), some (.int (nI 1)), none, none]) (st' := [.int (nI 8), .int (nI 1)]) (σ' := (am_wr σ0 29 0 (nI 0))) rfl ?_
  refine am_ic (ty := 8) (tn := 21) rfl (by decide) rfl rfl (fun (h_2 : nI 1 < nI 8) => ?_) (fun (h_2 : ¬ (nI 1 < nI 8)) => ?_)
  rotate_left
  · exact absurd (by decide) h_2
  refine am_run 4 (pc' := 14) (ls' := [some (.ref 0), some (.int (nI 1)), none, none]) (st' := [.int (nI 0), .int (nI 1), .ref 29]) (σ' := (am_wr σ0 29 0 (nI 0))) rfl ?_
  refine am_iastN (n := 8) rfl rfl rfl (by omega) (by decide) ?_
  refine am_run 1 (pc' := 18) (ls' := [some (.ref 0), some (.int (nI 1 + nI 1)), none, none]) (st' := []) (σ' := (am_wr (am_wr σ0 29 0 (nI 0)) 29 1 (nI 0))) rfl ?_
  refine am_ls (ls' := [some (.ref 0), some (.int (nI 2)), none, none]) (by rw [nI_add]) ?_
  refine am_run 3 (pc' := 5) (ls' := [some (.ref 0), some (.int (nI 2)), none, none]) (st' := [.int (nI 8), .int (nI 2)]) (σ' := (am_wr (am_wr σ0 29 0 (nI 0)) 29 1 (nI 0))) rfl ?_
  refine am_ic (ty := 8) (tn := 21) rfl (by decide) rfl rfl (fun (h_3 : nI 2 < nI 8) => ?_) (fun (h_3 : ¬ (nI 2 < nI 8)) => ?_)
  rotate_left
  · exact absurd (by decide) h_3
  refine am_run 4 (pc' := 14) (ls' := [some (.ref 0), some (.int (nI 2)), none, none]) (st' := [.int (nI 0), .int (nI 2), .ref 29]) (σ' := (am_wr (am_wr σ0 29 0 (nI 0)) 29 1 (nI 0))) rfl ?_
  refine am_iastN (n := 8) rfl rfl rfl (by omega) (by decide) ?_
  refine am_run 1 (pc' := 18) (ls' := [some (.ref 0), some (.int (nI 2 + nI 1)), none, none]) (st' := []) (σ' := (am_wr (am_wr (am_wr σ0 29 0 (nI 0)) 29 1 (nI 0)) 29 2 (nI 0))) rfl ?_
  refine am_ls (ls' := [some (.ref 0), some (.int (nI 3)), none, none]) (by rw [nI_add]) ?_
  refine am_run 3 (pc' := 5) (ls' := [some (.ref 0), some (.int (nI 3)), none, none]) (st' := [.int (nI 8), .int (nI 3)]) (σ' := (am_wr (am_wr (am_wr σ0 29 0 (nI 0)) 29 1 (nI 0)) 29 2 (nI 0))) rfl ?_
  refine am_ic (ty := 8) (tn := 21) rfl (by decide) rfl rfl (fun (h_4 : nI 3 < nI 8) => ?_) (fun (h_4 : ¬ (nI 3 < nI 8)) => ?_)
  rotate_left
  · exact absurd (by decide) h_4
  refine am_run 4 (pc' := 14) (ls' := [some (.ref 0), some (.int (nI 3)), none, none]) (st' := [.int (nI 0), .int (nI 3), .ref 29]) (σ' := (am_wr (am_wr (am_wr σ0 29 0 (nI 0)) 29 1 (nI 0)) 29 2 (nI 0))) rfl ?_
  refine am_iastN (n := 8) rfl rfl rfl (by omega) (by decide) ?_
  refine am_run 1 (pc' := 18) (ls' := [some (.ref 0), some (.int (nI 3 + nI 1)), none, none]) (st' := []) (σ' := (am_wr (am_wr (am_wr (am_wr σ0 29 0 (nI 0)) 29 1 (nI 0)) 29 2 (nI 0)) 29 3 (nI 0))) rfl ?_
  refine am_ls (ls' := [some (.ref 0), some (.int (nI 4)), none, none]) (by rw [nI_add]) ?_
  refine am_run 3 (pc' := 5) (ls' := [some (.ref 0), some (.int (nI 4)), none, none]) (st' := [.int (nI 8), .int (nI 4)]) (σ' := (am_wr (am_wr (am_wr (am_wr σ0 29 0 (nI 0)) 29 1 (nI 0)) 29 2 (nI 0)) 29 3 (nI 0))) rfl ?_
  refine am_ic (ty := 8) (tn := 21) rfl (by decide) rfl rfl (fun (h_5 : nI 4 < nI 8) => ?_) (fun (h_5 : ¬ (nI 4 < nI 8)) => ?_)
  rotate_left
  · exact absurd (by decide) h_5
  refine am_run 4 (pc' := 14) (ls' := [some (.ref 0), some (.int (nI 4)), none, none]) (st' := [.int (nI 0), .int (nI 4), .ref 29]) (σ' := (am_wr (am_wr (am_wr (am_wr σ0 29 0 (nI 0)) 29 1 (nI 0)) 29 2 (nI 0)) 29 3 (nI 0))) rfl ?_
  refine am_iastN (n := 8) rfl rfl rfl (by omega) (by decide) ?_
  refine am_run 1 (pc' := 18) (ls' := [some (.ref 0), some (.int (nI 4 + nI 1)), none, none]) (st' := []) (σ' := (am_wr (am_wr (am_wr (am_wr (am_wr σ0 29 0 (nI 0)) 29 1 (nI 0)) 29 2 (nI 0)) 29 3 (nI 0)) 29 4 (nI 0))) rfl ?_
  refine am_ls (ls' := [some (.ref 0), some (.int (nI 5)), none, none]) (by rw [nI_add]) ?_
  refine am_run 3 (pc' := 5) (ls' := [some (.ref 0), some (.int (nI 5)), none, none]) (st' := [.int (nI 8), .int (nI 5)]) (σ' := (am_wr (am_wr (am_wr (am_wr (am_wr σ0 29 0 (nI 0)) 29 1 (nI 0)) 29 2 (nI 0)) 29 3 (nI 0)) 29 4 (nI 0))) rfl ?_
  refine am_ic (ty := 8) (tn := 21) rfl (by decide) rfl rfl (fun (h_6 : nI 5 < nI 8) => ?_) (fun (h_6 : ¬ (nI 5 < nI 8)) => ?_)
  rotate_left
  · exact absurd (by decide) h_6
  refine am_run 4 (pc' := 14) (ls' := [some (.ref 0), some (.int (nI 5)), none, none]) (st' := [.int (nI 0), .int (nI 5), .ref 29]) (σ' := (am_wr (am_wr (am_wr (am_wr (am_wr σ0 29 0 (nI 0)) 29 1 (nI 0)) 29 2 (nI 0)) 29 3 (nI 0)) 29 4 (nI 0))) rfl ?_
  refine am_iastN (n := 8) rfl rfl rfl (by omega) (by decide) ?_
  refine am_run 1 (pc' := 18) (ls' := [some (.ref 0), some (.int (nI 5 + nI 1)), none, none]) (st' := []) (σ' := (am_wr (am_wr (am_wr (am_wr (am_wr (am_wr σ0 29 0 (nI 0)) 29 1 (nI 0)) 29 2 (nI 0)) 29 3 (nI 0)) 29 4 (nI 0)) 29 5 (nI 0))) rfl ?_
  refine am_ls (ls' := [some (.ref 0), some (.int (nI 6)), none, none]) (by rw [nI_add]) ?_
  refine am_run 3 (pc' := 5) (ls' := [some (.ref 0), some (.int (nI 6)), none, none]) (st' := [.int (nI 8), .int (nI 6)]) (σ' := (am_wr (am_wr (am_wr (am_wr (am_wr (am_wr σ0 29 0 (nI 0)) 29 1 (nI 0)) 29 2 (nI 0)) 29 3 (nI 0)) 29 4 (nI 0)) 29 5 (nI 0))) rfl ?_
  refine am_ic (ty := 8) (tn := 21) rfl (by decide) rfl rfl (fun (h_7 : nI 6 < nI 8) => ?_) (fun (h_7 : ¬ (nI 6 < nI 8)) => ?_)
  rotate_left
  · exact absurd (by decide) h_7
  refine am_run 4 (pc' := 14) (ls' := [some (.ref 0), some (.int (nI 6)), none, none]) (st' := [.int (nI 0), .int (nI 6), .ref 29]) (σ' := (am_wr (am_wr (am_wr (am_wr (am_wr (am_wr σ0 29 0 (nI 0)) 29 1 (nI 0)) 29 2 (nI 0)) 29 3 (nI 0)) 29 4 (nI 0)) 29 5 (nI 0))) rfl ?_
  refine am_iastN (n := 8) rfl rfl rfl (by omega) (by decide) ?_
  refine am_run 1 (pc' := 18) (ls' := [some (.ref 0), some (.int (nI 6 + nI 1)), none, none]) (st' := []) (σ' := (am_wr (am_wr (am_wr (am_wr (am_wr (am_wr (am_wr σ0 29 0 (nI 0)) 29 1 (nI 0)) 29 2 (nI 0)) 29 3 (nI 0)) 29 4 (nI 0)) 29 5 (nI 0)) 29 6 (nI 0))) rfl ?_
  refine am_ls (ls' := [some (.ref 0), some (.int (nI 7)), none, none]) (by rw [nI_add]) ?_
  refine am_run 3 (pc' := 5) (ls' := [some (.ref 0), some (.int (nI 7)), none, none]) (st' := [.int (nI 8), .int (nI 7)]) (σ' := (am_wr (am_wr (am_wr (am_wr (am_wr (am_wr (am_wr σ0 29 0 (nI 0)) 29 1 (nI 0)) 29 2 (nI 0)) 29 3 (nI 0)) 29 4 (nI 0)) 29 5 (nI 0)) 29 6 (nI 0))) rfl ?_
  refine am_ic (ty := 8) (tn := 21) rfl (by decide) rfl rfl (fun (h_8 : nI 7 < nI 8) => ?_) (fun (h_8 : ¬ (nI 7 < nI 8)) => ?_)
  rotate_left
  · exact absurd (by decide) h_8
  refine am_run 4 (pc' := 14) (ls' := [some (.ref 0), some (.int (nI 7)), none, none]) (st' := [.int (nI 0), .int (nI 7), .ref 29]) (σ' := (am_wr (am_wr (am_wr (am_wr (am_wr (am_wr (am_wr σ0 29 0 (nI 0)) 29 1 (nI 0)) 29 2 (nI 0)) 29 3 (nI 0)) 29 4 (nI 0)) 29 5 (nI 0)) 29 6 (nI 0))) rfl ?_
  refine am_iastN (n := 8) rfl rfl rfl (by omega) (by decide) ?_
  refine am_run 1 (pc' := 18) (ls' := [some (.ref 0), some (.int (nI 7 + nI 1)), none, none]) (st' := []) (σ' := (am_wr (am_wr (am_wr (am_wr (am_wr (am_wr (am_wr (am_wr σ0 29 0 (nI 0)) 29 1 (nI 0)) 29 2 (nI 0)) 29 3 (nI 0)) 29 4 (nI 0)) 29 5 (nI 0)) 29 6 (nI 0)) 29 7 (nI 0))) rfl ?_
  refine am_ls (ls' := [some (.ref 0), some (.int (nI 8)), none, none]) (by rw [nI_add]) ?_
  refine am_run 3 (pc' := 5) (ls' := [some (.ref 0), some (.int (nI 8)), none, none]) (st' := [.int (nI 8), .int (nI 8)]) (σ' := (am_wr (am_wr (am_wr (am_wr (am_wr (am_wr (am_wr (am_wr σ0 29 0 (nI 0)) 29 1 (nI 0)) 29 2 (nI 0)) 29 3 (nI 0)) 29 4 (nI 0)) 29 5 (nI 0)) 29 6 (nI 0)) 29 7 (nI 0))) rfl ?_
  refine am_ic (ty := 8) (tn := 21) rfl (by decide) rfl rfl (fun (h_9 : nI 8 < nI 8) => ?_) (fun (h_9 : ¬ (nI 8 < nI 8)) => ?_)
  · exact absurd h_9 (by decide)
  refine am_run 3 (pc' := 25) (ls' := [some (.ref 0), some (.int (nI 8)), none, none]) (st' := [.int (nI 1048576), .int (nI 2), .ref 0]) (σ' := (am_wr (am_wr (am_wr (am_wr (am_wr (am_wr (am_wr (am_wr σ0 29 0 (nI 0)) 29 1 (nI 0)) 29 2 (nI 0)) 29 3 (nI 0)) 29 4 (nI 0)) 29 5 (nI 0)) 29 6 (nI 0)) 29 7 (nI 0))) rfl ?_
  refine am_invv (y := 209) (b := 0) (as := [.int (nI 2), .int (nI 1048576)]) (rest := []) rfl rfl rfl rfl rfl rfl rfl (Nat.le_of_ble_eq_true rfl) ?_
  have k0 : ∀ c, c ≠ 29 → (am_wr (am_wr (am_wr (am_wr (am_wr (am_wr (am_wr (am_wr σ0 29 0 (nI 0)) 29 1 (nI 0)) 29 2 (nI 0)) 29 3 (nI 0)) 29 4 (nI 0)) 29 5 (nI 0)) 29 6 (nI 0)) 29 7 (nI 0)).1 c = σ0.1 c := fun c hc => by rw [am_wr_ne _ (by omega), am_wr_ne _ (by omega), am_wr_ne _ (by omega), am_wr_ne _ (by omega), am_wr_ne _ (by omega), am_wr_ne _ (by omega), am_wr_ne _ (by omega), am_wr_ne _ (by omega)]
  refine c_lays (j := 2) (s := 1048576) (P := 0) (A := 0) (by omega) (MP.keep2 (fun c hc => k0 c (by omega)) hM) (by decide) (fun g hg => ?_) (fun i z => by rw [Nat.zero_testBit] at z; cases z.1) (by decide) (by decide) (fun σ1 hKL hMB hTB => ?_)
  · rw [st0]
    have hg8 : g = 0 ∨ g = 1 ∨ g = 2 ∨ g = 3 ∨ g = 4 ∨ g = 5 ∨ g = 6 ∨ g = 7 := by omega
    rcases hg8 with rfl | rfl | rfl | rfl | rfl | rfl | rfl | rfl
    · rw [am_diff _ _ _ _ _ (by decide), am_diff _ _ _ _ _ (by decide), am_diff _ _ _ _ _ (by decide), am_diff _ _ _ _ _ (by decide), am_diff _ _ _ _ _ (by decide), am_diff _ _ _ _ _ (by decide), am_diff _ _ _ _ _ (by decide), am_same]
    · rw [am_diff _ _ _ _ _ (by decide), am_diff _ _ _ _ _ (by decide), am_diff _ _ _ _ _ (by decide), am_diff _ _ _ _ _ (by decide), am_diff _ _ _ _ _ (by decide), am_diff _ _ _ _ _ (by decide), am_same]
    · rw [am_diff _ _ _ _ _ (by decide), am_diff _ _ _ _ _ (by decide), am_diff _ _ _ _ _ (by decide), am_diff _ _ _ _ _ (by decide), am_diff _ _ _ _ _ (by decide), am_same]
    · rw [am_diff _ _ _ _ _ (by decide), am_diff _ _ _ _ _ (by decide), am_diff _ _ _ _ _ (by decide), am_diff _ _ _ _ _ (by decide), am_same]
    · rw [am_diff _ _ _ _ _ (by decide), am_diff _ _ _ _ _ (by decide), am_diff _ _ _ _ _ (by decide), am_same]
    · rw [am_diff _ _ _ _ _ (by decide), am_diff _ _ _ _ _ (by decide), am_same]
    · rw [am_diff _ _ _ _ _ (by decide), am_same]
    · rw [am_same]
  have k1 : ∀ c, c ≠ 28 → c ≠ 0 → c ≠ 29 → σ1.1 c = σ0.1 c := fun c a b e => (hKL.1 c a b).trans (k0 c e)
  have e22 : σ1.1 2 2 = nI n := by rw [k1 2 (by decide) (by decide) (by decide)]; exact h.1
  have hKA : KAo σ0 σ1 := ⟨fun c a _ b e => k1 c b a e, hKL.2.2, fun x a b => (hKL.2.1 x a b).trans (by rw [k0 0 (by decide)]), fun x _ => by rw [k1 16 (by decide) (by decide) (by decide)]⟩
  show am_G _ M_X10_laysAtOnce _ 28 [some (.ref 0), some (.int (nI 8)), none, none] [] σ1
  refine am_run 5 (pc' := 35) (ls' := [some (.ref 0), some (.int (-1)), none, none]) (st' := [.int (nI 2), .ref 2]) (σ' := σ1) rfl ?_
  refine am_ialdN (n := 3) (v := nI n) rfl rfl rfl (by omega) e22 (by decide) ?_
  refine am_run 2 (pc' := 38) (ls' := [some (.ref 0), some (.int (-1)), none, none]) (st' := [.int (nI n - nI 1)]) (σ' := σ1) rfl ?_
  refine am_top (v' := nI n + -1) (nI_sub1 n) ?_
  refine am_run 1 (pc' := 39) (ls' := [some (.ref 0), some (.int (-1)), some (.int (nI n + -1)), none]) (st' := []) (σ' := σ1) rfl ?_
  have hz := ao_loop (d := d') (σ0 := σ1) (Q := Q) (p := p) (n := n) (by omega) h.pw e22 (fun k hk z => (h.nd hk).1.1.2.2.2.2.2.2.1 (Or.inl z)) (fun k hk => ?_) (fun k hk => ?_) (fun σ hK hv => hq σ ?_ hv) n σ1 none (Nat.le_refl _) ⟨fun _ _ _ _ _ => rfl, rfl, fun _ _ _ => rfl, fun _ _ => rfl⟩ rfl (fun k h1 h2 => by omega)
  · rw [Nat.sub_self] at hz
    rw [show fI (fz p n 0) n = -1 from if_pos rfl] at hz
    exact hz
  · obtain ⟨⟨m5, -, m7, -⟩, -, -⟩ := h.2.2.1 k (Nat.zero_le _) hk
    rw [k1 5 (by decide) (by decide) (by decide), k1 7 (by decide) (by decide) (by decide)]
    exact ⟨m5, m7⟩
  · have := (hTB k hk 0 (Nat.pow_pos (by decide))).2.1
    rw [ev0] at this
    exact this
  · exact ⟨fun c a b e f => (hK.1 c a b e f).trans (hKA.1 c a b e f), hK.2.1.trans hKA.2.1, fun x a b => (hK.2.2.1 x a b).trans (hKA.2.2.1 x a b), fun x hx => (hK.2.2.2 x hx).trans (hKA.2.2.2 x hx)⟩

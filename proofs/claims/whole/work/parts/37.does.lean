/-- the second table's entries of a statement -/
def DB (σ : am_M) (p : Pg) (dp : Nat → Nat) (ow : Nat → Nat → Nat) (s P A i w : Nat) : Prop := (∃ v : D3, ok3 v ∧ σ.1 30 ((i * 27 + w) * 2 + 0) = nI (eD v) ∧ (SE (evn (ow i) w P A (dp i)) → tE v = ex p 61 (i + 1) ST (evn (ow i) w P A (dp i)).1)) ∧ (lv p (i + 1) s = true → ∃ v : D3, ok3 v ∧ σ.1 30 ((i * 27 + w) * 2 + 1) = nI (eD v) ∧ (SE (evn (ow i) w P A (dp i)) → tE v = ex p 61 (i + 1) s (evn (ow i) w P A (dp i)).1))
section KidsD
variable {σ : am_M} {p : Pg} {n : Nat} {rk dp : Nat → Nat} {ow : Nat → Nat → Nat} {i w s P A : Nat} {E : Nat × Nat}
theorem WT.kidD (h : WT p n rk dp ow) (hi : i < n) (hw : w < 3 ^ dp i) (hE : evn (ow i) w P A (dp i) = E) (ht : ¬ p 0 i = 36) {x : Nat} (hx : x = p 2 i ∨ x = p 3 i) (hp : x ≤ n) (hT : ∀ c, c < n → rk c < rk i → ∀ w, w < 3 ^ dp c → DB σ p dp ow s P A c w) : KE σ p x w 0 ST E ∧ (lv p x s = true → KE σ p x w 1 s E) := by
  obtain ⟨h2, h3, -⟩ := h i hi
  by_cases hx0 : x = 0
  · exact ⟨Or.inl hx0, fun _ => Or.inl hx0⟩
  · have hc : rk (x - 1) < rk i ∧ dp (x - 1) = dp i ∧ ∀ b, b < dp i → ow (x - 1) b = ow i b := by
      rcases hx with rfl | rfl
      · have := h2.resolve_left hx0
        rw [if_neg ht] at this
        exact ⟨this.1, this.2.1, this.2.2.1⟩
      · exact h3.resolve_left hx0
    have hTB := hT (x - 1) (by omega) hc.1 w (by rw [hc.2.1]; exact hw)
    have hev : evn (ow (x - 1)) w P A (dp (x - 1)) = E := by
      rw [hc.2.1, ← hE]
      exact evn_ext _ (fun b hb => ⟨hc.2.2 b hb, rfl⟩)
    unfold DB at hTB
    rw [hev, Nat.sub_add_cancel (by omega)] at hTB
    exact ⟨Or.inr hTB.1, fun z => Or.inr (hTB.2 z)⟩
theorem WT.kidD36 (h : WT p n rk dp ow) (hi : i < n) (hw : w < 3 ^ dp i) (hE : evn (ow i) w P A (dp i) = E) (ht : p 0 i = 36) (hp : p 2 i ≤ n) (hT : ∀ c, c < n → rk c < rk i → ∀ w, w < 3 ^ dp c → DB σ p dp ow s P A c w) {h' : Nat} (hh : h' < 3) : KE σ p (p 2 i) (w + h' * 3 ^ dp i) 0 ST (up3 E (p 1 i - 1) h') ∧ (lv p (p 2 i) s = true → KE σ p (p 2 i) (w + h' * 3 ^ dp i) 1 s (up3 E (p 1 i - 1) h')) := by
  obtain ⟨h2, -, h36, hu, -⟩ := h i hi
  obtain ⟨hx0, -⟩ := hu (by omega)
  obtain ⟨-, hd2⟩ := h36 ht
  have hc := h2.resolve_left hx0
  rw [if_pos ht] at hc
  have hTB := hT (p 2 i - 1) (by omega) hc.1 (w + h' * 3 ^ dp i) (by rw [hc.2.1]; exact wy3 hd2 hw hh)
  have hev : evn (ow (p 2 i - 1)) (w + h' * 3 ^ dp i) P A (dp (p 2 i - 1)) = up3 E (p 1 i - 1) h' := by
    rw [hc.2.1, ← hE]
    exact evn36 hd2 hw hh hc.2.2.1 (hc.2.2.2 ht)
  unfold DB at hTB
  rw [hev, Nat.sub_add_cancel (by omega)] at hTB
  exact ⟨Or.inr hTB.1, fun z => Or.inr (hTB.2 z)⟩
end KidsD
theorem DB.wr {σ : am_M} {p : Pg} {dp : Nat → Nat} {ow : Nat → Nat → Nat} {s P A c w' i w m : Nat} (h : DB σ p dp ow s P A c w') (hne : ¬ (c = i ∧ w' = w)) (hw' : w' < 27) (hw : w < 27) (hm : m < 2) (x : Int32) : DB (am_wr σ 30 ((i * 27 + w) * 2 + m) x) p dp ow s P A c w' := by
  unfold DB at h ⊢
  rw [am_diff _ _ _ _ _ (by omega), am_diff _ _ _ _ _ (by omega)]
  exact h
/-- all cells but the second table's are as they were, and its place of nothing -/
def KQ (σ σ' : am_M) : Prop := (∀ c, c ≠ 30 → σ'.1 c = σ.1 c) ∧ σ'.2 = σ.2 ∧ σ'.1 30 3240 = σ.1 30 3240
theorem KQ.rf (σ : am_M) : KQ σ σ := ⟨fun _ _ => rfl, rfl, rfl⟩
theorem KQ.wr {σ σ' : am_M} (h : KQ σ σ') {k : Nat} (hk : k < 3240) (x : Int32) : KQ σ (am_wr σ' 30 k x) := ⟨fun c hc => by rw [am_wr_ne x hc]; exact h.1 c hc, h.2.1, by rw [am_diff _ _ _ _ _ (by omega)]; exact h.2.2⟩
theorem MB.keep {σ σ' : am_M} {j s P A n : Nat} {p : Pg} {dp : Nat → Nat} {ow : Nat → Nat → Nat} (hB : MB σ j s P A p n dp ow) (h : ∀ c, c ≠ 30 → σ'.1 c = σ.1 c) : MB σ' j s P A p n dp ow := by
  obtain ⟨hj, ⟨hS1, hS2, hS3, hS4⟩, hW, hs, hN, hr⟩ := hB
  refine ⟨hj, ⟨?_, ?_, ?_, ?_⟩, hW, hs, ?_, hr⟩
  · rw [h 0 (by decide)]; exact hS1
  · rw [h 0 (by decide)]; exact hS2
  · intro g hg
    rw [h 29 (by decide)]
    exact hS3 g hg
  · rw [h 28 (by decide)]; exact hS4
  · intro i hi
    obtain ⟨hm, hd⟩ := hN i hi
    refine ⟨?_, hd⟩
    unfold MN
    rw [h 5 (by decide), h 6 (by decide), h 7 (by decide), h 8 (by decide), h 13 (by decide), h 10 (by decide), h 11 (by decide)]
    exact hm
/-- the pauses' numbers -/
def RO (σ : am_M) (j n : Nat) (p : Pg) : Prop := ∀ i, i < n → (p 0 i = 46 ∨ p 0 i = 38 → ∃ ri, σ.1 12 (60 * j + i) = nI ri ∧ ri < 20 ∧ p 4 i = 2 ^ ri)
theorem RO.keep {σ σ' : am_M} {j n : Nat} {p : Pg} (h : RO σ j n p) (hk : σ'.1 12 = σ.1 12) : RO σ' j n p := fun i hi ht => by rw [hk]; exact h i hi ht
/-- all before does -/
def DO (σ : am_M) (j s P A n : Nat) (p : Pg) (rk dp : Nat → Nat) (ow : Nat → Nat → Nat) : Prop := MB σ j s P A p n dp ow ∧ WT p n rk dp ow ∧ RO σ j n p ∧ (∀ i, i < n → ∀ w', w' < 3 ^ dp i → TB σ p dp ow s P A i w') ∧ σ.1 30 3240 = nI (eD (0, false, 0))
theorem KQ.DO {σ σ' : am_M} (hk : KQ σ σ') {j s P A n : Nat} {p : Pg} {rk dp : Nat → Nat} {ow : Nat → Nat → Nat} (h : DO σ j s P A n p rk dp ow) : DO σ' j s P A n p rk dp ow := ⟨h.1.keep hk.1, h.2.1, h.2.2.1.keep (hk.1 12 (by decide)), fun i hi w' hw' => (h.2.2.2.1 i hi w' hw').keep (hk.1 28 (by decide)), by rw [hk.2.2]; exact h.2.2.2.2⟩
set_option maxRecDepth 10000 in
set_option maxHeartbeats 2000000 in
theorem c_does_mid {d : Nat} (hd : 12 ≤ d) {σ0 : am_M} {j s P A n : Nat} {p : Pg} {rk dp : Nat → Nat} {ow : Nat → Nat → Nat} (hD0 : DO σ0 j s P A n p rk dp ow) {i a : Nat} (hi : i < n) {Q : am_Q} (hn : ∀ (σ' : am_M) (v5 : Option Value), KQ σ0 σ' → (∀ c, c < n → rk c < rk i → ∀ w', w' < 3 ^ dp c → DB σ' p dp ow s P A c w') → (∀ w', w' < 3 ^ dp i → DB σ' p dp ow s P A i w') → am_G d M_X10_does Q 125 [some (.ref 0), some (.int (nI a)), some (.int (nI i)), some (.int (nI (60 * j + i))), some (.int (nI (3 ^ dp i))), v5] [] σ') : ∀ (mW w : Nat) (σ' : am_M), w + mW = 3 ^ dp i → KQ σ0 σ' → (∀ c, c < n → rk c < rk i → ∀ w', w' < 3 ^ dp c → DB σ' p dp ow s P A c w') → (∀ w', w' < w → DB σ' p dp ow s P A i w') → am_G d M_X10_does Q 66 [some (.ref 0), some (.int (nI a)), some (.int (nI i)), some (.int (nI (60 * j + i))), some (.int (nI (3 ^ dp i))), some (.int (nI w))] [] σ'
  | 0, w, σ', hm, hk, hT, hdn => by
    obtain ⟨hB, hWT, hRO, hTB, hz0⟩ := hk.DO hD0
    obtain ⟨hj, hS, hW, hs, hN, hdj, hP, hA⟩ := id hB
    obtain ⟨hS1, hS2, hS3, hS4⟩ := id hS
    obtain ⟨⟨m0, m1, m2, m3, m4, m5, m6⟩, hdp, how⟩ := hN i hi
    obtain ⟨w0, w1, w2, w3, w4, w5, w6⟩ := hW.2 i hi
    have hn60 := hW.1
    have h27 : 3 ^ dp i ≤ 3 ^ 3 := Nat.pow_le_pow_right (by decide) hdp
    refine am_run 2 (pc' := 70) (ls' := [some (.ref 0), some (.int (nI a)), some (.int (nI i)), some (.int (nI (60 * j + i))), some (.int (nI (3 ^ dp i))), some (.int (nI w))]) (st' := [.int (nI (3 ^ dp i)), .int (nI w)]) (σ' := σ') rfl ?_
    refine am_ic (ty := 73) (tn := 125) rfl (by decide) rfl rfl (fun (h_1 : nI w < nI (3 ^ dp i)) => ?_) (fun (h_1 : ¬ (nI w < nI (3 ^ dp i))) => ?_)
    · have h_1 : w < 3 ^ dp i := (nI_ltI (by omega) (by omega)).mp h_1
      omega
    have h_1 : ¬ (w < 3 ^ dp i) := fun z => h_1 ((nI_ltI (by omega) (by omega)).mpr z)
    exact hn σ' _ hk hT (fun w' hw' => hdn w' (by omega))
  | mW + 1, w, σ', hm, hk, hT, hdn => by
    obtain ⟨hB, hWT, hRO, hTB, hz0⟩ := hk.DO hD0
    obtain ⟨hj, hS, hW, hs, hN, hdj, hP, hA⟩ := id hB
    obtain ⟨hS1, hS2, hS3, hS4⟩ := id hS
    obtain ⟨⟨m0, m1, m2, m3, m4, m5, m6⟩, hdp, how⟩ := hN i hi
    obtain ⟨w0, w1, w2, w3, w4, w5, w6⟩ := hW.2 i hi
    have hn60 := hW.1
    have h27 : 3 ^ dp i ≤ 3 ^ 3 := Nat.pow_le_pow_right (by decide) hdp
    have hw3 : w < 3 ^ dp i := by omega
    have hw : w < 27 := by omega
    refine am_run 2 (pc' := 70) (ls' := [some (.ref 0), some (.int (nI a)), some (.int (nI i)), some (.int (nI (60 * j + i))), some (.int (nI (3 ^ dp i))), some (.int (nI w))]) (st' := [.int (nI (3 ^ dp i)), .int (nI w)]) (σ' := σ') rfl ?_
    refine am_ic (ty := 73) (tn := 125) rfl (by decide) rfl rfl (fun (h_1 : nI w < nI (3 ^ dp i)) => ?_) (fun (h_1 : ¬ (nI w < nI (3 ^ dp i))) => ?_)
    rotate_left
    · have h_1 : ¬ (w < 3 ^ dp i) := fun z => h_1 ((nI_ltI (by omega) (by omega)).mpr z)
      omega
    have h_1 : w < 3 ^ dp i := (nI_ltI (by omega) (by omega)).mp h_1
    refine am_run 5 (pc' := 81) (ls' := [some (.ref 0), some (.int (nI a)), some (.int (nI i)), some (.int (nI (60 * j + i))), some (.int (nI (3 ^ dp i))), some (.int (nI w))]) (st' := [.int (nI 0), .int (nI w), .int (nI i), .ref 30]) (σ' := σ') rfl ?_
    refine am_invs (y := 214) (as := [.int (nI i), .int (nI w), .int (nI 0)]) (rest := [.ref 30]) rfl rfl rfl rfl rfl rfl (Nat.le_of_ble_eq_true rfl) ?_
    refine c_m_doneOf (by omega) ?_
    show am_G _ M_X10_does _ 84 [some (.ref 0), some (.int (nI a)), some (.int (nI i)), some (.int (nI (60 * j + i))), some (.int (nI (3 ^ dp i))), some (.int (nI w))] [.int (nI ((i * 27 + w) * 2 + 0)), .ref 30] σ'
    refine am_run 3 (pc' := 88) (ls' := [some (.ref 0), some (.int (nI a)), some (.int (nI i)), some (.int (nI (60 * j + i))), some (.int (nI (3 ^ dp i))), some (.int (nI w))]) (st' := [.int (nI w), .int (nI (60 * j + i)), .ref 0, .int (nI ((i * 27 + w) * 2 + 0)), .ref 30]) (σ' := σ') rfl ?_
    refine am_invv (y := 225) (b := 0) (as := [.int (nI (60 * j + i)), .int (nI w)]) (rest := [.int (nI ((i * 27 + w) * 2 + 0)), .ref 30]) rfl rfl rfl rfl rfl rfl rfl (Nat.le_of_ble_eq_true rfl) ?_
    refine c_m_didStart (by omega) hB hi hw3 rfl hz0 (hRO i hi) (fun z => (hWT.kidD hi hw3 rfl z (Or.inl rfl) w2 hT).1) (fun z => (hWT.kidD hi hw3 rfl z (Or.inr rfl) w3 hT).1) (fun z => ((hWT i hi).2.2.1 z).2) (fun z => (by have := (hWT.kid36 hi hw3 rfl z w2 (fun c hc _ => hTB c hc) (show 0 < 3 by decide)).1.1; rw [Nat.zero_mul, Nat.add_zero] at this; exact this) ) (fun z h hh => (hWT.kidD36 hi hw3 rfl z w2 hT hh).1) (fun v0 okv0 ev0 => ?_)
    rw [← ex_eq hW hWT.RK hi] at ev0
    show am_G _ M_X10_does _ 91 [some (.ref 0), some (.int (nI a)), some (.int (nI i)), some (.int (nI (60 * j + i))), some (.int (nI (3 ^ dp i))), some (.int (nI w))] [.int (nI (eD v0)), .int (nI ((i * 27 + w) * 2 + 0)), .ref 30] σ'
    refine am_iastN (n := 3241) rfl rfl rfl (by omega) (by decide) ?_
    have hk1 : KQ σ0 (am_wr σ' 30 ((i * 27 + w) * 2 + 0) (nI (eD v0))) := hk.wr (by omega) _
    have hT1 : (∀ c, c < n → rk c < rk i → ∀ w', w' < 3 ^ dp c → DB (am_wr σ' 30 ((i * 27 + w) * 2 + 0) (nI (eD v0))) p dp ow s P A c w') := fun c hc hr w' hw' => (hT c hc hr w' hw').wr (fun z => by rw [z.1] at hr; omega) (wy0 (hN c hc).2.1 hw') hw (by decide) _
    have hd1 : ∀ w', w' < w → DB (am_wr σ' 30 ((i * 27 + w) * 2 + 0) (nI (eD v0))) p dp ow s P A i w' := fun w' hw' => (hdn w' hw').wr (by omega) (by omega) hw (by decide) _
    have f0_1 : (am_wr σ' 30 ((i * 27 + w) * 2 + 0) (nI (eD v0))).1 30 ((i * 27 + w) * 2 + 0) = nI (eD v0) := am_same _ _ _ _
    generalize (am_wr σ' 30 ((i * 27 + w) * 2 + 0) (nI (eD v0))) = σ1 at hk1 hT1 hd1 f0_1 ⊢
    obtain ⟨hB1, -, hRO1, hTB1, hz1⟩ := hk1.DO hD0
    refine am_run 2 (pc' := 94) (ls' := [some (.ref 0), some (.int (nI a)), some (.int (nI i)), some (.int (nI (60 * j + i))), some (.int (nI (3 ^ dp i))), some (.int (nI w))]) (st' := [.int (nI i), .ref 0]) (σ' := σ1) rfl ?_
    refine am_invv (y := 194) (b := 0) (as := [.int (nI i)]) (rest := []) rfl rfl rfl rfl rfl rfl rfl (Nat.le_of_ble_eq_true rfl) ?_
    refine c_m_isLiveN (by omega) hB1 hi (fun hl => ?_) (fun hl => ?_)
    · have hs1 : ¬ s = ST := fun z => by rw [z, lv_ST hW (by omega)] at hl; cases hl
      show am_G _ M_X10_does _ 97 [some (.ref 0), some (.int (nI a)), some (.int (nI i)), some (.int (nI (60 * j + i))), some (.int (nI (3 ^ dp i))), some (.int (nI w))] [.int (nI 1)] σ1
      refine am_if (ty := 119) (tn := 100) rfl (by decide) rfl rfl (fun (h_2 : nI 1 = 0) => ?_) (fun (h_2 : ¬ (nI 1 = 0)) => ?_)
      · exact absurd h_2 (by decide)
      refine am_run 5 (pc' := 108) (ls' := [some (.ref 0), some (.int (nI a)), some (.int (nI i)), some (.int (nI (60 * j + i))), some (.int (nI (3 ^ dp i))), some (.int (nI w))]) (st' := [.int (nI 1), .int (nI w), .int (nI i), .ref 30]) (σ' := σ1) rfl ?_
      refine am_invs (y := 214) (as := [.int (nI i), .int (nI w), .int (nI 1)]) (rest := [.ref 30]) rfl rfl rfl rfl rfl rfl (Nat.le_of_ble_eq_true rfl) ?_
      refine c_m_doneOf (by omega) ?_
      show am_G _ M_X10_does _ 111 [some (.ref 0), some (.int (nI a)), some (.int (nI i)), some (.int (nI (60 * j + i))), some (.int (nI (3 ^ dp i))), some (.int (nI w))] [.int (nI ((i * 27 + w) * 2 + 1)), .ref 30] σ1
      refine am_run 3 (pc' := 115) (ls' := [some (.ref 0), some (.int (nI a)), some (.int (nI i)), some (.int (nI (60 * j + i))), some (.int (nI (3 ^ dp i))), some (.int (nI w))]) (st' := [.int (nI w), .int (nI (60 * j + i)), .ref 0, .int (nI ((i * 27 + w) * 2 + 1)), .ref 30]) (σ' := σ1) rfl ?_
      refine am_invv (y := 227) (b := 0) (as := [.int (nI (60 * j + i)), .int (nI w)]) (rest := [.int (nI ((i * 27 + w) * 2 + 1)), .ref 30]) rfl rfl rfl rfl rfl rfl rfl (Nat.le_of_ble_eq_true rfl) ?_
      refine c_m_didOn (by omega) hB1 hi hw3 rfl hz1 (hRO1 i hi) hs1 (hWT.T0 hi hl) (fun z => (hWT.kidD hi hw3 rfl z (Or.inl rfl) w2 hT1).1) (fun z => (hWT.kidD hi hw3 rfl z (Or.inr rfl) w3 hT1).1) (fun z y => (hWT.kidD hi hw3 rfl z (Or.inl rfl) w2 hT1).2 y) (fun z y => (hWT.kidD hi hw3 rfl z (Or.inr rfl) w3 hT1).2 y) (fun z => hWT.V2 hi hl (by omega)) (fun z y => hWT.V3 hi hl (by omega) y) (fun z => ((hWT i hi).2.2.1 z).2) (fun z => (by have := ((hWT.kid36 hi hw3 rfl z w2 (fun c hc _ => hTB1 c hc) (show 0 < 3 by decide)).2 (hWT.V2 hi hl (by omega))).1; rw [Nat.zero_mul, Nat.add_zero] at this; exact this)) (fun z h hh => (hWT.kidD36 hi hw3 rfl z w2 hT1 hh).2 (hWT.V2 hi hl (by omega))) (fun v1 okv1 ev1 => ?_)
      rw [← ex_eq hW hWT.RK hi] at ev1
      show am_G _ M_X10_does _ 118 [some (.ref 0), some (.int (nI a)), some (.int (nI i)), some (.int (nI (60 * j + i))), some (.int (nI (3 ^ dp i))), some (.int (nI w))] [.int (nI (eD v1)), .int (nI ((i * 27 + w) * 2 + 1)), .ref 30] σ1
      refine am_iastN (n := 3241) rfl rfl rfl (by omega) (by decide) ?_
      have hk2 : KQ σ0 (am_wr σ1 30 ((i * 27 + w) * 2 + 1) (nI (eD v1))) := hk1.wr (by omega) _
      have hT2 : (∀ c, c < n → rk c < rk i → ∀ w', w' < 3 ^ dp c → DB (am_wr σ1 30 ((i * 27 + w) * 2 + 1) (nI (eD v1))) p dp ow s P A c w') := fun c hc hr w' hw' => (hT1 c hc hr w' hw').wr (fun z => by rw [z.1] at hr; omega) (wy0 (hN c hc).2.1 hw') hw (by decide) _
      have hd2 : ∀ w', w' < w → DB (am_wr σ1 30 ((i * 27 + w) * 2 + 1) (nI (eD v1))) p dp ow s P A i w' := fun w' hw' => (hd1 w' hw').wr (by omega) (by omega) hw (by decide) _
      have f1_2 : (am_wr σ1 30 ((i * 27 + w) * 2 + 1) (nI (eD v1))).1 30 ((i * 27 + w) * 2 + 1) = nI (eD v1) := am_same _ _ _ _
      have f0_2 : (am_wr σ1 30 ((i * 27 + w) * 2 + 1) (nI (eD v1))).1 30 ((i * 27 + w) * 2 + 0) = nI (eD v0) := by rw [am_diff _ _ _ _ _ (by omega)]; exact f0_1
      generalize (am_wr σ1 30 ((i * 27 + w) * 2 + 1) (nI (eD v1))) = σ2 at hk2 hT2 hd2 f1_2 f0_2 ⊢
      obtain ⟨hB2, -, hRO2, hTB2, hz2⟩ := hk2.DO hD0
      refine am_run 1 (pc' := 122) (ls' := [some (.ref 0), some (.int (nI a)), some (.int (nI i)), some (.int (nI (60 * j + i))), some (.int (nI (3 ^ dp i))), some (.int (nI w + nI 1))]) (st' := []) (σ' := σ2) rfl ?_
      refine am_ls (ls' := [some (.ref 0), some (.int (nI a)), some (.int (nI i)), some (.int (nI (60 * j + i))), some (.int (nI (3 ^ dp i))), some (.int (nI (w + 1)))]) (by rw [nI_add]) ?_
      refine am_run 1 (pc' := 66) (ls' := [some (.ref 0), some (.int (nI a)), some (.int (nI i)), some (.int (nI (60 * j + i))), some (.int (nI (3 ^ dp i))), some (.int (nI (w + 1)))]) (st' := []) (σ' := σ2) rfl ?_
      refine c_does_mid hd hD0 hi hn mW (w + 1) σ2 (by omega) hk2 hT2 (fun w' hw' => ?_)
      by_cases e : w' = w
      · subst e; exact ⟨⟨v0, okv0, f0_2, ev0⟩, fun _ => ⟨v1, okv1, f1_2, ev1⟩⟩
      · exact hd2 w' (by omega)
    · show am_G _ M_X10_does _ 97 [some (.ref 0), some (.int (nI a)), some (.int (nI i)), some (.int (nI (60 * j + i))), some (.int (nI (3 ^ dp i))), some (.int (nI w))] [.int (nI 0)] σ1
      refine am_if (ty := 119) (tn := 100) rfl (by decide) rfl rfl (fun (h_3 : nI 0 = 0) => ?_) (fun (h_3 : ¬ (nI 0 = 0)) => ?_)
      rotate_left
      · exact absurd (by decide) h_3
      refine am_run 1 (pc' := 122) (ls' := [some (.ref 0), some (.int (nI a)), some (.int (nI i)), some (.int (nI (60 * j + i))), some (.int (nI (3 ^ dp i))), some (.int (nI w + nI 1))]) (st' := []) (σ' := σ1) rfl ?_
      refine am_ls (ls' := [some (.ref 0), some (.int (nI a)), some (.int (nI i)), some (.int (nI (60 * j + i))), some (.int (nI (3 ^ dp i))), some (.int (nI (w + 1)))]) (by rw [nI_add]) ?_
      refine am_run 1 (pc' := 66) (ls' := [some (.ref 0), some (.int (nI a)), some (.int (nI i)), some (.int (nI (60 * j + i))), some (.int (nI (3 ^ dp i))), some (.int (nI (w + 1)))]) (st' := []) (σ' := σ1) rfl ?_
      refine c_does_mid hd hD0 hi hn mW (w + 1) σ1 (by omega) hk1 hT1 (fun w' hw' => ?_)
      by_cases e : w' = w
      · subst e; exact ⟨⟨v0, okv0, f0_1, ev0⟩, fun z => by rw [hl] at z; cases z⟩
      · exact hd1 w' (by omega)
set_option maxRecDepth 10000 in
set_option maxHeartbeats 2000000 in
theorem c_does_out {d : Nat} (hd : 12 ≤ d) {σ0 : am_M} {j s P A n : Nat} {p : Pg} {rk dp : Nat → Nat} {ow : Nat → Nat → Nat} (hD0 : DO σ0 j s P A n p rk dp ow) {od : Nat → Nat} (hn2 : σ0.1 2 j = nI n) (hod : ∀ a, a < n → σ0.1 9 (60 * j + a) = nI (od a) ∧ od a < n ∧ rk (od a) = a) (hrk : ∀ i, i < n → od (rk i) = i) {Q : am_Q} (hq : ∀ σ', KQ σ0 σ' → (∀ i, i < n → ∀ w', w' < 3 ^ dp i → DB σ' p dp ow s P A i w') → Q none σ') : ∀ (mO a : Nat) (σ' : am_M) (v2 v3 v4 v5 : Option Value), a + mO = n → KQ σ0 σ' → (∀ b, b < a → ∀ w', w' < 3 ^ dp (od b) → DB σ' p dp ow s P A (od b) w') → am_G d M_X10_does Q 16 [some (.ref 0), some (.int (nI a)), v2, v3, v4, v5] [] σ'
  | 0, a, σ', v2, v3, v4, v5, hm, hk, hdn => by
    obtain ⟨hB, hWT, hRO, hTB, hz0⟩ := hk.DO hD0
    obtain ⟨hj, hS, hW, hs, hN, hdj, hP, hA⟩ := id hB
    obtain ⟨hS1, hS2, hS3, hS4⟩ := id hS
    have hn60 := hW.1
    refine am_run 5 (pc' := 25) (ls' := [some (.ref 0), some (.int (nI a)), v2, v3, v4, v5]) (st' := [.int (σ'.1 0 38), .ref 2, .int (nI a)]) (σ' := σ') rfl ?_
    refine am_top (v' := nI j) hS1 ?_
    refine am_ialdN (n := 3) (v := nI n) rfl rfl rfl (by omega) (by rw [hk.1 2 (by decide)]; exact hn2) (by decide) ?_
    refine am_ic (ty := 29) (tn := 131) rfl (by decide) rfl rfl (fun (h_1 : nI a < nI n) => ?_) (fun (h_1 : ¬ (nI a < nI n)) => ?_)
    · have h_1 : a < n := (nI_ltI (by omega) (by omega)).mp h_1
      omega
    have h_1 : ¬ (a < n) := fun z => h_1 ((nI_ltI (by omega) (by omega)).mpr z)
    refine am_retv rfl rfl ?_
    refine hq σ' hk (fun i hi w' hw' => ?_)
    have e := hrk i hi
    have e2 := (hWT i hi).2.2.2.2.2.2.1
    have := hdn (rk i) (by omega)
    rw [e] at this
    exact this w' hw'
  | mO + 1, a, σ', v2, v3, v4, v5, hm, hk, hdn => by
    obtain ⟨hB, hWT, hRO, hTB, hz0⟩ := hk.DO hD0
    obtain ⟨hj, hS, hW, hs, hN, hdj, hP, hA⟩ := id hB
    obtain ⟨hS1, hS2, hS3, hS4⟩ := id hS
    have hn60 := hW.1
    obtain ⟨ho1, ho2, ho3⟩ := hod a (by omega)
    have hdp := (hN (od a) ho2).2.1
    have hlow : ∀ c, c < n → rk c < rk (od a) → ∀ w', w' < 3 ^ dp c → DB σ' p dp ow s P A c w' := by
      intro c hc hr w' hw'
      have := hdn (rk c) (by omega)
      rw [hrk c hc] at this
      exact this w' hw'
    refine am_run 5 (pc' := 25) (ls' := [some (.ref 0), some (.int (nI a)), v2, v3, v4, v5]) (st' := [.int (σ'.1 0 38), .ref 2, .int (nI a)]) (σ' := σ') rfl ?_
    refine am_top (v' := nI j) hS1 ?_
    refine am_ialdN (n := 3) (v := nI n) rfl rfl rfl (by omega) (by rw [hk.1 2 (by decide)]; exact hn2) (by decide) ?_
    refine am_ic (ty := 29) (tn := 131) rfl (by decide) rfl rfl (fun (h_1 : nI a < nI n) => ?_) (fun (h_1 : ¬ (nI a < nI n)) => ?_)
    rotate_left
    · have h_1 : ¬ (a < n) := fun z => h_1 ((nI_ltI (by omega) (by omega)).mpr z)
      omega
    have h_1 : a < n := (nI_ltI (by omega) (by omega)).mp h_1
    refine am_run 4 (pc' := 37) (ls' := [some (.ref 0), some (.int (nI a)), v2, v3, v4, v5]) (st' := [.int (σ'.1 0 38), .ref 9]) (σ' := σ') rfl ?_
    refine am_top (v' := nI j) hS1 ?_
    refine am_run 1 (pc' := 38) (ls' := [some (.ref 0), some (.int (nI a)), v2, v3, v4, v5]) (st' := [.int (nI a), .int (nI j), .ref 9]) (σ' := σ') rfl ?_
    refine am_invs (y := 158) (as := [.int (nI j), .int (nI a)]) (rest := [.ref 9]) rfl rfl rfl rfl rfl rfl (Nat.le_of_ble_eq_true rfl) ?_
    refine c_m_placeOf (by omega) ?_
    show am_G _ M_X10_does _ 41 [some (.ref 0), some (.int (nI a)), v2, v3, v4, v5] [.int (nI (60 * j + a)), .ref 9] σ'
    refine am_ialdN (n := 180) (v := nI (od a)) rfl rfl rfl (by omega) (by rw [hk.1 9 (by decide)]; exact (hod a (by omega)).1) (by decide) ?_
    refine am_run 3 (pc' := 47) (ls' := [some (.ref 0), some (.int (nI a)), some (.int (nI (od a))), v3, v4, v5]) (st' := [.int (σ'.1 0 38)]) (σ' := σ') rfl ?_
    refine am_top (v' := nI j) hS1 ?_
    refine am_run 1 (pc' := 48) (ls' := [some (.ref 0), some (.int (nI a)), some (.int (nI (od a))), v3, v4, v5]) (st' := [.int (nI (od a)), .int (nI j)]) (σ' := σ') rfl ?_
    refine am_invs (y := 158) (as := [.int (nI j), .int (nI (od a))]) (rest := []) rfl rfl rfl rfl rfl rfl (Nat.le_of_ble_eq_true rfl) ?_
    refine c_m_placeOf (by omega) ?_
    show am_G _ M_X10_does _ 51 [some (.ref 0), some (.int (nI a)), some (.int (nI (od a))), v3, v4, v5] [.int (nI (60 * j + od a))] σ'
    refine am_run 4 (pc' := 57) (ls' := [some (.ref 0), some (.int (nI a)), some (.int (nI (od a))), some (.int (nI (60 * j + od a))), v4, v5]) (st' := [.int (nI (60 * j + od a)), .ref 10]) (σ' := σ') rfl ?_
    refine am_ialdN (n := 180) (v := nI (dp (od a))) rfl rfl rfl (by omega) (hN (od a) (hod a (by omega)).2.1).1.2.2.2.2.2.1 (by decide) ?_
    refine am_invs (y := 193) (as := [.int (nI (dp (od a)))]) (rest := []) rfl rfl rfl rfl rfl rfl (Nat.le_of_ble_eq_true rfl) ?_
    refine c_m_threeTo (by omega) (a := dp (od a)) hdp ?_
    show am_G _ M_X10_does _ 61 [some (.ref 0), some (.int (nI a)), some (.int (nI (od a))), some (.int (nI (60 * j + od a))), v4, v5] [.int (nI (3 ^ dp (od a)))] σ'
    refine am_run 3 (pc' := 66) (ls' := [some (.ref 0), some (.int (nI a)), some (.int (nI (od a))), some (.int (nI (60 * j + od a))), some (.int (nI (3 ^ dp (od a)))), some (.int (nI 0))]) (st' := []) (σ' := σ') rfl ?_
    refine c_does_mid hd hD0 ho2 (a := a) (fun σ2 v5 hk2 hT2 hd2 => ?_) (3 ^ dp (od a)) 0 σ' (by omega) hk hlow (fun w' z => absurd z (Nat.not_lt_zero _))
    refine am_run 2 (pc' := 16) (ls' := [some (.ref 0), some (.int (nI a + nI 1)), some (.int (nI (od a))), some (.int (nI (60 * j + od a))), some (.int (nI (3 ^ dp (od a)))), v5]) (st' := []) (σ' := σ2) rfl ?_
    refine am_ls (ls' := [some (.ref 0), some (.int (nI (a + 1))), some (.int (nI (od a))), some (.int (nI (60 * j + od a))), some (.int (nI (3 ^ dp (od a)))), v5]) (by rw [nI_add]) ?_
    refine c_does_out hd hD0 hn2 hod hrk hq mO (a + 1) σ2 _ _ _ _ (by omega) hk2 (fun b hb w' hw' => ?_)
    by_cases e : b = a
    · subst e; exact hd2 w' hw'
    · have h1 := hod b (by omega)
      exact hT2 (od b) h1.2.1 (by rw [h1.2.2, ho3]; omega) w' hw'
set_option maxRecDepth 10000 in
set_option maxHeartbeats 2000000 in
theorem c_does {d : Nat} (hd : 13 ≤ d) {σ : am_M} {j s P A n : Nat} {p : Pg} {rk od dp : Nat → Nat} {ow : Nat → Nat → Nat} (hM : MP σ j p n rk od dp ow) (hB : MB σ j s P A p n dp ow) (hRO : RO σ j n p) (hTB : ∀ i, i < n → ∀ w', w' < 3 ^ dp i → TB σ p dp ow s P A i w') {Q : am_Q} (hq : ∀ σ', (∀ c, c ≠ 30 → σ'.1 c = σ.1 c) → σ'.2 = σ.2 → (∀ i, i < n → ∀ w', w' < 3 ^ dp i → DB σ' p dp ow s P A i w') → Q none σ') : am_C d 228 [.ref 0] σ Q := by
  obtain ⟨-, -, hWT, hn2, hod, hrk, hMN⟩ := hM
  refine am_enter' (M := M_X10_does) rfl rfl rfl (by omega) (ls := [some (.ref 0), none, none, none, none, none]) rfl (fun d' hd' => ?_)
  refine am_run 6 (pc' := 10) (ls' := [some (.ref 0), none, none, none, none, none]) (st' := [.int (nI 0), .int (nI 0), .int (nI 0), .int (nI 3240), .ref 30]) (σ' := σ) rfl ?_
  refine am_invs (y := 215) (as := [.int (nI 0), .int (nI 0), .int (nI 0)]) (rest := [.int (nI 3240), .ref 30]) rfl rfl rfl rfl rfl rfl (Nat.le_of_ble_eq_true rfl) ?_
  refine c_m_done0 (by omega) (c := 0) (q := 0) (by omega) (by first | omega | exact or_lt20 (by omega) (by omega)) ?_
  show am_G _ M_X10_does _ 13 [some (.ref 0), none, none, none, none, none] [.int (nI (eD (0, false, 0))), .int (nI 3240), .ref 30] σ
  refine am_iastN (n := 3241) rfl rfl rfl (by omega) (by decide) ?_
  refine am_run 2 (pc' := 16) (ls' := [some (.ref 0), some (.int (nI 0)), none, none, none, none]) (st' := []) (σ' := (am_wr σ 30 3240 (nI (eD (0, false, 0))))) rfl ?_
  have hD0 : DO (am_wr σ 30 3240 (nI (eD (0, false, 0)))) j s P A n p rk dp ow := ⟨hB.keep (fun c hc => am_wr_ne _ hc), hWT, hRO.keep (am_wr_ne _ (by decide)), fun i hi w' hw' => (hTB i hi w' hw').keep (am_wr_ne _ (by decide)), am_same _ _ _ _⟩
  refine c_does_out (by omega) hD0 (by rw [am_wr_ne _ (by decide)]; exact hn2) (fun a ha => by rw [am_wr_ne _ (by decide)]; exact hod a ha) hrk (fun σ2 hk2 hT2 => ?_) n 0 _ _ _ _ _ (by omega) (KQ.rf _) (fun b z => absurd z (Nat.not_lt_zero _))
  exact hq σ2 (fun c hc => by rw [hk2.1 c hc, am_wr_ne _ hc]) (by rw [hk2.2.1]; rfl) hT2

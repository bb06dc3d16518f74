theorem TB.wr {σ : am_M} {p : Pg} {dp : Nat → Nat} {ow : Nat → Nat → Nat} {s P A c w' i w m : Nat} (h : TB σ p dp ow s P A c w') (hne : ¬ (c = i ∧ w' = w)) (hw' : w' < 27) (hw : w < 27) (hm : m < 4) (x : Int32) : TB (am_wr σ 28 ((i * 27 + w) * 4 + m) x) p dp ow s P A c w' := by
  unfold TB at h ⊢
  rw [am_diff _ _ _ _ _ (by omega), am_diff _ _ _ _ _ (by omega), am_diff _ _ _ _ _ (by omega), am_diff _ _ _ _ _ (by omega)]
  exact h
/-- a program of the reference in the slot j -/
def MP (σ : am_M) (j : Nat) (p : Pg) (n : Nat) (rk od dp : Nat → Nat) (ow : Nat → Nat → Nat) : Prop := j ≤ 2 ∧ PW p n ∧ WT p n rk dp ow ∧ σ.1 2 j = nI n ∧ (∀ a, a < n → σ.1 9 (60 * j + a) = nI (od a) ∧ od a < n ∧ rk (od a) = a) ∧ (∀ i, i < n → od (rk i) = i) ∧ ∀ i, i < n → MN σ j p dp ow i
/-- behind lays: but for the table, slot and state all is as it was -/
def KL (σ σ' : am_M) : Prop := (∀ c, c ≠ 28 → c ≠ 0 → σ'.1 c = σ.1 c) ∧ (∀ k, k ≠ 38 → k ≠ 39 → σ'.1 0 k = σ.1 0 k) ∧ σ'.2 = σ.2
theorem c_m_isLiveN {d : Nat} (hd : 2 ≤ d) {σ : am_M} {j s P A n : Nat} {p : Pg} {dp : Nat → Nat} {ow : Nat → Nat → Nat} (hB : MB σ j s P A p n dp ow) {i : Nat} (hi : i < n) {Q : am_Q} (h1 : lv p (i + 1) s = true → Q (some (.int (nI 1))) σ) (h0 : lv p (i + 1) s = false → Q (some (.int (nI 0))) σ) : am_C d 194 [.ref 0, .int (nI i)] σ Q := by
  rw [← oI_s i]
  exact c_m_isLive hd hB (by omega) h1 h0
set_option maxRecDepth 10000 in
set_option maxHeartbeats 2000000 in
theorem c_lays_mid0 {d : Nat} (hd : 12 ≤ d) {σ0 : am_M} {j s P A n : Nat} {p : Pg} {rk dp : Nat → Nat} {ow : Nat → Nat → Nat} (hB0 : MB σ0 j s P A p n dp ow) (hWT : WT p n rk dp ow) {i a : Nat} (hi : i < n) (hl : lv p (i + 1) s = false) {Q : am_Q} (hn : ∀ (σ' : am_M) (v8 v9 : Option Value), KT σ0 σ' → (∀ c, c < n → rk c < rk i → ∀ w', w' < 3 ^ dp c → TB σ' p dp ow s P A c w') → (∀ w', w' < 3 ^ dp i → TB σ' p dp ow s P A i w') → am_G d M_X10_lays Q 166 [some (.ref 0), some (.int (nI j)), some (.int (nI s)), some (.int (nI a)), some (.int (nI i)), some (.int (nI (60 * j + i))), some (.int (nI (3 ^ dp i))), some (.int (nI 0)), v8, v9] [] σ') : ∀ (mW w : Nat) (σ' : am_M) (v9 : Option Value), w + mW = 3 ^ dp i → KT σ0 σ' → (∀ c, c < n → rk c < rk i → ∀ w', w' < 3 ^ dp c → TB σ' p dp ow s P A c w') → (∀ w', w' < w → TB σ' p dp ow s P A i w') → am_G d M_X10_lays Q 86 [some (.ref 0), some (.int (nI j)), some (.int (nI s)), some (.int (nI a)), some (.int (nI i)), some (.int (nI (60 * j + i))), some (.int (nI (3 ^ dp i))), some (.int (nI 0)), some (.int (nI w)), v9] [] σ'
  | 0, w, σ', v9, hm, hk, hT, hdn => by
    have hB := hk.MB hB0
    obtain ⟨hj, hS, hW, hs, hN, hdj, hP, hA⟩ := id hB
    obtain ⟨hS1, hS2, hS3, hS4⟩ := id hS
    obtain ⟨⟨m0, m1, m2, m3, m4, m5, m6⟩, hdp, how⟩ := hN i hi
    obtain ⟨w0, w1, w2, w3, w4, w5, w6⟩ := hW.2 i hi
    have hn60 := hW.1
    have h27 : 3 ^ dp i ≤ 3 ^ 3 := Nat.pow_le_pow_right (by decide) hdp
    refine am_run 2 (pc' := 90) (ls' := [some (.ref 0), some (.int (nI j)), some (.int (nI s)), some (.int (nI a)), some (.int (nI i)), some (.int (nI (60 * j + i))), some (.int (nI (3 ^ dp i))), some (.int (nI 0)), some (.int (nI w)), v9]) (st' := [.int (nI (3 ^ dp i)), .int (nI w)]) (σ' := σ') rfl ?_
    refine am_ic (ty := 93) (tn := 166) rfl (by decide) rfl rfl (fun (h_1 : nI w < nI (3 ^ dp i)) => ?_) (fun (h_1 : ¬ (nI w < nI (3 ^ dp i))) => ?_)
    · have h_1 : w < 3 ^ dp i := (nI_ltI (by omega) (by omega)).mp h_1
      omega
    have h_1 : ¬ (w < 3 ^ dp i) := fun z => h_1 ((nI_ltI (by omega) (by omega)).mpr z)
    exact hn σ' _ _ hk hT (fun w' hw' => hdn w' (by omega))
  | mW + 1, w, σ', v9, hm, hk, hT, hdn => by
    have hB := hk.MB hB0
    obtain ⟨hj, hS, hW, hs, hN, hdj, hP, hA⟩ := id hB
    obtain ⟨hS1, hS2, hS3, hS4⟩ := id hS
    obtain ⟨⟨m0, m1, m2, m3, m4, m5, m6⟩, hdp, how⟩ := hN i hi
    obtain ⟨w0, w1, w2, w3, w4, w5, w6⟩ := hW.2 i hi
    have hn60 := hW.1
    have h27 : 3 ^ dp i ≤ 3 ^ 3 := Nat.pow_le_pow_right (by decide) hdp
    have hw3 : w < 3 ^ dp i := by omega
    have hw : w < 27 := by omega
    refine am_run 2 (pc' := 90) (ls' := [some (.ref 0), some (.int (nI j)), some (.int (nI s)), some (.int (nI a)), some (.int (nI i)), some (.int (nI (60 * j + i))), some (.int (nI (3 ^ dp i))), some (.int (nI 0)), some (.int (nI w)), v9]) (st' := [.int (nI (3 ^ dp i)), .int (nI w)]) (σ' := σ') rfl ?_
    refine am_ic (ty := 93) (tn := 166) rfl (by decide) rfl rfl (fun (h_1 : nI w < nI (3 ^ dp i)) => ?_) (fun (h_1 : ¬ (nI w < nI (3 ^ dp i))) => ?_)
    rotate_left
    · have h_1 : ¬ (w < 3 ^ dp i) := fun z => h_1 ((nI_ltI (by omega) (by omega)).mpr z)
      omega
    have h_1 : w < 3 ^ dp i := (nI_ltI (by omega) (by omega)).mp h_1
    refine am_run 4 (pc' := 100) (ls' := [some (.ref 0), some (.int (nI j)), some (.int (nI s)), some (.int (nI a)), some (.int (nI i)), some (.int (nI (60 * j + i))), some (.int (nI (3 ^ dp i))), some (.int (nI 0)), some (.int (nI w)), some (.int (nI 0))]) (st' := [.int (nI 0), .int (nI 0)]) (σ' := σ') rfl ?_
    refine am_if (ty := 107) (tn := 103) rfl (by decide) rfl rfl (fun (h_2 : nI 0 = 0) => ?_) (fun (h_2 : ¬ (nI 0 = 0)) => ?_)
    rotate_left
    · exact absurd (by decide) h_2
    refine am_run 1 (pc' := 108) (ls' := [some (.ref 0), some (.int (nI j)), some (.int (nI s)), some (.int (nI a)), some (.int (nI i)), some (.int (nI (60 * j + i))), some (.int (nI (3 ^ dp i))), some (.int (nI 0)), some (.int (nI w)), some (.int (nI 0))]) (st' := [.int (nI 2), .int (nI 0)]) (σ' := σ') rfl ?_
    refine am_ic (ty := 111) (tn := 160) rfl (by decide) rfl rfl (fun (h_3 : nI 0 < nI 2) => ?_) (fun (h_3 : ¬ (nI 0 < nI 2)) => ?_)
    rotate_left
    · exact absurd (by decide) h_3
    refine am_run 5 (pc' := 121) (ls' := [some (.ref 0), some (.int (nI j)), some (.int (nI s)), some (.int (nI a)), some (.int (nI i)), some (.int (nI (60 * j + i))), some (.int (nI (3 ^ dp i))), some (.int (nI 0)), some (.int (nI w)), some (.int (nI 0))]) (st' := [.int (nI 0), .int (nI w), .int (nI i), .ref 28]) (σ' := σ') rfl ?_
    refine am_invs (y := 189) (as := [.int (nI i), .int (nI w), .int (nI 0)]) (rest := [.ref 28]) rfl rfl rfl rfl rfl rfl (Nat.le_of_ble_eq_true rfl) ?_
    refine c_m_cellOf (by omega) ?_
    show am_G _ M_X10_lays _ 124 [some (.ref 0), some (.int (nI j)), some (.int (nI s)), some (.int (nI a)), some (.int (nI i)), some (.int (nI (60 * j + i))), some (.int (nI (3 ^ dp i))), some (.int (nI 0)), some (.int (nI w)), some (.int (nI 0))] [.int (nI ((i * 27 + w) * 4 + 0)), .ref 28] σ'
    refine am_run 2 (pc' := 127) (ls' := [some (.ref 0), some (.int (nI j)), some (.int (nI s)), some (.int (nI a)), some (.int (nI i)), some (.int (nI (60 * j + i))), some (.int (nI (3 ^ dp i))), some (.int (nI 0)), some (.int (nI w)), some (.int (nI 0))]) (st' := [.int (nI 2), .int (nI 0), .int (nI ((i * 27 + w) * 4 + 0)), .ref 28]) (σ' := σ') rfl ?_
    refine am_ic (ty := 130) (tn := 143) rfl (by decide) rfl rfl (fun (h_4 : nI 0 < nI 2) => ?_) (fun (h_4 : ¬ (nI 0 < nI 2)) => ?_)
    rotate_left
    · exact absurd (by decide) h_4
    refine am_run 4 (pc' := 137) (ls' := [some (.ref 0), some (.int (nI j)), some (.int (nI s)), some (.int (nI a)), some (.int (nI i)), some (.int (nI (60 * j + i))), some (.int (nI (3 ^ dp i))), some (.int (nI 0)), some (.int (nI w)), some (.int (nI 0))]) (st' := [.int (nI 0), .int (nI w), .int (nI (60 * j + i)), .ref 0, .int (nI ((i * 27 + w) * 4 + 0)), .ref 28]) (σ' := σ') rfl ?_
    refine am_invv (y := 203) (b := 0) (as := [.int (nI (60 * j + i)), .int (nI w), .int (nI 0)]) (rest := [.int (nI ((i * 27 + w) * 4 + 0)), .ref 28]) rfl rfl rfl rfl rfl rfl rfl (Nat.le_of_ble_eq_true rfl) ?_
    refine c_m_starts0 (by omega) hB hi hw3 rfl (fun z => (hWT.kid hi hw3 rfl z (Or.inl rfl) w2 hT).1) (fun z => (hWT.kid hi hw3 rfl z (Or.inr rfl) w3 hT).1) (fun z => ((hWT i hi).2.2.1 z).2) (fun z h hh => (hWT.kid36 hi hw3 rfl z w2 hT hh).1.1) ?_
    rw [← an_eq hW hWT.RK hi]
    show am_G _ M_X10_lays _ 140 [some (.ref 0), some (.int (nI j)), some (.int (nI s)), some (.int (nI a)), some (.int (nI i)), some (.int (nI (60 * j + i))), some (.int (nI (3 ^ dp i))), some (.int (nI 0)), some (.int (nI w)), some (.int (nI 0))] [.int (nI (eM (an p 61 (i + 1) ST true (evn (ow i) w P A (dp i)).1 (evn (ow i) w P A (dp i)).2))), .int (nI ((i * 27 + w) * 4 + 0)), .ref 28] σ'
    refine am_run 1 (pc' := 153) (ls' := [some (.ref 0), some (.int (nI j)), some (.int (nI s)), some (.int (nI a)), some (.int (nI i)), some (.int (nI (60 * j + i))), some (.int (nI (3 ^ dp i))), some (.int (nI 0)), some (.int (nI w)), some (.int (nI 0))]) (st' := [.int (nI (eM (an p 61 (i + 1) ST true (evn (ow i) w P A (dp i)).1 (evn (ow i) w P A (dp i)).2))), .int (nI ((i * 27 + w) * 4 + 0)), .ref 28]) (σ' := σ') rfl ?_
    refine am_iastN (n := 6481) rfl rfl rfl (by omega) (by decide) ?_
    have hk1 : KT σ0 (am_wr σ' 28 ((i * 27 + w) * 4 + 0) (nI (eM (an p 61 (i + 1) ST true (evn (ow i) w P A (dp i)).1 (evn (ow i) w P A (dp i)).2)))) := hk.wr (by omega) _
    have hT1 : (∀ c, c < n → rk c < rk i → ∀ w', w' < 3 ^ dp c → TB (am_wr σ' 28 ((i * 27 + w) * 4 + 0) (nI (eM (an p 61 (i + 1) ST true (evn (ow i) w P A (dp i)).1 (evn (ow i) w P A (dp i)).2)))) p dp ow s P A c w') := fun c hc hr w' hw' => (hT c hc hr w' hw').wr (fun z => by rw [z.1] at hr; omega) (wy0 (hN c hc).2.1 hw') hw (by decide) _
    have hd1 : ∀ w', w' < w → TB (am_wr σ' 28 ((i * 27 + w) * 4 + 0) (nI (eM (an p 61 (i + 1) ST true (evn (ow i) w P A (dp i)).1 (evn (ow i) w P A (dp i)).2)))) p dp ow s P A i w' := fun w' hw' => (hdn w' hw').wr (by omega) (by omega) hw (by decide) _
    have f0_1 : (am_wr σ' 28 ((i * 27 + w) * 4 + 0) (nI (eM (an p 61 (i + 1) ST true (evn (ow i) w P A (dp i)).1 (evn (ow i) w P A (dp i)).2)))).1 28 ((i * 27 + w) * 4 + 0) = nI (eM (an p 61 (i + 1) ST true (evn (ow i) w P A (dp i)).1 (evn (ow i) w P A (dp i)).2)) := am_same _ _ _ _
    generalize (am_wr σ' 28 ((i * 27 + w) * 4 + 0) (nI (eM (an p 61 (i + 1) ST true (evn (ow i) w P A (dp i)).1 (evn (ow i) w P A (dp i)).2)))) = σ1 at hk1 hT1 hd1 f0_1 ⊢
    have hB1 := hk1.MB hB0
    refine am_run 1 (pc' := 157) (ls' := [some (.ref 0), some (.int (nI j)), some (.int (nI s)), some (.int (nI a)), some (.int (nI i)), some (.int (nI (60 * j + i))), some (.int (nI (3 ^ dp i))), some (.int (nI 0)), some (.int (nI w)), some (.int (nI 0 + nI 1))]) (st' := []) (σ' := σ1) rfl ?_
    refine am_ls (ls' := [some (.ref 0), some (.int (nI j)), some (.int (nI s)), some (.int (nI a)), some (.int (nI i)), some (.int (nI (60 * j + i))), some (.int (nI (3 ^ dp i))), some (.int (nI 0)), some (.int (nI w)), some (.int (nI 1))]) (by rw [nI_add]) ?_
    refine am_run 3 (pc' := 100) (ls' := [some (.ref 0), some (.int (nI j)), some (.int (nI s)), some (.int (nI a)), some (.int (nI i)), some (.int (nI (60 * j + i))), some (.int (nI (3 ^ dp i))), some (.int (nI 0)), some (.int (nI w)), some (.int (nI 1))]) (st' := [.int (nI 0), .int (nI 1)]) (σ' := σ1) rfl ?_
    refine am_if (ty := 107) (tn := 103) rfl (by decide) rfl rfl (fun (h_5 : nI 0 = 0) => ?_) (fun (h_5 : ¬ (nI 0 = 0)) => ?_)
    rotate_left
    · exact absurd (by decide) h_5
    refine am_run 1 (pc' := 108) (ls' := [some (.ref 0), some (.int (nI j)), some (.int (nI s)), some (.int (nI a)), some (.int (nI i)), some (.int (nI (60 * j + i))), some (.int (nI (3 ^ dp i))), some (.int (nI 0)), some (.int (nI w)), some (.int (nI 1))]) (st' := [.int (nI 2), .int (nI 1)]) (σ' := σ1) rfl ?_
    refine am_ic (ty := 111) (tn := 160) rfl (by decide) rfl rfl (fun (h_6 : nI 1 < nI 2) => ?_) (fun (h_6 : ¬ (nI 1 < nI 2)) => ?_)
    rotate_left
    · exact absurd (by decide) h_6
    refine am_run 5 (pc' := 121) (ls' := [some (.ref 0), some (.int (nI j)), some (.int (nI s)), some (.int (nI a)), some (.int (nI i)), some (.int (nI (60 * j + i))), some (.int (nI (3 ^ dp i))), some (.int (nI 0)), some (.int (nI w)), some (.int (nI 1))]) (st' := [.int (nI 1), .int (nI w), .int (nI i), .ref 28]) (σ' := σ1) rfl ?_
    refine am_invs (y := 189) (as := [.int (nI i), .int (nI w), .int (nI 1)]) (rest := [.ref 28]) rfl rfl rfl rfl rfl rfl (Nat.le_of_ble_eq_true rfl) ?_
    refine c_m_cellOf (by omega) ?_
    show am_G _ M_X10_lays _ 124 [some (.ref 0), some (.int (nI j)), some (.int (nI s)), some (.int (nI a)), some (.int (nI i)), some (.int (nI (60 * j + i))), some (.int (nI (3 ^ dp i))), some (.int (nI 0)), some (.int (nI w)), some (.int (nI 1))] [.int (nI ((i * 27 + w) * 4 + 1)), .ref 28] σ1
    refine am_run 2 (pc' := 127) (ls' := [some (.ref 0), some (.int (nI j)), some (.int (nI s)), some (.int (nI a)), some (.int (nI i)), some (.int (nI (60 * j + i))), some (.int (nI (3 ^ dp i))), some (.int (nI 0)), some (.int (nI w)), some (.int (nI 1))]) (st' := [.int (nI 2), .int (nI 1), .int (nI ((i * 27 + w) * 4 + 1)), .ref 28]) (σ' := σ1) rfl ?_
    refine am_ic (ty := 130) (tn := 143) rfl (by decide) rfl rfl (fun (h_7 : nI 1 < nI 2) => ?_) (fun (h_7 : ¬ (nI 1 < nI 2)) => ?_)
    rotate_left
    · exact absurd (by decide) h_7
    refine am_run 4 (pc' := 137) (ls' := [some (.ref 0), some (.int (nI j)), some (.int (nI s)), some (.int (nI a)), some (.int (nI i)), some (.int (nI (60 * j + i))), some (.int (nI (3 ^ dp i))), some (.int (nI 0)), some (.int (nI w)), some (.int (nI 1))]) (st' := [.int (nI 1), .int (nI w), .int (nI (60 * j + i)), .ref 0, .int (nI ((i * 27 + w) * 4 + 1)), .ref 28]) (σ' := σ1) rfl ?_
    refine am_invv (y := 203) (b := 0) (as := [.int (nI (60 * j + i)), .int (nI w), .int (nI 1)]) (rest := [.int (nI ((i * 27 + w) * 4 + 1)), .ref 28]) rfl rfl rfl rfl rfl rfl rfl (Nat.le_of_ble_eq_true rfl) ?_
    refine c_m_starts1 (by omega) hB1 hi hw3 rfl (fun z => (hWT.kid hi hw3 rfl z (Or.inl rfl) w2 hT1).1) (fun z => (hWT.kid hi hw3 rfl z (Or.inr rfl) w3 hT1).1) (fun z => ((hWT i hi).2.2.1 z).2) (fun z h hh => (hWT.kid36 hi hw3 rfl z w2 hT1 hh).1.2) ?_
    rw [← an_eq hW hWT.RK hi]
    show am_G _ M_X10_lays _ 140 [some (.ref 0), some (.int (nI j)), some (.int (nI s)), some (.int (nI a)), some (.int (nI i)), some (.int (nI (60 * j + i))), some (.int (nI (3 ^ dp i))), some (.int (nI 0)), some (.int (nI w)), some (.int (nI 1))] [.int (nI (eM (an p 61 (i + 1) ST false (evn (ow i) w P A (dp i)).1 (evn (ow i) w P A (dp i)).2))), .int (nI ((i * 27 + w) * 4 + 1)), .ref 28] σ1
    refine am_run 1 (pc' := 153) (ls' := [some (.ref 0), some (.int (nI j)), some (.int (nI s)), some (.int (nI a)), some (.int (nI i)), some (.int (nI (60 * j + i))), some (.int (nI (3 ^ dp i))), some (.int (nI 0)), some (.int (nI w)), some (.int (nI 1))]) (st' := [.int (nI (eM (an p 61 (i + 1) ST false (evn (ow i) w P A (dp i)).1 (evn (ow i) w P A (dp i)).2))), .int (nI ((i * 27 + w) * 4 + 1)), .ref 28]) (σ' := σ1) rfl ?_
    refine am_iastN (n := 6481) rfl rfl rfl (by omega) (by decide) ?_
    have hk2 : KT σ0 (am_wr σ1 28 ((i * 27 + w) * 4 + 1) (nI (eM (an p 61 (i + 1) ST false (evn (ow i) w P A (dp i)).1 (evn (ow i) w P A (dp i)).2)))) := hk1.wr (by omega) _
    have hT2 : (∀ c, c < n → rk c < rk i → ∀ w', w' < 3 ^ dp c → TB (am_wr σ1 28 ((i * 27 + w) * 4 + 1) (nI (eM (an p 61 (i + 1) ST false (evn (ow i) w P A (dp i)).1 (evn (ow i) w P A (dp i)).2)))) p dp ow s P A c w') := fun c hc hr w' hw' => (hT1 c hc hr w' hw').wr (fun z => by rw [z.1] at hr; omega) (wy0 (hN c hc).2.1 hw') hw (by decide) _
    have hd2 : ∀ w', w' < w → TB (am_wr σ1 28 ((i * 27 + w) * 4 + 1) (nI (eM (an p 61 (i + 1) ST false (evn (ow i) w P A (dp i)).1 (evn (ow i) w P A (dp i)).2)))) p dp ow s P A i w' := fun w' hw' => (hd1 w' hw').wr (by omega) (by omega) hw (by decide) _
    have f1_2 : (am_wr σ1 28 ((i * 27 + w) * 4 + 1) (nI (eM (an p 61 (i + 1) ST false (evn (ow i) w P A (dp i)).1 (evn (ow i) w P A (dp i)).2)))).1 28 ((i * 27 + w) * 4 + 1) = nI (eM (an p 61 (i + 1) ST false (evn (ow i) w P A (dp i)).1 (evn (ow i) w P A (dp i)).2)) := am_same _ _ _ _
    have f0_2 : (am_wr σ1 28 ((i * 27 + w) * 4 + 1) (nI (eM (an p 61 (i + 1) ST false (evn (ow i) w P A (dp i)).1 (evn (ow i) w P A (dp i)).2)))).1 28 ((i * 27 + w) * 4 + 0) = nI (eM (an p 61 (i + 1) ST true (evn (ow i) w P A (dp i)).1 (evn (ow i) w P A (dp i)).2)) := by rw [am_diff _ _ _ _ _ (by omega)]; exact f0_1
    generalize (am_wr σ1 28 ((i * 27 + w) * 4 + 1) (nI (eM (an p 61 (i + 1) ST false (evn (ow i) w P A (dp i)).1 (evn (ow i) w P A (dp i)).2)))) = σ2 at hk2 hT2 hd2 f1_2 f0_2 ⊢
    have hB2 := hk2.MB hB0
    refine am_run 1 (pc' := 157) (ls' := [some (.ref 0), some (.int (nI j)), some (.int (nI s)), some (.int (nI a)), some (.int (nI i)), some (.int (nI (60 * j + i))), some (.int (nI (3 ^ dp i))), some (.int (nI 0)), some (.int (nI w)), some (.int (nI 1 + nI 1))]) (st' := []) (σ' := σ2) rfl ?_
    refine am_ls (ls' := [some (.ref 0), some (.int (nI j)), some (.int (nI s)), some (.int (nI a)), some (.int (nI i)), some (.int (nI (60 * j + i))), some (.int (nI (3 ^ dp i))), some (.int (nI 0)), some (.int (nI w)), some (.int (nI 2))]) (by rw [nI_add]) ?_
    refine am_run 3 (pc' := 100) (ls' := [some (.ref 0), some (.int (nI j)), some (.int (nI s)), some (.int (nI a)), some (.int (nI i)), some (.int (nI (60 * j + i))), some (.int (nI (3 ^ dp i))), some (.int (nI 0)), some (.int (nI w)), some (.int (nI 2))]) (st' := [.int (nI 0), .int (nI 2)]) (σ' := σ2) rfl ?_
    refine am_if (ty := 107) (tn := 103) rfl (by decide) rfl rfl (fun (h_8 : nI 0 = 0) => ?_) (fun (h_8 : ¬ (nI 0 = 0)) => ?_)
    rotate_left
    · exact absurd (by decide) h_8
    refine am_run 1 (pc' := 108) (ls' := [some (.ref 0), some (.int (nI j)), some (.int (nI s)), some (.int (nI a)), some (.int (nI i)), some (.int (nI (60 * j + i))), some (.int (nI (3 ^ dp i))), some (.int (nI 0)), some (.int (nI w)), some (.int (nI 2))]) (st' := [.int (nI 2), .int (nI 2)]) (σ' := σ2) rfl ?_
    refine am_ic (ty := 111) (tn := 160) rfl (by decide) rfl rfl (fun (h_9 : nI 2 < nI 2) => ?_) (fun (h_9 : ¬ (nI 2 < nI 2)) => ?_)
    · exact absurd h_9 (by decide)
    refine am_run 1 (pc' := 163) (ls' := [some (.ref 0), some (.int (nI j)), some (.int (nI s)), some (.int (nI a)), some (.int (nI i)), some (.int (nI (60 * j + i))), some (.int (nI (3 ^ dp i))), some (.int (nI 0)), some (.int (nI w + nI 1)), some (.int (nI 2))]) (st' := []) (σ' := σ2) rfl ?_
    refine am_ls (ls' := [some (.ref 0), some (.int (nI j)), some (.int (nI s)), some (.int (nI a)), some (.int (nI i)), some (.int (nI (60 * j + i))), some (.int (nI (3 ^ dp i))), some (.int (nI 0)), some (.int (nI (w + 1))), some (.int (nI 2))]) (by rw [nI_add]) ?_
    refine am_run 1 (pc' := 86) (ls' := [some (.ref 0), some (.int (nI j)), some (.int (nI s)), some (.int (nI a)), some (.int (nI i)), some (.int (nI (60 * j + i))), some (.int (nI (3 ^ dp i))), some (.int (nI 0)), some (.int (nI (w + 1))), some (.int (nI 2))]) (st' := []) (σ' := σ2) rfl ?_
    refine c_lays_mid0 hd hB0 hWT hi hl hn mW (w + 1) σ2 _ (by omega) hk2 hT2 (fun w' hw' => ?_)
    by_cases e : w' = w
    · subst e; exact ⟨f0_2, f1_2, fun z => by rw [hl] at z; cases z⟩
    · exact hd2 w' (by omega)
set_option maxRecDepth 10000 in
set_option maxHeartbeats 2000000 in
theorem c_lays_mid1 {d : Nat} (hd : 12 ≤ d) {σ0 : am_M} {j s P A n : Nat} {p : Pg} {rk dp : Nat → Nat} {ow : Nat → Nat → Nat} (hB0 : MB σ0 j s P A p n dp ow) (hWT : WT p n rk dp ow) {i a : Nat} (hi : i < n) (hl : lv p (i + 1) s = true) {Q : am_Q} (hn : ∀ (σ' : am_M) (v8 v9 : Option Value), KT σ0 σ' → (∀ c, c < n → rk c < rk i → ∀ w', w' < 3 ^ dp c → TB σ' p dp ow s P A c w') → (∀ w', w' < 3 ^ dp i → TB σ' p dp ow s P A i w') → am_G d M_X10_lays Q 166 [some (.ref 0), some (.int (nI j)), some (.int (nI s)), some (.int (nI a)), some (.int (nI i)), some (.int (nI (60 * j + i))), some (.int (nI (3 ^ dp i))), some (.int (nI 1)), v8, v9] [] σ') : ∀ (mW w : Nat) (σ' : am_M) (v9 : Option Value), w + mW = 3 ^ dp i → KT σ0 σ' → (∀ c, c < n → rk c < rk i → ∀ w', w' < 3 ^ dp c → TB σ' p dp ow s P A c w') → (∀ w', w' < w → TB σ' p dp ow s P A i w') → am_G d M_X10_lays Q 86 [some (.ref 0), some (.int (nI j)), some (.int (nI s)), some (.int (nI a)), some (.int (nI i)), some (.int (nI (60 * j + i))), some (.int (nI (3 ^ dp i))), some (.int (nI 1)), some (.int (nI w)), v9] [] σ'
  | 0, w, σ', v9, hm, hk, hT, hdn => by
    have hB := hk.MB hB0
    obtain ⟨hj, hS, hW, hs, hN, hdj, hP, hA⟩ := id hB
    obtain ⟨hS1, hS2, hS3, hS4⟩ := id hS
    obtain ⟨⟨m0, m1, m2, m3, m4, m5, m6⟩, hdp, how⟩ := hN i hi
    obtain ⟨w0, w1, w2, w3, w4, w5, w6⟩ := hW.2 i hi
    have hn60 := hW.1
    have h27 : 3 ^ dp i ≤ 3 ^ 3 := Nat.pow_le_pow_right (by decide) hdp
    refine am_run 2 (pc' := 90) (ls' := [some (.ref 0), some (.int (nI j)), some (.int (nI s)), some (.int (nI a)), some (.int (nI i)), some (.int (nI (60 * j + i))), some (.int (nI (3 ^ dp i))), some (.int (nI 1)), some (.int (nI w)), v9]) (st' := [.int (nI (3 ^ dp i)), .int (nI w)]) (σ' := σ') rfl ?_
    refine am_ic (ty := 93) (tn := 166) rfl (by decide) rfl rfl (fun (h_1 : nI w < nI (3 ^ dp i)) => ?_) (fun (h_1 : ¬ (nI w < nI (3 ^ dp i))) => ?_)
    · have h_1 : w < 3 ^ dp i := (nI_ltI (by omega) (by omega)).mp h_1
      omega
    have h_1 : ¬ (w < 3 ^ dp i) := fun z => h_1 ((nI_ltI (by omega) (by omega)).mpr z)
    exact hn σ' _ _ hk hT (fun w' hw' => hdn w' (by omega))
  | mW + 1, w, σ', v9, hm, hk, hT, hdn => by
    have hB := hk.MB hB0
    obtain ⟨hj, hS, hW, hs, hN, hdj, hP, hA⟩ := id hB
    obtain ⟨hS1, hS2, hS3, hS4⟩ := id hS
    obtain ⟨⟨m0, m1, m2, m3, m4, m5, m6⟩, hdp, how⟩ := hN i hi
    obtain ⟨w0, w1, w2, w3, w4, w5, w6⟩ := hW.2 i hi
    have hn60 := hW.1
    have h27 : 3 ^ dp i ≤ 3 ^ 3 := Nat.pow_le_pow_right (by decide) hdp
    have hw3 : w < 3 ^ dp i := by omega
    have hw : w < 27 := by omega
    have hs1 : ¬ s = 1048576 := fun z => by rw [z, lv_ST hW (by omega)] at hl; cases hl
    refine am_run 2 (pc' := 90) (ls' := [some (.ref 0), some (.int (nI j)), some (.int (nI s)), some (.int (nI a)), some (.int (nI i)), some (.int (nI (60 * j + i))), some (.int (nI (3 ^ dp i))), some (.int (nI 1)), some (.int (nI w)), v9]) (st' := [.int (nI (3 ^ dp i)), .int (nI w)]) (σ' := σ') rfl ?_
    refine am_ic (ty := 93) (tn := 166) rfl (by decide) rfl rfl (fun (h_1 : nI w < nI (3 ^ dp i)) => ?_) (fun (h_1 : ¬ (nI w < nI (3 ^ dp i))) => ?_)
    rotate_left
    · have h_1 : ¬ (w < 3 ^ dp i) := fun z => h_1 ((nI_ltI (by omega) (by omega)).mpr z)
      omega
    have h_1 : w < 3 ^ dp i := (nI_ltI (by omega) (by omega)).mp h_1
    refine am_run 4 (pc' := 100) (ls' := [some (.ref 0), some (.int (nI j)), some (.int (nI s)), some (.int (nI a)), some (.int (nI i)), some (.int (nI (60 * j + i))), some (.int (nI (3 ^ dp i))), some (.int (nI 1)), some (.int (nI w)), some (.int (nI 0))]) (st' := [.int (nI 1), .int (nI 0)]) (σ' := σ') rfl ?_
    refine am_if (ty := 107) (tn := 103) rfl (by decide) rfl rfl (fun (h_2 : nI 1 = 0) => ?_) (fun (h_2 : ¬ (nI 1 = 0)) => ?_)
    · exact absurd h_2 (by decide)
    refine am_run 2 (pc' := 108) (ls' := [some (.ref 0), some (.int (nI j)), some (.int (nI s)), some (.int (nI a)), some (.int (nI i)), some (.int (nI (60 * j + i))), some (.int (nI (3 ^ dp i))), some (.int (nI 1)), some (.int (nI w)), some (.int (nI 0))]) (st' := [.int (nI 4), .int (nI 0)]) (σ' := σ') rfl ?_
    refine am_ic (ty := 111) (tn := 160) rfl (by decide) rfl rfl (fun (h_3 : nI 0 < nI 4) => ?_) (fun (h_3 : ¬ (nI 0 < nI 4)) => ?_)
    rotate_left
    · exact absurd (by decide) h_3
    refine am_run 5 (pc' := 121) (ls' := [some (.ref 0), some (.int (nI j)), some (.int (nI s)), some (.int (nI a)), some (.int (nI i)), some (.int (nI (60 * j + i))), some (.int (nI (3 ^ dp i))), some (.int (nI 1)), some (.int (nI w)), some (.int (nI 0))]) (st' := [.int (nI 0), .int (nI w), .int (nI i), .ref 28]) (σ' := σ') rfl ?_
    refine am_invs (y := 189) (as := [.int (nI i), .int (nI w), .int (nI 0)]) (rest := [.ref 28]) rfl rfl rfl rfl rfl rfl (Nat.le_of_ble_eq_true rfl) ?_
    refine c_m_cellOf (by omega) ?_
    show am_G _ M_X10_lays _ 124 [some (.ref 0), some (.int (nI j)), some (.int (nI s)), some (.int (nI a)), some (.int (nI i)), some (.int (nI (60 * j + i))), some (.int (nI (3 ^ dp i))), some (.int (nI 1)), some (.int (nI w)), some (.int (nI 0))] [.int (nI ((i * 27 + w) * 4 + 0)), .ref 28] σ'
    refine am_run 2 (pc' := 127) (ls' := [some (.ref 0), some (.int (nI j)), some (.int (nI s)), some (.int (nI a)), some (.int (nI i)), some (.int (nI (60 * j + i))), some (.int (nI (3 ^ dp i))), some (.int (nI 1)), some (.int (nI w)), some (.int (nI 0))]) (st' := [.int (nI 2), .int (nI 0), .int (nI ((i * 27 + w) * 4 + 0)), .ref 28]) (σ' := σ') rfl ?_
    refine am_ic (ty := 130) (tn := 143) rfl (by decide) rfl rfl (fun (h_4 : nI 0 < nI 2) => ?_) (fun (h_4 : ¬ (nI 0 < nI 2)) => ?_)
    rotate_left
    · exact absurd (by decide) h_4
    refine am_run 4 (pc' := 137) (ls' := [some (.ref 0), some (.int (nI j)), some (.int (nI s)), some (.int (nI a)), some (.int (nI i)), some (.int (nI (60 * j + i))), some (.int (nI (3 ^ dp i))), some (.int (nI 1)), some (.int (nI w)), some (.int (nI 0))]) (st' := [.int (nI 0), .int (nI w), .int (nI (60 * j + i)), .ref 0, .int (nI ((i * 27 + w) * 4 + 0)), .ref 28]) (σ' := σ') rfl ?_
    refine am_invv (y := 203) (b := 0) (as := [.int (nI (60 * j + i)), .int (nI w), .int (nI 0)]) (rest := [.int (nI ((i * 27 + w) * 4 + 0)), .ref 28]) rfl rfl rfl rfl rfl rfl rfl (Nat.le_of_ble_eq_true rfl) ?_
    refine c_m_starts0 (by omega) hB hi hw3 rfl (fun z => (hWT.kid hi hw3 rfl z (Or.inl rfl) w2 hT).1) (fun z => (hWT.kid hi hw3 rfl z (Or.inr rfl) w3 hT).1) (fun z => ((hWT i hi).2.2.1 z).2) (fun z h hh => (hWT.kid36 hi hw3 rfl z w2 hT hh).1.1) ?_
    rw [← an_eq hW hWT.RK hi]
    show am_G _ M_X10_lays _ 140 [some (.ref 0), some (.int (nI j)), some (.int (nI s)), some (.int (nI a)), some (.int (nI i)), some (.int (nI (60 * j + i))), some (.int (nI (3 ^ dp i))), some (.int (nI 1)), some (.int (nI w)), some (.int (nI 0))] [.int (nI (eM (an p 61 (i + 1) ST true (evn (ow i) w P A (dp i)).1 (evn (ow i) w P A (dp i)).2))), .int (nI ((i * 27 + w) * 4 + 0)), .ref 28] σ'
    refine am_run 1 (pc' := 153) (ls' := [some (.ref 0), some (.int (nI j)), some (.int (nI s)), some (.int (nI a)), some (.int (nI i)), some (.int (nI (60 * j + i))), some (.int (nI (3 ^ dp i))), some (.int (nI 1)), some (.int (nI w)), some (.int (nI 0))]) (st' := [.int (nI (eM (an p 61 (i + 1) ST true (evn (ow i) w P A (dp i)).1 (evn (ow i) w P A (dp i)).2))), .int (nI ((i * 27 + w) * 4 + 0)), .ref 28]) (σ' := σ') rfl ?_
    refine am_iastN (n := 6481) rfl rfl rfl (by omega) (by decide) ?_
    have hk1 : KT σ0 (am_wr σ' 28 ((i * 27 + w) * 4 + 0) (nI (eM (an p 61 (i + 1) ST true (evn (ow i) w P A (dp i)).1 (evn (ow i) w P A (dp i)).2)))) := hk.wr (by omega) _
    have hT1 : (∀ c, c < n → rk c < rk i → ∀ w', w' < 3 ^ dp c → TB (am_wr σ' 28 ((i * 27 + w) * 4 + 0) (nI (eM (an p 61 (i + 1) ST true (evn (ow i) w P A (dp i)).1 (evn (ow i) w P A (dp i)).2)))) p dp ow s P A c w') := fun c hc hr w' hw' => (hT c hc hr w' hw').wr (fun z => by rw [z.1] at hr; omega) (wy0 (hN c hc).2.1 hw') hw (by decide) _
    have hd1 : ∀ w', w' < w → TB (am_wr σ' 28 ((i * 27 + w) * 4 + 0) (nI (eM (an p 61 (i + 1) ST true (evn (ow i) w P A (dp i)).1 (evn (ow i) w P A (dp i)).2)))) p dp ow s P A i w' := fun w' hw' => (hdn w' hw').wr (by omega) (by omega) hw (by decide) _
    have f0_1 : (am_wr σ' 28 ((i * 27 + w) * 4 + 0) (nI (eM (an p 61 (i + 1) ST true (evn (ow i) w P A (dp i)).1 (evn (ow i) w P A (dp i)).2)))).1 28 ((i * 27 + w) * 4 + 0) = nI (eM (an p 61 (i + 1) ST true (evn (ow i) w P A (dp i)).1 (evn (ow i) w P A (dp i)).2)) := am_same _ _ _ _
    generalize (am_wr σ' 28 ((i * 27 + w) * 4 + 0) (nI (eM (an p 61 (i + 1) ST true (evn (ow i) w P A (dp i)).1 (evn (ow i) w P A (dp i)).2)))) = σ1 at hk1 hT1 hd1 f0_1 ⊢
    have hB1 := hk1.MB hB0
    refine am_run 1 (pc' := 157) (ls' := [some (.ref 0), some (.int (nI j)), some (.int (nI s)), some (.int (nI a)), some (.int (nI i)), some (.int (nI (60 * j + i))), some (.int (nI (3 ^ dp i))), some (.int (nI 1)), some (.int (nI w)), some (.int (nI 0 + nI 1))]) (st' := []) (σ' := σ1) rfl ?_
    refine am_ls (ls' := [some (.ref 0), some (.int (nI j)), some (.int (nI s)), some (.int (nI a)), some (.int (nI i)), some (.int (nI (60 * j + i))), some (.int (nI (3 ^ dp i))), some (.int (nI 1)), some (.int (nI w)), some (.int (nI 1))]) (by rw [nI_add]) ?_
    refine am_run 3 (pc' := 100) (ls' := [some (.ref 0), some (.int (nI j)), some (.int (nI s)), some (.int (nI a)), some (.int (nI i)), some (.int (nI (60 * j + i))), some (.int (nI (3 ^ dp i))), some (.int (nI 1)), some (.int (nI w)), some (.int (nI 1))]) (st' := [.int (nI 1), .int (nI 1)]) (σ' := σ1) rfl ?_
    refine am_if (ty := 107) (tn := 103) rfl (by decide) rfl rfl (fun (h_5 : nI 1 = 0) => ?_) (fun (h_5 : ¬ (nI 1 = 0)) => ?_)
    · exact absurd h_5 (by decide)
    refine am_run 2 (pc' := 108) (ls' := [some (.ref 0), some (.int (nI j)), some (.int (nI s)), some (.int (nI a)), some (.int (nI i)), some (.int (nI (60 * j + i))), some (.int (nI (3 ^ dp i))), some (.int (nI 1)), some (.int (nI w)), some (.int (nI 1))]) (st' := [.int (nI 4), .int (nI 1)]) (σ' := σ1) rfl ?_
    refine am_ic (ty := 111) (tn := 160) rfl (by decide) rfl rfl (fun (h_6 : nI 1 < nI 4) => ?_) (fun (h_6 : ¬ (nI 1 < nI 4)) => ?_)
    rotate_left
    · exact absurd (by decide) h_6
    refine am_run 5 (pc' := 121) (ls' := [some (.ref 0), some (.int (nI j)), some (.int (nI s)), some (.int (nI a)), some (.int (nI i)), some (.int (nI (60 * j + i))), some (.int (nI (3 ^ dp i))), some (.int (nI 1)), some (.int (nI w)), some (.int (nI 1))]) (st' := [.int (nI 1), .int (nI w), .int (nI i), .ref 28]) (σ' := σ1) rfl ?_
    refine am_invs (y := 189) (as := [.int (nI i), .int (nI w), .int (nI 1)]) (rest := [.ref 28]) rfl rfl rfl rfl rfl rfl (Nat.le_of_ble_eq_true rfl) ?_
    refine c_m_cellOf (by omega) ?_
    show am_G _ M_X10_lays _ 124 [some (.ref 0), some (.int (nI j)), some (.int (nI s)), some (.int (nI a)), some (.int (nI i)), some (.int (nI (60 * j + i))), some (.int (nI (3 ^ dp i))), some (.int (nI 1)), some (.int (nI w)), some (.int (nI 1))] [.int (nI ((i * 27 + w) * 4 + 1)), .ref 28] σ1
    refine am_run 2 (pc' := 127) (ls' := [some (.ref 0), some (.int (nI j)), some (.int (nI s)), some (.int (nI a)), some (.int (nI i)), some (.int (nI (60 * j + i))), some (.int (nI (3 ^ dp i))), some (.int (nI 1)), some (.int (nI w)), some (.int (nI 1))]) (st' := [.int (nI 2), .int (nI 1), .int (nI ((i * 27 + w) * 4 + 1)), .ref 28]) (σ' := σ1) rfl ?_
    refine am_ic (ty := 130) (tn := 143) rfl (by decide) rfl rfl (fun (h_7 : nI 1 < nI 2) => ?_) (fun (h_7 : ¬ (nI 1 < nI 2)) => ?_)
    rotate_left
    · exact absurd (by decide) h_7
    refine am_run 4 (pc' := 137) (ls' := [some (.ref 0), some (.int (nI j)), some (.int (nI s)), some (.int (nI a)), some (.int (nI i)), some (.int (nI (60 * j + i))), some (.int (nI (3 ^ dp i))), some (.int (nI 1)), some (.int (nI w)), some (.int (nI 1))]) (st' := [.int (nI 1), .int (nI w), .int (nI (60 * j + i)), .ref 0, .int (nI ((i * 27 + w) * 4 + 1)), .ref 28]) (σ' := σ1) rfl ?_
    refine am_invv (y := 203) (b := 0) (as := [.int (nI (60 * j + i)), .int (nI w), .int (nI 1)]) (rest := [.int (nI ((i * 27 + w) * 4 + 1)), .ref 28]) rfl rfl rfl rfl rfl rfl rfl (Nat.le_of_ble_eq_true rfl) ?_
    refine c_m_starts1 (by omega) hB1 hi hw3 rfl (fun z => (hWT.kid hi hw3 rfl z (Or.inl rfl) w2 hT1).1) (fun z => (hWT.kid hi hw3 rfl z (Or.inr rfl) w3 hT1).1) (fun z => ((hWT i hi).2.2.1 z).2) (fun z h hh => (hWT.kid36 hi hw3 rfl z w2 hT1 hh).1.2) ?_
    rw [← an_eq hW hWT.RK hi]
    show am_G _ M_X10_lays _ 140 [some (.ref 0), some (.int (nI j)), some (.int (nI s)), some (.int (nI a)), some (.int (nI i)), some (.int (nI (60 * j + i))), some (.int (nI (3 ^ dp i))), some (.int (nI 1)), some (.int (nI w)), some (.int (nI 1))] [.int (nI (eM (an p 61 (i + 1) ST false (evn (ow i) w P A (dp i)).1 (evn (ow i) w P A (dp i)).2))), .int (nI ((i * 27 + w) * 4 + 1)), .ref 28] σ1
    refine am_run 1 (pc' := 153) (ls' := [some (.ref 0), some (.int (nI j)), some (.int (nI s)), some (.int (nI a)), some (.int (nI i)), some (.int (nI (60 * j + i))), some (.int (nI (3 ^ dp i))), some (.int (nI 1)), some (.int (nI w)), some (.int (nI 1))]) (st' := [.int (nI (eM (an p 61 (i + 1) ST false (evn (ow i) w P A (dp i)).1 (evn (ow i) w P A (dp i)).2))), .int (nI ((i * 27 + w) * 4 + 1)), .ref 28]) (σ' := σ1) rfl ?_
    refine am_iastN (n := 6481) rfl rfl rfl (by omega) (by decide) ?_
    have hk2 : KT σ0 (am_wr σ1 28 ((i * 27 + w) * 4 + 1) (nI (eM (an p 61 (i + 1) ST false (evn (ow i) w P A (dp i)).1 (evn (ow i) w P A (dp i)).2)))) := hk1.wr (by omega) _
    have hT2 : (∀ c, c < n → rk c < rk i → ∀ w', w' < 3 ^ dp c → TB (am_wr σ1 28 ((i * 27 + w) * 4 + 1) (nI (eM (an p 61 (i + 1) ST false (evn (ow i) w P A (dp i)).1 (evn (ow i) w P A (dp i)).2)))) p dp ow s P A c w') := fun c hc hr w' hw' => (hT1 c hc hr w' hw').wr (fun z => by rw [z.1] at hr; omega) (wy0 (hN c hc).2.1 hw') hw (by decide) _
    have hd2 : ∀ w', w' < w → TB (am_wr σ1 28 ((i * 27 + w) * 4 + 1) (nI (eM (an p 61 (i + 1) ST false (evn (ow i) w P A (dp i)).1 (evn (ow i) w P A (dp i)).2)))) p dp ow s P A i w' := fun w' hw' => (hd1 w' hw').wr (by omega) (by omega) hw (by decide) _
    have f1_2 : (am_wr σ1 28 ((i * 27 + w) * 4 + 1) (nI (eM (an p 61 (i + 1) ST false (evn (ow i) w P A (dp i)).1 (evn (ow i) w P A (dp i)).2)))).1 28 ((i * 27 + w) * 4 + 1) = nI (eM (an p 61 (i + 1) ST false (evn (ow i) w P A (dp i)).1 (evn (ow i) w P A (dp i)).2)) := am_same _ _ _ _
    have f0_2 : (am_wr σ1 28 ((i * 27 + w) * 4 + 1) (nI (eM (an p 61 (i + 1) ST false (evn (ow i) w P A (dp i)).1 (evn (ow i) w P A (dp i)).2)))).1 28 ((i * 27 + w) * 4 + 0) = nI (eM (an p 61 (i + 1) ST true (evn (ow i) w P A (dp i)).1 (evn (ow i) w P A (dp i)).2)) := by rw [am_diff _ _ _ _ _ (by omega)]; exact f0_1
    generalize (am_wr σ1 28 ((i * 27 + w) * 4 + 1) (nI (eM (an p 61 (i + 1) ST false (evn (ow i) w P A (dp i)).1 (evn (ow i) w P A (dp i)).2)))) = σ2 at hk2 hT2 hd2 f1_2 f0_2 ⊢
    have hB2 := hk2.MB hB0
    refine am_run 1 (pc' := 157) (ls' := [some (.ref 0), some (.int (nI j)), some (.int (nI s)), some (.int (nI a)), some (.int (nI i)), some (.int (nI (60 * j + i))), some (.int (nI (3 ^ dp i))), some (.int (nI 1)), some (.int (nI w)), some (.int (nI 1 + nI 1))]) (st' := []) (σ' := σ2) rfl ?_
    refine am_ls (ls' := [some (.ref 0), some (.int (nI j)), some (.int (nI s)), some (.int (nI a)), some (.int (nI i)), some (.int (nI (60 * j + i))), some (.int (nI (3 ^ dp i))), some (.int (nI 1)), some (.int (nI w)), some (.int (nI 2))]) (by rw [nI_add]) ?_
    refine am_run 3 (pc' := 100) (ls' := [some (.ref 0), some (.int (nI j)), some (.int (nI s)), some (.int (nI a)), some (.int (nI i)), some (.int (nI (60 * j + i))), some (.int (nI (3 ^ dp i))), some (.int (nI 1)), some (.int (nI w)), some (.int (nI 2))]) (st' := [.int (nI 1), .int (nI 2)]) (σ' := σ2) rfl ?_
    refine am_if (ty := 107) (tn := 103) rfl (by decide) rfl rfl (fun (h_8 : nI 1 = 0) => ?_) (fun (h_8 : ¬ (nI 1 = 0)) => ?_)
    · exact absurd h_8 (by decide)
    refine am_run 2 (pc' := 108) (ls' := [some (.ref 0), some (.int (nI j)), some (.int (nI s)), some (.int (nI a)), some (.int (nI i)), some (.int (nI (60 * j + i))), some (.int (nI (3 ^ dp i))), some (.int (nI 1)), some (.int (nI w)), some (.int (nI 2))]) (st' := [.int (nI 4), .int (nI 2)]) (σ' := σ2) rfl ?_
    refine am_ic (ty := 111) (tn := 160) rfl (by decide) rfl rfl (fun (h_9 : nI 2 < nI 4) => ?_) (fun (h_9 : ¬ (nI 2 < nI 4)) => ?_)
    rotate_left
    · exact absurd (by decide) h_9
    refine am_run 5 (pc' := 121) (ls' := [some (.ref 0), some (.int (nI j)), some (.int (nI s)), some (.int (nI a)), some (.int (nI i)), some (.int (nI (60 * j + i))), some (.int (nI (3 ^ dp i))), some (.int (nI 1)), some (.int (nI w)), some (.int (nI 2))]) (st' := [.int (nI 2), .int (nI w), .int (nI i), .ref 28]) (σ' := σ2) rfl ?_
    refine am_invs (y := 189) (as := [.int (nI i), .int (nI w), .int (nI 2)]) (rest := [.ref 28]) rfl rfl rfl rfl rfl rfl (Nat.le_of_ble_eq_true rfl) ?_
    refine c_m_cellOf (by omega) ?_
    show am_G _ M_X10_lays _ 124 [some (.ref 0), some (.int (nI j)), some (.int (nI s)), some (.int (nI a)), some (.int (nI i)), some (.int (nI (60 * j + i))), some (.int (nI (3 ^ dp i))), some (.int (nI 1)), some (.int (nI w)), some (.int (nI 2))] [.int (nI ((i * 27 + w) * 4 + 2)), .ref 28] σ2
    refine am_run 2 (pc' := 127) (ls' := [some (.ref 0), some (.int (nI j)), some (.int (nI s)), some (.int (nI a)), some (.int (nI i)), some (.int (nI (60 * j + i))), some (.int (nI (3 ^ dp i))), some (.int (nI 1)), some (.int (nI w)), some (.int (nI 2))]) (st' := [.int (nI 2), .int (nI 2), .int (nI ((i * 27 + w) * 4 + 2)), .ref 28]) (σ' := σ2) rfl ?_
    refine am_ic (ty := 130) (tn := 143) rfl (by decide) rfl rfl (fun (h_10 : nI 2 < nI 2) => ?_) (fun (h_10 : ¬ (nI 2 < nI 2)) => ?_)
    · exact absurd h_10 (by decide)
    refine am_run 4 (pc' := 150) (ls' := [some (.ref 0), some (.int (nI j)), some (.int (nI s)), some (.int (nI a)), some (.int (nI i)), some (.int (nI (60 * j + i))), some (.int (nI (3 ^ dp i))), some (.int (nI 1)), some (.int (nI w)), some (.int (nI 2))]) (st' := [.int (nI 2), .int (nI w), .int (nI (60 * j + i)), .ref 0, .int (nI ((i * 27 + w) * 4 + 2)), .ref 28]) (σ' := σ2) rfl ?_
    refine am_invv (y := 208) (b := 0) (as := [.int (nI (60 * j + i)), .int (nI w), .int (nI 2)]) (rest := [.int (nI ((i * 27 + w) * 4 + 2)), .ref 28]) rfl rfl rfl rfl rfl rfl rfl (Nat.le_of_ble_eq_true rfl) ?_
    refine c_m_goesOn2 (by omega) hB2 hi hw3 rfl hs1 (fun z => (hWT.kid hi hw3 rfl z (Or.inl rfl) w2 hT2).1) (fun z => (hWT.kid hi hw3 rfl z (Or.inr rfl) w3 hT2).1) (fun z y => (hWT.kid hi hw3 rfl z (Or.inl rfl) w2 hT2).2 y) (fun z y => (hWT.kid hi hw3 rfl z (Or.inr rfl) w3 hT2).2 y) (fun z => hWT.V2 hi hl (by omega)) (fun z y => hWT.V3 hi hl (by omega) y) (hWT.T0 hi hl) (fun z => ((hWT i hi).2.2.1 z).2) (fun z h hh => ((hWT.kid36 hi hw3 rfl z w2 hT2 hh).2 (hWT.V2 hi hl (by omega))).1) ?_
    rw [← an_eq hW hWT.RK hi]
    show am_G _ M_X10_lays _ 153 [some (.ref 0), some (.int (nI j)), some (.int (nI s)), some (.int (nI a)), some (.int (nI i)), some (.int (nI (60 * j + i))), some (.int (nI (3 ^ dp i))), some (.int (nI 1)), some (.int (nI w)), some (.int (nI 2))] [.int (nI (eM (an p 61 (i + 1) s true (evn (ow i) w P A (dp i)).1 (evn (ow i) w P A (dp i)).2))), .int (nI ((i * 27 + w) * 4 + 2)), .ref 28] σ2
    refine am_iastN (n := 6481) rfl rfl rfl (by omega) (by decide) ?_
    have hk3 : KT σ0 (am_wr σ2 28 ((i * 27 + w) * 4 + 2) (nI (eM (an p 61 (i + 1) s true (evn (ow i) w P A (dp i)).1 (evn (ow i) w P A (dp i)).2)))) := hk2.wr (by omega) _
    have hT3 : (∀ c, c < n → rk c < rk i → ∀ w', w' < 3 ^ dp c → TB (am_wr σ2 28 ((i * 27 + w) * 4 + 2) (nI (eM (an p 61 (i + 1) s true (evn (ow i) w P A (dp i)).1 (evn (ow i) w P A (dp i)).2)))) p dp ow s P A c w') := fun c hc hr w' hw' => (hT2 c hc hr w' hw').wr (fun z => by rw [z.1] at hr; omega) (wy0 (hN c hc).2.1 hw') hw (by decide) _
    have hd3 : ∀ w', w' < w → TB (am_wr σ2 28 ((i * 27 + w) * 4 + 2) (nI (eM (an p 61 (i + 1) s true (evn (ow i) w P A (dp i)).1 (evn (ow i) w P A (dp i)).2)))) p dp ow s P A i w' := fun w' hw' => (hd2 w' hw').wr (by omega) (by omega) hw (by decide) _
    have f2_3 : (am_wr σ2 28 ((i * 27 + w) * 4 + 2) (nI (eM (an p 61 (i + 1) s true (evn (ow i) w P A (dp i)).1 (evn (ow i) w P A (dp i)).2)))).1 28 ((i * 27 + w) * 4 + 2) = nI (eM (an p 61 (i + 1) s true (evn (ow i) w P A (dp i)).1 (evn (ow i) w P A (dp i)).2)) := am_same _ _ _ _
    have f0_3 : (am_wr σ2 28 ((i * 27 + w) * 4 + 2) (nI (eM (an p 61 (i + 1) s true (evn (ow i) w P A (dp i)).1 (evn (ow i) w P A (dp i)).2)))).1 28 ((i * 27 + w) * 4 + 0) = nI (eM (an p 61 (i + 1) ST true (evn (ow i) w P A (dp i)).1 (evn (ow i) w P A (dp i)).2)) := by rw [am_diff _ _ _ _ _ (by omega)]; exact f0_2
    have f1_3 : (am_wr σ2 28 ((i * 27 + w) * 4 + 2) (nI (eM (an p 61 (i + 1) s true (evn (ow i) w P A (dp i)).1 (evn (ow i) w P A (dp i)).2)))).1 28 ((i * 27 + w) * 4 + 1) = nI (eM (an p 61 (i + 1) ST false (evn (ow i) w P A (dp i)).1 (evn (ow i) w P A (dp i)).2)) := by rw [am_diff _ _ _ _ _ (by omega)]; exact f1_2
    generalize (am_wr σ2 28 ((i * 27 + w) * 4 + 2) (nI (eM (an p 61 (i + 1) s true (evn (ow i) w P A (dp i)).1 (evn (ow i) w P A (dp i)).2)))) = σ3 at hk3 hT3 hd3 f2_3 f0_3 f1_3 ⊢
    have hB3 := hk3.MB hB0
    refine am_run 1 (pc' := 157) (ls' := [some (.ref 0), some (.int (nI j)), some (.int (nI s)), some (.int (nI a)), some (.int (nI i)), some (.int (nI (60 * j + i))), some (.int (nI (3 ^ dp i))), some (.int (nI 1)), some (.int (nI w)), some (.int (nI 2 + nI 1))]) (st' := []) (σ' := σ3) rfl ?_
    refine am_ls (ls' := [some (.ref 0), some (.int (nI j)), some (.int (nI s)), some (.int (nI a)), some (.int (nI i)), some (.int (nI (60 * j + i))), some (.int (nI (3 ^ dp i))), some (.int (nI 1)), some (.int (nI w)), some (.int (nI 3))]) (by rw [nI_add]) ?_
    refine am_run 3 (pc' := 100) (ls' := [some (.ref 0), some (.int (nI j)), some (.int (nI s)), some (.int (nI a)), some (.int (nI i)), some (.int (nI (60 * j + i))), some (.int (nI (3 ^ dp i))), some (.int (nI 1)), some (.int (nI w)), some (.int (nI 3))]) (st' := [.int (nI 1), .int (nI 3)]) (σ' := σ3) rfl ?_
    refine am_if (ty := 107) (tn := 103) rfl (by decide) rfl rfl (fun (h_11 : nI 1 = 0) => ?_) (fun (h_11 : ¬ (nI 1 = 0)) => ?_)
    · exact absurd h_11 (by decide)
    refine am_run 2 (pc' := 108) (ls' := [some (.ref 0), some (.int (nI j)), some (.int (nI s)), some (.int (nI a)), some (.int (nI i)), some (.int (nI (60 * j + i))), some (.int (nI (3 ^ dp i))), some (.int (nI 1)), some (.int (nI w)), some (.int (nI 3))]) (st' := [.int (nI 4), .int (nI 3)]) (σ' := σ3) rfl ?_
    refine am_ic (ty := 111) (tn := 160) rfl (by decide) rfl rfl (fun (h_12 : nI 3 < nI 4) => ?_) (fun (h_12 : ¬ (nI 3 < nI 4)) => ?_)
    rotate_left
    · exact absurd (by decide) h_12
    refine am_run 5 (pc' := 121) (ls' := [some (.ref 0), some (.int (nI j)), some (.int (nI s)), some (.int (nI a)), some (.int (nI i)), some (.int (nI (60 * j + i))), some (.int (nI (3 ^ dp i))), some (.int (nI 1)), some (.int (nI w)), some (.int (nI 3))]) (st' := [.int (nI 3), .int (nI w), .int (nI i), .ref 28]) (σ' := σ3) rfl ?_
    refine am_invs (y := 189) (as := [.int (nI i), .int (nI w), .int (nI 3)]) (rest := [.ref 28]) rfl rfl rfl rfl rfl rfl (Nat.le_of_ble_eq_true rfl) ?_
    refine c_m_cellOf (by omega) ?_
    show am_G _ M_X10_lays _ 124 [some (.ref 0), some (.int (nI j)), some (.int (nI s)), some (.int (nI a)), some (.int (nI i)), some (.int (nI (60 * j + i))), some (.int (nI (3 ^ dp i))), some (.int (nI 1)), some (.int (nI w)), some (.int (nI 3))] [.int (nI ((i * 27 + w) * 4 + 3)), .ref 28] σ3
    refine am_run 2 (pc' := 127) (ls' := [some (.ref 0), some (.int (nI j)), some (.int (nI s)), some (.int (nI a)), some (.int (nI i)), some (.int (nI (60 * j + i))), some (.int (nI (3 ^ dp i))), some (.int (nI 1)), some (.int (nI w)), some (.int (nI 3))]) (st' := [.int (nI 2), .int (nI 3), .int (nI ((i * 27 + w) * 4 + 3)), .ref 28]) (σ' := σ3) rfl ?_
    refine am_ic (ty := 130) (tn := 143) rfl (by decide) rfl rfl (fun (h_13 : nI 3 < nI 2) => ?_) (fun (h_13 : ¬ (nI 3 < nI 2)) => ?_)
    · exact absurd h_13 (by decide)
    refine am_run 4 (pc' := 150) (ls' := [some (.ref 0), some (.int (nI j)), some (.int (nI s)), some (.int (nI a)), some (.int (nI i)), some (.int (nI (60 * j + i))), some (.int (nI (3 ^ dp i))), some (.int (nI 1)), some (.int (nI w)), some (.int (nI 3))]) (st' := [.int (nI 3), .int (nI w), .int (nI (60 * j + i)), .ref 0, .int (nI ((i * 27 + w) * 4 + 3)), .ref 28]) (σ' := σ3) rfl ?_
    refine am_invv (y := 208) (b := 0) (as := [.int (nI (60 * j + i)), .int (nI w), .int (nI 3)]) (rest := [.int (nI ((i * 27 + w) * 4 + 3)), .ref 28]) rfl rfl rfl rfl rfl rfl rfl (Nat.le_of_ble_eq_true rfl) ?_
    refine c_m_goesOn3 (by omega) hB3 hi hw3 rfl hs1 (fun z => (hWT.kid hi hw3 rfl z (Or.inl rfl) w2 hT3).1) (fun z => (hWT.kid hi hw3 rfl z (Or.inr rfl) w3 hT3).1) (fun z y => (hWT.kid hi hw3 rfl z (Or.inl rfl) w2 hT3).2 y) (fun z y => (hWT.kid hi hw3 rfl z (Or.inr rfl) w3 hT3).2 y) (fun z => hWT.V2 hi hl (by omega)) (fun z y => hWT.V3 hi hl (by omega) y) (hWT.T0 hi hl) (fun z => ((hWT i hi).2.2.1 z).2) (fun z h hh => ((hWT.kid36 hi hw3 rfl z w2 hT3 hh).2 (hWT.V2 hi hl (by omega))).2) ?_
    rw [← an_eq hW hWT.RK hi]
    show am_G _ M_X10_lays _ 153 [some (.ref 0), some (.int (nI j)), some (.int (nI s)), some (.int (nI a)), some (.int (nI i)), some (.int (nI (60 * j + i))), some (.int (nI (3 ^ dp i))), some (.int (nI 1)), some (.int (nI w)), some (.int (nI 3))] [.int (nI (eM (an p 61 (i + 1) s false (evn (ow i) w P A (dp i)).1 (evn (ow i) w P A (dp i)).2))), .int (nI ((i * 27 + w) * 4 + 3)), .ref 28] σ3
    refine am_iastN (n := 6481) rfl rfl rfl (by omega) (by decide) ?_
    have hk4 : KT σ0 (am_wr σ3 28 ((i * 27 + w) * 4 + 3) (nI (eM (an p 61 (i + 1) s false (evn (ow i) w P A (dp i)).1 (evn (ow i) w P A (dp i)).2)))) := hk3.wr (by omega) _
    have hT4 : (∀ c, c < n → rk c < rk i → ∀ w', w' < 3 ^ dp c → TB (am_wr σ3 28 ((i * 27 + w) * 4 + 3) (nI (eM (an p 61 (i + 1) s false (evn (ow i) w P A (dp i)).1 (evn (ow i) w P A (dp i)).2)))) p dp ow s P A c w') := fun c hc hr w' hw' => (hT3 c hc hr w' hw').wr (fun z => by rw [z.1] at hr; omega) (wy0 (hN c hc).2.1 hw') hw (by decide) _
    have hd4 : ∀ w', w' < w → TB (am_wr σ3 28 ((i * 27 + w) * 4 + 3) (nI (eM (an p 61 (i + 1) s false (evn (ow i) w P A (dp i)).1 (evn (ow i) w P A (dp i)).2)))) p dp ow s P A i w' := fun w' hw' => (hd3 w' hw').wr (by omega) (by omega) hw (by decide) _
    have f3_4 : (am_wr σ3 28 ((i * 27 + w) * 4 + 3) (nI (eM (an p 61 (i + 1) s false (evn (ow i) w P A (dp i)).1 (evn (ow i) w P A (dp i)).2)))).1 28 ((i * 27 + w) * 4 + 3) = nI (eM (an p 61 (i + 1) s false (evn (ow i) w P A (dp i)).1 (evn (ow i) w P A (dp i)).2)) := am_same _ _ _ _
    have f0_4 : (am_wr σ3 28 ((i * 27 + w) * 4 + 3) (nI (eM (an p 61 (i + 1) s false (evn (ow i) w P A (dp i)).1 (evn (ow i) w P A (dp i)).2)))).1 28 ((i * 27 + w) * 4 + 0) = nI (eM (an p 61 (i + 1) ST true (evn (ow i) w P A (dp i)).1 (evn (ow i) w P A (dp i)).2)) := by rw [am_diff _ _ _ _ _ (by omega)]; exact f0_3
    have f1_4 : (am_wr σ3 28 ((i * 27 + w) * 4 + 3) (nI (eM (an p 61 (i + 1) s false (evn (ow i) w P A (dp i)).1 (evn (ow i) w P A (dp i)).2)))).1 28 ((i * 27 + w) * 4 + 1) = nI (eM (an p 61 (i + 1) ST false (evn (ow i) w P A (dp i)).1 (evn (ow i) w P A (dp i)).2)) := by rw [am_diff _ _ _ _ _ (by omega)]; exact f1_3
    have f2_4 : (am_wr σ3 28 ((i * 27 + w) * 4 + 3) (nI (eM (an p 61 (i + 1) s false (evn (ow i) w P A (dp i)).1 (evn (ow i) w P A (dp i)).2)))).1 28 ((i * 27 + w) * 4 + 2) = nI (eM (an p 61 (i + 1) s true (evn (ow i) w P A (dp i)).1 (evn (ow i) w P A (dp i)).2)) := by rw [am_diff _ _ _ _ _ (by omega)]; exact f2_3
    generalize (am_wr σ3 28 ((i * 27 + w) * 4 + 3) (nI (eM (an p 61 (i + 1) s false (evn (ow i) w P A (dp i)).1 (evn (ow i) w P A (dp i)).2)))) = σ4 at hk4 hT4 hd4 f3_4 f0_4 f1_4 f2_4 ⊢
    have hB4 := hk4.MB hB0
    refine am_run 1 (pc' := 157) (ls' := [some (.ref 0), some (.int (nI j)), some (.int (nI s)), some (.int (nI a)), some (.int (nI i)), some (.int (nI (60 * j + i))), some (.int (nI (3 ^ dp i))), some (.int (nI 1)), some (.int (nI w)), some (.int (nI 3 + nI 1))]) (st' := []) (σ' := σ4) rfl ?_
    refine am_ls (ls' := [some (.ref 0), some (.int (nI j)), some (.int (nI s)), some (.int (nI a)), some (.int (nI i)), some (.int (nI (60 * j + i))), some (.int (nI (3 ^ dp i))), some (.int (nI 1)), some (.int (nI w)), some (.int (nI 4))]) (by rw [nI_add]) ?_
    refine am_run 3 (pc' := 100) (ls' := [some (.ref 0), some (.int (nI j)), some (.int (nI s)), some (.int (nI a)), some (.int (nI i)), some (.int (nI (60 * j + i))), some (.int (nI (3 ^ dp i))), some (.int (nI 1)), some (.int (nI w)), some (.int (nI 4))]) (st' := [.int (nI 1), .int (nI 4)]) (σ' := σ4) rfl ?_
    refine am_if (ty := 107) (tn := 103) rfl (by decide) rfl rfl (fun (h_14 : nI 1 = 0) => ?_) (fun (h_14 : ¬ (nI 1 = 0)) => ?_)
    · exact absurd h_14 (by decide)
    refine am_run 2 (pc' := 108) (ls' := [some (.ref 0), some (.int (nI j)), some (.int (nI s)), some (.int (nI a)), some (.int (nI i)), some (.int (nI (60 * j + i))), some (.int (nI (3 ^ dp i))), some (.int (nI 1)), some (.int (nI w)), some (.int (nI 4))]) (st' := [.int (nI 4), .int (nI 4)]) (σ' := σ4) rfl ?_
    refine am_ic (ty := 111) (tn := 160) rfl (by decide) rfl rfl (fun (h_15 : nI 4 < nI 4) => ?_) (fun (h_15 : ¬ (nI 4 < nI 4)) => ?_)
    · exact absurd h_15 (by decide)
    refine am_run 1 (pc' := 163) (ls' := [some (.ref 0), some (.int (nI j)), some (.int (nI s)), some (.int (nI a)), some (.int (nI i)), some (.int (nI (60 * j + i))), some (.int (nI (3 ^ dp i))), some (.int (nI 1)), some (.int (nI w + nI 1)), some (.int (nI 4))]) (st' := []) (σ' := σ4) rfl ?_
    refine am_ls (ls' := [some (.ref 0), some (.int (nI j)), some (.int (nI s)), some (.int (nI a)), some (.int (nI i)), some (.int (nI (60 * j + i))), some (.int (nI (3 ^ dp i))), some (.int (nI 1)), some (.int (nI (w + 1))), some (.int (nI 4))]) (by rw [nI_add]) ?_
    refine am_run 1 (pc' := 86) (ls' := [some (.ref 0), some (.int (nI j)), some (.int (nI s)), some (.int (nI a)), some (.int (nI i)), some (.int (nI (60 * j + i))), some (.int (nI (3 ^ dp i))), some (.int (nI 1)), some (.int (nI (w + 1))), some (.int (nI 4))]) (st' := []) (σ' := σ4) rfl ?_
    refine c_lays_mid1 hd hB0 hWT hi hl hn mW (w + 1) σ4 _ (by omega) hk4 hT4 (fun w' hw' => ?_)
    by_cases e : w' = w
    · subst e; exact ⟨f0_4, f1_4, fun _ => ⟨f2_4, f3_4⟩⟩
    · exact hd4 w' (by omega)
set_option maxRecDepth 10000 in
set_option maxHeartbeats 2000000 in
theorem c_lays_out {d : Nat} (hd : 12 ≤ d) {σ0 : am_M} {j s P A n : Nat} {p : Pg} {rk dp : Nat → Nat} {ow : Nat → Nat → Nat} (hB0 : MB σ0 j s P A p n dp ow) (hWT : WT p n rk dp ow) {od : Nat → Nat} (hn2 : σ0.1 2 j = nI n) (hod : ∀ a, a < n → σ0.1 9 (60 * j + a) = nI (od a) ∧ od a < n ∧ rk (od a) = a) (hrk : ∀ i, i < n → od (rk i) = i) {Q : am_Q} (hq : ∀ σ', KT σ0 σ' → (∀ i, i < n → ∀ w', w' < 3 ^ dp i → TB σ' p dp ow s P A i w') → Q none σ') : ∀ (mO a : Nat) (σ' : am_M) (v4 v5 v6 v7 v8 v9 : Option Value), a + mO = n → KT σ0 σ' → (∀ b, b < a → ∀ w', w' < 3 ^ dp (od b) → TB σ' p dp ow s P A (od b) w') → am_G d M_X10_lays Q 24 [some (.ref 0), some (.int (nI j)), some (.int (nI s)), some (.int (nI a)), v4, v5, v6, v7, v8, v9] [] σ'
  | 0, a, σ', v4, v5, v6, v7, v8, v9, hm, hk, hdn => by
    have hB := hk.MB hB0
    obtain ⟨hj, hS, hW, hs, hN, hdj, hP, hA⟩ := id hB
    obtain ⟨hS1, hS2, hS3, hS4⟩ := id hS
    have hn60 := hW.1
    refine am_run 5 (pc' := 33) (ls' := [some (.ref 0), some (.int (nI j)), some (.int (nI s)), some (.int (nI a)), v4, v5, v6, v7, v8, v9]) (st' := [.int (σ'.1 0 38), .ref 2, .int (nI a)]) (σ' := σ') rfl ?_
    refine am_top (v' := nI j) hS1 ?_
    refine am_ialdN (n := 3) (v := nI n) rfl rfl rfl (by omega) (by rw [hk.1 2 (by decide)]; exact hn2) (by decide) ?_
    refine am_ic (ty := 37) (tn := 172) rfl (by decide) rfl rfl (fun (h_1 : nI a < nI n) => ?_) (fun (h_1 : ¬ (nI a < nI n)) => ?_)
    · have h_1 : a < n := (nI_ltI (by omega) (by omega)).mp h_1
      omega
    have h_1 : ¬ (a < n) := fun z => h_1 ((nI_ltI (by omega) (by omega)).mpr z)
    refine am_retv rfl rfl ?_
    refine hq σ' hk (fun i hi w' hw' => ?_)
    have e := hrk i hi
    have e2 := (hWT i hi).2.2.2.2.2.2.1
    have := hdn (rk i) (by omega)
    rw [e] at this
    exact this w' hw'
  | mO + 1, a, σ', v4, v5, v6, v7, v8, v9, hm, hk, hdn => by
    have hB := hk.MB hB0
    obtain ⟨hj, hS, hW, hs, hN, hdj, hP, hA⟩ := id hB
    obtain ⟨hS1, hS2, hS3, hS4⟩ := id hS
    have hn60 := hW.1
    obtain ⟨ho1, ho2, ho3⟩ := hod a (by omega)
    have hdp := (hN (od a) ho2).2.1
    have hlow : ∀ c, c < n → rk c < rk (od a) → ∀ w', w' < 3 ^ dp c → TB σ' p dp ow s P A c w' := by
      intro c hc hr w' hw'
      have := hdn (rk c) (by omega)
      rw [hrk c hc] at this
      exact this w' hw'
    refine am_run 5 (pc' := 33) (ls' := [some (.ref 0), some (.int (nI j)), some (.int (nI s)), some (.int (nI a)), v4, v5, v6, v7, v8, v9]) (st' := [.int (σ'.1 0 38), .ref 2, .int (nI a)]) (σ' := σ') rfl ?_
    refine am_top (v' := nI j) hS1 ?_
    refine am_ialdN (n := 3) (v := nI n) rfl rfl rfl (by omega) (by rw [hk.1 2 (by decide)]; exact hn2) (by decide) ?_
    refine am_ic (ty := 37) (tn := 172) rfl (by decide) rfl rfl (fun (h_1 : nI a < nI n) => ?_) (fun (h_1 : ¬ (nI a < nI n)) => ?_)
    rotate_left
    · have h_1 : ¬ (a < n) := fun z => h_1 ((nI_ltI (by omega) (by omega)).mpr z)
      omega
    have h_1 : a < n := (nI_ltI (by omega) (by omega)).mp h_1
    refine am_run 4 (pc' := 45) (ls' := [some (.ref 0), some (.int (nI j)), some (.int (nI s)), some (.int (nI a)), v4, v5, v6, v7, v8, v9]) (st' := [.int (σ'.1 0 38), .ref 9]) (σ' := σ') rfl ?_
    refine am_top (v' := nI j) hS1 ?_
    refine am_run 1 (pc' := 46) (ls' := [some (.ref 0), some (.int (nI j)), some (.int (nI s)), some (.int (nI a)), v4, v5, v6, v7, v8, v9]) (st' := [.int (nI a), .int (nI j), .ref 9]) (σ' := σ') rfl ?_
    refine am_invs (y := 158) (as := [.int (nI j), .int (nI a)]) (rest := [.ref 9]) rfl rfl rfl rfl rfl rfl (Nat.le_of_ble_eq_true rfl) ?_
    refine c_m_placeOf (by omega) ?_
    show am_G _ M_X10_lays _ 49 [some (.ref 0), some (.int (nI j)), some (.int (nI s)), some (.int (nI a)), v4, v5, v6, v7, v8, v9] [.int (nI (60 * j + a)), .ref 9] σ'
    refine am_ialdN (n := 180) (v := nI (od a)) rfl rfl rfl (by omega) (by rw [hk.1 9 (by decide)]; exact (hod a (by omega)).1) (by decide) ?_
    refine am_run 3 (pc' := 56) (ls' := [some (.ref 0), some (.int (nI j)), some (.int (nI s)), some (.int (nI a)), some (.int (nI (od a))), v5, v6, v7, v8, v9]) (st' := [.int (σ'.1 0 38)]) (σ' := σ') rfl ?_
    refine am_top (v' := nI j) hS1 ?_
    refine am_run 1 (pc' := 58) (ls' := [some (.ref 0), some (.int (nI j)), some (.int (nI s)), some (.int (nI a)), some (.int (nI (od a))), v5, v6, v7, v8, v9]) (st' := [.int (nI (od a)), .int (nI j)]) (σ' := σ') rfl ?_
    refine am_invs (y := 158) (as := [.int (nI j), .int (nI (od a))]) (rest := []) rfl rfl rfl rfl rfl rfl (Nat.le_of_ble_eq_true rfl) ?_
    refine c_m_placeOf (by omega) ?_
    show am_G _ M_X10_lays _ 61 [some (.ref 0), some (.int (nI j)), some (.int (nI s)), some (.int (nI a)), some (.int (nI (od a))), v5, v6, v7, v8, v9] [.int (nI (60 * j + od a))] σ'
    refine am_run 4 (pc' := 69) (ls' := [some (.ref 0), some (.int (nI j)), some (.int (nI s)), some (.int (nI a)), some (.int (nI (od a))), some (.int (nI (60 * j + od a))), v6, v7, v8, v9]) (st' := [.int (nI (60 * j + od a)), .ref 10]) (σ' := σ') rfl ?_
    refine am_ialdN (n := 180) (v := nI (dp (od a))) rfl rfl rfl (by omega) (hN (od a) (hod a (by omega)).2.1).1.2.2.2.2.2.1 (by decide) ?_
    refine am_invs (y := 193) (as := [.int (nI (dp (od a)))]) (rest := []) rfl rfl rfl rfl rfl rfl (Nat.le_of_ble_eq_true rfl) ?_
    refine c_m_threeTo (by omega) (a := dp (od a)) hdp ?_
    show am_G _ M_X10_lays _ 73 [some (.ref 0), some (.int (nI j)), some (.int (nI s)), some (.int (nI a)), some (.int (nI (od a))), some (.int (nI (60 * j + od a))), v6, v7, v8, v9] [.int (nI (3 ^ dp (od a)))] σ'
    refine am_run 3 (pc' := 78) (ls' := [some (.ref 0), some (.int (nI j)), some (.int (nI s)), some (.int (nI a)), some (.int (nI (od a))), some (.int (nI (60 * j + od a))), some (.int (nI (3 ^ dp (od a)))), v7, v8, v9]) (st' := [.int (nI (od a)), .ref 0]) (σ' := σ') rfl ?_
    refine am_invv (y := 194) (b := 0) (as := [.int (nI (od a))]) (rest := []) rfl rfl rfl rfl rfl rfl rfl (Nat.le_of_ble_eq_true rfl) ?_
    refine c_m_isLiveN (by omega) hB (i := od a) ho2 (fun hl => ?_) (fun hl => ?_)
    · show am_G _ M_X10_lays _ 81 [some (.ref 0), some (.int (nI j)), some (.int (nI s)), some (.int (nI a)), some (.int (nI (od a))), some (.int (nI (60 * j + od a))), some (.int (nI (3 ^ dp (od a)))), v7, v8, v9] [.int (nI 1)] σ'
      refine am_run 3 (pc' := 86) (ls' := [some (.ref 0), some (.int (nI j)), some (.int (nI s)), some (.int (nI a)), some (.int (nI (od a))), some (.int (nI (60 * j + od a))), some (.int (nI (3 ^ dp (od a)))), some (.int (nI 1)), some (.int (nI 0)), v9]) (st' := []) (σ' := σ') rfl ?_
      refine c_lays_mid1 hd hB0 hWT ho2 hl (a := a) (fun σ2 v8 v9 hk2 hT2 hd2 => ?_) (3 ^ dp (od a)) 0 σ' _ (by omega) hk hlow (fun w' z => absurd z (Nat.not_lt_zero _))
      refine am_run 1 (pc' := 169) (ls' := [some (.ref 0), some (.int (nI j)), some (.int (nI s)), some (.int (nI a + nI 1)), some (.int (nI (od a))), some (.int (nI (60 * j + od a))), some (.int (nI (3 ^ dp (od a)))), some (.int (nI 1)), v8, v9]) (st' := []) (σ' := σ2) rfl ?_
      refine am_run 1 (pc' := 24) (ls' := [some (.ref 0), some (.int (nI j)), some (.int (nI s)), some (.int (nI a + nI 1)), some (.int (nI (od a))), some (.int (nI (60 * j + od a))), some (.int (nI (3 ^ dp (od a)))), some (.int (nI 1)), v8, v9]) (st' := []) (σ' := σ2) rfl ?_
      refine am_ls (ls' := [some (.ref 0), some (.int (nI j)), some (.int (nI s)), some (.int (nI (a + 1))), some (.int (nI (od a))), some (.int (nI (60 * j + od a))), some (.int (nI (3 ^ dp (od a)))), some (.int (nI 1)), v8, v9]) (by rw [nI_add]) ?_
      refine c_lays_out hd hB0 hWT hn2 hod hrk hq mO (a + 1) σ2 _ _ _ _ _ _ (by omega) hk2 (fun b hb w' hw' => ?_)
      by_cases e : b = a
      · subst e; exact hd2 w' hw'
      · have h1 := hod b (by omega)
        exact hT2 (od b) h1.2.1 (by rw [h1.2.2, ho3]; omega) w' hw'
    · show am_G _ M_X10_lays _ 81 [some (.ref 0), some (.int (nI j)), some (.int (nI s)), some (.int (nI a)), some (.int (nI (od a))), some (.int (nI (60 * j + od a))), some (.int (nI (3 ^ dp (od a)))), v7, v8, v9] [.int (nI 0)] σ'
      refine am_run 3 (pc' := 86) (ls' := [some (.ref 0), some (.int (nI j)), some (.int (nI s)), some (.int (nI a)), some (.int (nI (od a))), some (.int (nI (60 * j + od a))), some (.int (nI (3 ^ dp (od a)))), some (.int (nI 0)), some (.int (nI 0)), v9]) (st' := []) (σ' := σ') rfl ?_
      refine c_lays_mid0 hd hB0 hWT ho2 hl (a := a) (fun σ2 v8 v9 hk2 hT2 hd2 => ?_) (3 ^ dp (od a)) 0 σ' _ (by omega) hk hlow (fun w' z => absurd z (Nat.not_lt_zero _))
      refine am_run 1 (pc' := 169) (ls' := [some (.ref 0), some (.int (nI j)), some (.int (nI s)), some (.int (nI a + nI 1)), some (.int (nI (od a))), some (.int (nI (60 * j + od a))), some (.int (nI (3 ^ dp (od a)))), some (.int (nI 0)), v8, v9]) (st' := []) (σ' := σ2) rfl ?_
      refine am_run 1 (pc' := 24) (ls' := [some (.ref 0), some (.int (nI j)), some (.int (nI s)), some (.int (nI a + nI 1)), some (.int (nI (od a))), some (.int (nI (60 * j + od a))), some (.int (nI (3 ^ dp (od a)))), some (.int (nI 0)), v8, v9]) (st' := []) (σ' := σ2) rfl ?_
      refine am_ls (ls' := [some (.ref 0), some (.int (nI j)), some (.int (nI s)), some (.int (nI (a + 1))), some (.int (nI (od a))), some (.int (nI (60 * j + od a))), some (.int (nI (3 ^ dp (od a)))), some (.int (nI 0)), v8, v9]) (by rw [nI_add]) ?_
      refine c_lays_out hd hB0 hWT hn2 hod hrk hq mO (a + 1) σ2 _ _ _ _ _ _ (by omega) hk2 (fun b hb w' hw' => ?_)
      by_cases e : b = a
      · subst e; exact hd2 w' hw'
      · have h1 := hod b (by omega)
        exact hT2 (od b) h1.2.1 (by rw [h1.2.2, ho3]; omega) w' hw'
set_option maxRecDepth 10000 in
set_option maxHeartbeats 2000000 in
theorem c_lays {d : Nat} (hd : 14 ≤ d) {σ : am_M} {j s P A n : Nat} {p : Pg} {rk od dp : Nat → Nat} {ow : Nat → Nat → Nat} (hM : MP σ j p n rk od dp ow) (hs : s ≤ 1048576) (hI : ∀ g, g < 8 → σ.1 29 g = nI (sts (P, A) g)) (hdj : dj P A) (hP : P < 256) (hA : A < 256) {Q : am_Q} (hq : ∀ σ', KL σ σ' → MB σ' j s P A p n dp ow → (∀ i, i < n → ∀ w', w' < 3 ^ dp i → TB σ' p dp ow s P A i w') → Q none σ') : am_C d 209 [.ref 0, .int (nI j), .int (nI s)] σ Q := by
  obtain ⟨hj, hW, hWT, hn2, hod, hrk, hMN⟩ := hM
  refine am_enter' (M := M_X10_lays) rfl rfl rfl (by omega) (ls := [some (.ref 0), some (.int (nI j)), some (.int (nI s)), none, none, none, none, none, none, none]) rfl (fun d' hd' => ?_)
  refine am_run 10 (pc' := 18) (ls' := [some (.ref 0), some (.int (nI j)), some (.int (nI s)), none, none, none, none, none, none, none]) (st' := [.int (nI 1), .int (nI 6480), .ref 28]) (σ' := (am_wr (am_wr σ 0 38 (nI j)) 0 39 (nI s))) rfl ?_
  refine am_invs (y := 191) (as := [.int (nI 1)]) (rest := [.int (nI 6480), .ref 28]) rfl rfl rfl rfl rfl rfl (Nat.le_of_ble_eq_true rfl) ?_
  refine c_m_code (by omega) (k := 1) (by first | omega | decide | exact pow_lt_256 (by omega) | exact or_lt8 (by omega) (by omega) | exact or_lt7 (by omega) (by omega) | exact mx_lt (by omega) (by omega) | exact ct_lt (by omega) | exact or_lt7 (cl_lt (by omega)) (by omega) | exact cl_lt (by omega) | exact or_lt7 (cl_lt (by omega)) (tb_lt _)) ?_
  show am_G _ M_X10_lays _ 21 [some (.ref 0), some (.int (nI j)), some (.int (nI s)), none, none, none, none, none, none, none] [.int (nI (eM (r_cd 1))), .int (nI 6480), .ref 28] (am_wr (am_wr σ 0 38 (nI j)) 0 39 (nI s))
  refine am_iastN (n := 6481) rfl rfl rfl (by omega) (by decide) ?_
  refine am_run 2 (pc' := 24) (ls' := [some (.ref 0), some (.int (nI j)), some (.int (nI s)), some (.int (nI 0)), none, none, none, none, none, none]) (st' := []) (σ' := (am_wr (am_wr (am_wr σ 0 38 (nI j)) 0 39 (nI s)) 28 6480 (nI (eM (r_cd 1))))) rfl ?_
  have hB0 : MB (am_wr (am_wr (am_wr σ 0 38 (nI j)) 0 39 (nI s)) 28 6480 (nI (eM (r_cd 1)))) j s P A p n dp ow := by
    refine ⟨hj, ⟨?_, ?_, ?_, ?_⟩, hW, hs, ?_, hdj, hP, hA⟩
    · rw [am_wr_ne _ (by decide), am_diff _ _ _ _ _ (by decide), am_same]
    · rw [am_wr_ne _ (by decide), am_same]
    · intro g hg
      rw [am_wr_ne _ (by decide), am_wr_ne _ (by decide), am_wr_ne _ (by decide)]
      exact hI g hg
    · rw [am_same]
    · intro i hi
      obtain ⟨-, -, -, -, -, -, -, hdp, how⟩ := hWT i hi
      refine ⟨?_, hdp, how⟩
      have hc : ∀ c, c ≠ 0 → c ≠ 28 → (am_wr (am_wr (am_wr σ 0 38 (nI j)) 0 39 (nI s)) 28 6480 (nI (eM (r_cd 1)))).1 c = σ.1 c := fun c z1 z2 => by rw [am_wr_ne _ z2, am_wr_ne _ z1, am_wr_ne _ z1]
      unfold MN
      rw [hc 5 (by decide) (by decide), hc 6 (by decide) (by decide), hc 7 (by decide) (by decide), hc 8 (by decide) (by decide), hc 13 (by decide) (by decide), hc 10 (by decide) (by decide), hc 11 (by decide) (by decide)]
      exact hMN i hi
  refine c_lays_out (by omega) hB0 hWT (by rw [am_wr_ne _ (by decide), am_wr_ne _ (by decide), am_wr_ne _ (by decide)]; exact hn2) (fun a ha => by rw [am_wr_ne _ (by decide), am_wr_ne _ (by decide), am_wr_ne _ (by decide)]; exact hod a ha) hrk (fun σ2 hk2 hT2 => ?_) n 0 _ _ _ _ _ _ _ (by omega) (KT.rf _) (fun b z => absurd z (Nat.not_lt_zero _))
  refine hq σ2 ⟨fun c h1 h2 => ?_, fun k h1 h2 => ?_, ?_⟩ (hk2.MB hB0) hT2
  · rw [hk2.1 c h1, am_wr_ne _ h1, am_wr_ne _ h2, am_wr_ne _ h2]
  · rw [hk2.1 0 (by decide), am_wr_ne _ (by decide), am_diff _ _ _ _ _ h2, am_diff _ _ _ _ _ h1]
  · rw [hk2.2.1]; rfl

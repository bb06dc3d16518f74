theorem abt_or (r : R4) : r_abt r = r_or (r_cd 1) r := by
  show (0, r.2.1, 0, r.2.2.2 ||| 1) = (0, 0 ||| r.2.1, 0, 1 ||| r.2.2.2)
  rw [Nat.zero_or, Nat.or_comm 1]
theorem wy {w a h : Nat} (ha : a ≤ 2) (hw : w < 3 ^ a) (hh : h < 3) : w + h * 3 ^ a < 27 := by
  rcases (show a = 0 ∨ a = 1 ∨ a = 2 by omega) with rfl | rfl | rfl
  · have : w < 1 := hw
    show w + h * 1 < 27
    omega
  · have : w < 3 := hw
    show w + h * 3 < 27
    omega
  · have : w < 9 := hw
    show w + h * 9 < 27
    omega
theorem wy0 {w a : Nat} (ha : a ≤ 3) (hw : w < 3 ^ a) : w < 27 := by
  have : 3 ^ a ≤ 3 ^ 3 := Nat.pow_le_pow_right (by decide) ha
  omega
theorem loc_eq {F : Nat → Nat → Bool → Nat → Nat → R4} {x S : Nat} {u : Bool} {E : Nat × Nat} {g : Nat} : (if u = true ∧ (F x S u (cl E.1 g) (cl E.2 g)).1.testBit g = true then F x S true (cl E.1 g ||| 2 ^ g) (cl E.2 g) else if (F x S u (cl E.1 g) (cl E.2 g)).2.1.testBit g = false then F x S u (cl E.1 g) (cl E.2 g ||| 2 ^ g) else F x S u (cl E.1 g) (cl E.2 g)) = F x S u (up3 E g (lst (F x S u (cl E.1 g) (cl E.2 g)) u g)).1 (up3 E g (lst (F x S u (cl E.1 g) (cl E.2 g)) u g)).2 := by
  unfold lst
  by_cases c1 : u = true ∧ (F x S u (cl E.1 g) (cl E.2 g)).1.testBit g = true
  · rw [if_pos c1, if_pos c1, c1.1]
    rfl
  · rw [if_neg c1, if_neg c1]
    by_cases c2 : (F x S u (cl E.1 g) (cl E.2 g)).2.1.testBit g = false
    · rw [if_pos c2, if_pos c2]
      rfl
    · rw [if_neg c2, if_neg c2]
      rfl
theorem c_m_isAt3 {d : Nat} (hd : 1 ≤ d) {σ : am_M} {j s P A n : Nat} {p : Pg} {dp : Nat → Nat} {ow : Nat → Nat → Nat} (hB : MB σ j s P A p n dp ow) {i w g : Nat} {E : Nat × Nat} (hi : i < n) (hw : w < 27) (hg : g < 8) (hE : evn (ow i) w P A (dp i) = E) {Q : am_Q} (h1 : E.1.testBit g = true → E.2.testBit g = false → Q (some (.int (nI 1))) σ) (h2 : E.1.testBit g = false → E.2.testBit g = true → Q (some (.int (nI 2))) σ) (h0 : E.1.testBit g = false → E.2.testBit g = false → Q (some (.int (nI 0))) σ) : am_C d 192 [.ref 0, .int (nI (60 * j + i)), .int (nI w), .int (nI g)] σ Q := by
  refine c_m_isAt hd hB hi hw hg ?_
  have hdj : dj E.1 E.2 := by rw [← hE]; exact evn_dj hB.2.2.2.2.2.1 _
  rw [hE]
  unfold sts
  rcases bt (E.1.testBit g) with a | a
  · rw [if_pos a]
    rcases bt (E.2.testBit g) with b | b
    · exact absurd ⟨a, b⟩ (hdj g)
    · exact h1 a b
  · rw [if_neg (by rw [a]; decide)]
    rcases bt (E.2.testBit g) with b | b
    · rw [if_pos b]; exact h2 a b
    · rw [if_neg (by rw [b]; decide)]; exact h0 a b
set_option maxRecDepth 10000 in
set_option maxHeartbeats 2000000 in
theorem c_m_newWay0 {d : Nat} (hd : 3 ≤ d) {σ : am_M} {j s P A n : Nat} {p : Pg} {dp : Nat → Nat} {ow : Nat → Nat → Nat} (hB : MB σ j s P A p n dp ow) {i w : Nat} {E : Nat × Nat} (hi : i < n) (hw3 : w < 3 ^ dp i) (hE : evn (ow i) w P A (dp i) = E) (hg1 : 1 ≤ p 1 i) (hv : KD σ p (p 2 i) w 0 ST true (up3 E (p 1 i - 1) 0)) {Q : am_Q} (hq : ∀ h, lst (an p 61 (p 2 i) ST true (cl E.1 (p 1 i - 1)) (cl E.2 (p 1 i - 1))) true (p 1 i - 1) = h → h < 3 → Q (some (.int (nI h))) σ) : am_C d 201 [.ref 0, .int (nI (60 * j + i)), .int (nI w), .int (nI 0)] σ Q := by
  obtain ⟨hj, hS, hW, hs, hN, hdj, hP, hA⟩ := id hB
  obtain ⟨hS1, hS2, hS3, hS4⟩ := id hS
  obtain ⟨⟨m0, m1, m2, m3, m4, m5, m6⟩, hdp, how⟩ := hN i hi
  obtain ⟨w0, w1, w2, w3, w4, w5, w6⟩ := hW.2 i hi
  have hn60 := hW.1
  have hw := wy0 hdp hw3
  refine am_enter' (M := M_X10_newWay) rfl rfl rfl (by omega) (ls := [some (.ref 0), some (.int (nI (60 * j + i))), some (.int (nI w)), some (.int (nI 0)), none, none]) rfl (fun d' hd' => ?_)
  refine am_run 4 (pc' := 6) (ls' := [some (.ref 0), some (.int (nI (60 * j + i))), some (.int (nI w)), some (.int (nI 0)), none, none]) (st' := [.int (nI (60 * j + i)), .ref 7, .ref 0]) (σ' := σ) rfl ?_
  refine am_ialdN (n := 180) (v := oI (p 2 i)) rfl rfl rfl (by omega) m2 (by decide) ?_
  refine am_run 2 (pc' := 9) (ls' := [some (.ref 0), some (.int (nI (60 * j + i))), some (.int (nI w)), some (.int (nI 0)), none, none]) (st' := [.int (nI 0), .int (nI w), .int (oI (p 2 i)), .ref 0]) (σ' := σ) rfl ?_
  refine am_invv (y := 190) (b := 0) (as := [.int (oI (p 2 i)), .int (nI w), .int (nI 0)]) (rest := []) rfl rfl rfl rfl rfl rfl rfl (Nat.le_of_ble_eq_true rfl) ?_
  refine c_m_laid (by omega) hB w2 hw (by decide) hv (fun r9 hr9 ok9 iv9 => ?_)
  obtain ⟨c1, c2, c3, c4⟩ := id ok9
  replace hr9 : an p 61 (p 2 i) ST true (cl E.1 (p 1 i - 1)) (cl E.2 (p 1 i - 1)) = r9 := hr9
  rw [hr9] at hq
  show am_G _ M_X10_newWay _ 12 [some (.ref 0), some (.int (nI (60 * j + i))), some (.int (nI w)), some (.int (nI 0)), none, none] [.int (nI (eM r9))] σ
  refine am_run 4 (pc' := 19) (ls' := [some (.ref 0), some (.int (nI (60 * j + i))), some (.int (nI w)), some (.int (nI 0)), some (.int (nI (eM r9))), none]) (st' := [.int (nI (60 * j + i)), .ref 6]) (σ' := σ) rfl ?_
  refine am_ialdN (n := 180) (v := oI (p 1 i)) rfl rfl rfl (by omega) m1 (by decide) ?_
  refine am_top (v' := nI (p 1 i - 1)) (oI_p hg1) ?_
  refine am_run 4 (pc' := 25) (ls' := [some (.ref 0), some (.int (nI (60 * j + i))), some (.int (nI w)), some (.int (nI 0)), some (.int (nI (eM r9))), some (.int (nI (p 1 i - 1)))]) (st' := [.int ((nI 0) - (nI 0) / (nI 2) * (nI 2))]) (σ' := σ) rfl ?_
  refine am_top (v' := nI 0) (by decide) ?_
  refine am_if (ty := 28) (tn := 43) rfl (by decide) rfl rfl (fun (h_1 : nI 0 = 0) => ?_) (fun (h_1 : ¬ (nI 0 = 0)) => ?_)
  rotate_left
  · exact absurd (by decide) h_1
  refine am_run 1 (pc' := 30) (ls' := [some (.ref 0), some (.int (nI (60 * j + i))), some (.int (nI w)), some (.int (nI 0)), some (.int (nI (eM r9))), some (.int (nI (p 1 i - 1)))]) (st' := [.int (nI (eM r9))]) (σ' := σ) rfl ?_
  refine am_invs (y := 185) (as := [.int (nI (eM r9))]) (rest := []) rfl rfl rfl rfl rfl rfl (Nat.le_of_ble_eq_true rfl) ?_
  refine c_m_must (by omega) (r := r9) ok9 ?_
  show am_G _ M_X10_newWay _ 33 [some (.ref 0), some (.int (nI (60 * j + i))), some (.int (nI w)), some (.int (nI 0)), some (.int (nI (eM r9))), some (.int (nI (p 1 i - 1)))] [.int (nI r9.1)] σ
  refine am_run 1 (pc' := 35) (ls' := [some (.ref 0), some (.int (nI (60 * j + i))), some (.int (nI w)), some (.int (nI 0)), some (.int (nI (eM r9))), some (.int (nI (p 1 i - 1)))]) (st' := [.int (nI (p 1 i - 1)), .int (nI r9.1)]) (σ' := σ) rfl ?_
  refine am_invs (y := 149) (as := [.int (nI r9.1), .int (nI (p 1 i - 1))]) (rest := []) rfl rfl rfl rfl rfl rfl (Nat.le_of_ble_eq_true rfl) ?_
  refine c_m_has (by omega) (a := r9.1) (s := p 1 i - 1) (by omega) (by omega) (fun hb_2 => ?_) (fun hb_2 => ?_)
  · show am_G _ M_X10_newWay _ 38 [some (.ref 0), some (.int (nI (60 * j + i))), some (.int (nI w)), some (.int (nI 0)), some (.int (nI (eM r9))), some (.int (nI (p 1 i - 1)))] [.int (nI 1)] σ
    refine am_if (ty := 43) (tn := 41) rfl (by decide) rfl rfl (fun (h_3 : nI 1 = 0) => ?_) (fun (h_3 : ¬ (nI 1 = 0)) => ?_)
    · exact absurd h_3 (by decide)
    refine am_run 1 (pc' := 42) (ls' := [some (.ref 0), some (.int (nI (60 * j + i))), some (.int (nI w)), some (.int (nI 0)), some (.int (nI (eM r9))), some (.int (nI (p 1 i - 1)))]) (st' := [.int (nI 1)]) (σ' := σ) rfl ?_
    refine am_reti rfl rfl ?_
    exact hq 1 (by unfold lst; simp only [*, if_true, if_false, ne_eq, not_false_eq_true, not_true_eq_false, true_or, false_or, or_false, or_true, or_self, and_true, true_and, and_false, false_and, and_self, Bool.false_eq_true, Bool.true_eq_false, reduceIte, Bool.and_true, Bool.and_false, Bool.true_and, Bool.false_and]) (by decide)
  · show am_G _ M_X10_newWay _ 38 [some (.ref 0), some (.int (nI (60 * j + i))), some (.int (nI w)), some (.int (nI 0)), some (.int (nI (eM r9))), some (.int (nI (p 1 i - 1)))] [.int (nI 0)] σ
    refine am_if (ty := 43) (tn := 41) rfl (by decide) rfl rfl (fun (h_4 : nI 0 = 0) => ?_) (fun (h_4 : ¬ (nI 0 = 0)) => ?_)
    rotate_left
    · exact absurd (by decide) h_4
    refine am_run 1 (pc' := 45) (ls' := [some (.ref 0), some (.int (nI (60 * j + i))), some (.int (nI w)), some (.int (nI 0)), some (.int (nI (eM r9))), some (.int (nI (p 1 i - 1)))]) (st' := [.int (nI (eM r9))]) (σ' := σ) rfl ?_
    refine am_invs (y := 186) (as := [.int (nI (eM r9))]) (rest := []) rfl rfl rfl rfl rfl rfl (Nat.le_of_ble_eq_true rfl) ?_
    refine c_m_can (by omega) (r := r9) ok9 ?_
    show am_G _ M_X10_newWay _ 48 [some (.ref 0), some (.int (nI (60 * j + i))), some (.int (nI w)), some (.int (nI 0)), some (.int (nI (eM r9))), some (.int (nI (p 1 i - 1)))] [.int (nI r9.2.1)] σ
    refine am_run 1 (pc' := 50) (ls' := [some (.ref 0), some (.int (nI (60 * j + i))), some (.int (nI w)), some (.int (nI 0)), some (.int (nI (eM r9))), some (.int (nI (p 1 i - 1)))]) (st' := [.int (nI (p 1 i - 1)), .int (nI r9.2.1)]) (σ' := σ) rfl ?_
    refine am_invs (y := 149) (as := [.int (nI r9.2.1), .int (nI (p 1 i - 1))]) (rest := []) rfl rfl rfl rfl rfl rfl (Nat.le_of_ble_eq_true rfl) ?_
    refine c_m_has (by omega) (a := r9.2.1) (s := p 1 i - 1) (by omega) (by omega) (fun hb_5 => ?_) (fun hb_5 => ?_)
    · show am_G _ M_X10_newWay _ 53 [some (.ref 0), some (.int (nI (60 * j + i))), some (.int (nI w)), some (.int (nI 0)), some (.int (nI (eM r9))), some (.int (nI (p 1 i - 1)))] [.int (nI 1)] σ
      refine am_if (ty := 60) (tn := 56) rfl (by decide) rfl rfl (fun (h_6 : nI 1 = 0) => ?_) (fun (h_6 : ¬ (nI 1 = 0)) => ?_)
      · exact absurd h_6 (by decide)
      refine am_run 2 (pc' := 61) (ls' := [some (.ref 0), some (.int (nI (60 * j + i))), some (.int (nI w)), some (.int (nI 0)), some (.int (nI (eM r9))), some (.int (nI (p 1 i - 1)))]) (st' := [.int (nI 0)]) (σ' := σ) rfl ?_
      refine am_reti rfl rfl ?_
      exact hq 0 (by unfold lst; simp only [*, if_true, if_false, ne_eq, not_false_eq_true, not_true_eq_false, true_or, false_or, or_false, or_true, or_self, and_true, true_and, and_false, false_and, and_self, Bool.false_eq_true, Bool.true_eq_false, reduceIte, Bool.and_true, Bool.and_false, Bool.true_and, Bool.false_and]) (by decide)
    · show am_G _ M_X10_newWay _ 53 [some (.ref 0), some (.int (nI (60 * j + i))), some (.int (nI w)), some (.int (nI 0)), some (.int (nI (eM r9))), some (.int (nI (p 1 i - 1)))] [.int (nI 0)] σ
      refine am_if (ty := 60) (tn := 56) rfl (by decide) rfl rfl (fun (h_7 : nI 0 = 0) => ?_) (fun (h_7 : ¬ (nI 0 = 0)) => ?_)
      rotate_left
      · exact absurd (by decide) h_7
      refine am_run 1 (pc' := 61) (ls' := [some (.ref 0), some (.int (nI (60 * j + i))), some (.int (nI w)), some (.int (nI 0)), some (.int (nI (eM r9))), some (.int (nI (p 1 i - 1)))]) (st' := [.int (nI 2)]) (σ' := σ) rfl ?_
      refine am_reti rfl rfl ?_
      exact hq 2 (by unfold lst; simp only [*, if_true, if_false, ne_eq, not_false_eq_true, not_true_eq_false, true_or, false_or, or_false, or_true, or_self, and_true, true_and, and_false, false_and, and_self, Bool.false_eq_true, Bool.true_eq_false, reduceIte, Bool.and_true, Bool.and_false, Bool.true_and, Bool.false_and]) (by decide)
set_option maxRecDepth 10000 in
set_option maxHeartbeats 2000000 in
theorem c_m_newLaid0 {d : Nat} (hd : 4 ≤ d) {σ : am_M} {j s P A n : Nat} {p : Pg} {dp : Nat → Nat} {ow : Nat → Nat → Nat} (hB : MB σ j s P A p n dp ow) {i w : Nat} {E : Nat × Nat} (hi : i < n) (hw3 : w < 3 ^ dp i) (hE : evn (ow i) w P A (dp i) = E) (ht : p 0 i = 36) (hdp2 : dp i ≤ 2) (hv : ∀ h, h < 3 → KD σ p (p 2 i) (w + h * 3 ^ dp i) 0 ST true (up3 E (p 1 i - 1) h)) {Q : am_Q} (hq : Q (some (.int (nI (eM (anB p (an p 61) i ST true E.1 E.2))))) σ) : am_C d 202 [.ref 0, .int (nI (60 * j + i)), .int (nI w), .int (nI 0)] σ Q := by
  obtain ⟨hj, hS, hW, hs, hN, hdj, hP, hA⟩ := id hB
  obtain ⟨hS1, hS2, hS3, hS4⟩ := id hS
  obtain ⟨⟨m0, m1, m2, m3, m4, m5, m6⟩, hdp, how⟩ := hN i hi
  obtain ⟨w0, w1, w2, w3, w4, w5, w6⟩ := hW.2 i hi
  have hn60 := hW.1
  have hw := wy0 hdp hw3
  have hg1 : 1 ≤ p 1 i := w5 (by rw [ht]; decide)
  refine am_enter' (M := M_X10_newLaid) rfl rfl rfl (by omega) (ls := [some (.ref 0), some (.int (nI (60 * j + i))), some (.int (nI w)), some (.int (nI 0)), none]) rfl (fun d' hd' => ?_)
  refine am_run 4 (pc' := 4) (ls' := [some (.ref 0), some (.int (nI (60 * j + i))), some (.int (nI w)), some (.int (nI 0)), none]) (st' := [.int (nI 0), .int (nI w), .int (nI (60 * j + i)), .ref 0]) (σ' := σ) rfl ?_
  refine am_invv (y := 201) (b := 0) (as := [.int (nI (60 * j + i)), .int (nI w), .int (nI 0)]) (rest := []) rfl rfl rfl rfl rfl rfl rfl (Nat.le_of_ble_eq_true rfl) ?_
  refine c_m_newWay0 (by omega) hB hi hw3 hE hg1 (by have := hv 0 (by decide); rw [Nat.zero_mul, Nat.add_zero] at this; exact this) (fun h hh hlt => ?_)
  show am_G _ M_X10_newLaid _ 7 [some (.ref 0), some (.int (nI (60 * j + i))), some (.int (nI w)), some (.int (nI 0)), none] [.int (nI h)] σ
  refine am_run 5 (pc' := 15) (ls' := [some (.ref 0), some (.int (nI (60 * j + i))), some (.int (nI w)), some (.int (nI 0)), some (.int (nI h))]) (st' := [.int (nI (60 * j + i)), .ref 7, .ref 0]) (σ' := σ) rfl ?_
  refine am_ialdN (n := 180) (v := oI (p 2 i)) rfl rfl rfl (by omega) m2 (by decide) ?_
  refine am_run 5 (pc' := 24) (ls' := [some (.ref 0), some (.int (nI (60 * j + i))), some (.int (nI w)), some (.int (nI 0)), some (.int (nI h))]) (st' := [.int (nI (60 * j + i)), .ref 10, .int (nI h), .int (nI w), .int (oI (p 2 i)), .ref 0]) (σ' := σ) rfl ?_
  refine am_ialdN (n := 180) (v := nI (dp i)) rfl rfl rfl (by omega) m5 (by decide) ?_
  refine am_invs (y := 193) (as := [.int (nI (dp i))]) (rest := [.int (nI h), .int (nI w), .int (oI (p 2 i)), .ref 0]) rfl rfl rfl rfl rfl rfl (Nat.le_of_ble_eq_true rfl) ?_
  refine c_m_threeTo (by omega) (a := dp i) hdp ?_
  show am_G _ M_X10_newLaid _ 28 [some (.ref 0), some (.int (nI (60 * j + i))), some (.int (nI w)), some (.int (nI 0)), some (.int (nI h))] [.int (nI (3 ^ dp i)), .int (nI h), .int (nI w), .int (oI (p 2 i)), .ref 0] σ
  refine am_run 1 (pc' := 29) (ls' := [some (.ref 0), some (.int (nI (60 * j + i))), some (.int (nI w)), some (.int (nI 0)), some (.int (nI h))]) (st' := [.int (nI h * nI (3 ^ dp i)), .int (nI w), .int (oI (p 2 i)), .ref 0]) (σ' := σ) rfl ?_
  refine am_top (v' := nI (h * (3 ^ dp i))) (am_nmul _ _) ?_
  refine am_run 1 (pc' := 30) (ls' := [some (.ref 0), some (.int (nI (60 * j + i))), some (.int (nI w)), some (.int (nI 0)), some (.int (nI h))]) (st' := [.int (nI w + nI (h * (3 ^ dp i))), .int (oI (p 2 i)), .ref 0]) (σ' := σ) rfl ?_
  refine am_top (v' := nI (w + (h * (3 ^ dp i)))) (nI_add _ _) ?_
  refine am_run 1 (pc' := 31) (ls' := [some (.ref 0), some (.int (nI (60 * j + i))), some (.int (nI w)), some (.int (nI 0)), some (.int (nI h))]) (st' := [.int (nI 0), .int (nI (w + (h * (3 ^ dp i)))), .int (oI (p 2 i)), .ref 0]) (σ' := σ) rfl ?_
  refine am_invv (y := 190) (b := 0) (as := [.int (oI (p 2 i)), .int (nI (w + (h * (3 ^ dp i)))), .int (nI 0)]) (rest := []) rfl rfl rfl rfl rfl rfl rfl (Nat.le_of_ble_eq_true rfl) ?_
  refine c_m_laid (by omega) hB w2 (wy hdp2 hw3 hlt) (by decide) (hv h hlt) (fun r9 hr9 ok9 iv9 => ?_)
  show am_G _ M_X10_newLaid _ 34 [some (.ref 0), some (.int (nI (60 * j + i))), some (.int (nI w)), some (.int (nI 0)), some (.int (nI h))] [.int (nI (eM r9))] σ
  refine am_run 3 (pc' := 39) (ls' := [some (.ref 0), some (.int (nI (60 * j + i))), some (.int (nI w)), some (.int (nI 0)), some (.int (nI h))]) (st' := [.int (nI (60 * j + i)), .ref 6, .int (nI (eM r9))]) (σ' := σ) rfl ?_
  refine am_ialdN (n := 180) (v := oI (p 1 i)) rfl rfl rfl (by omega) m1 (by decide) ?_
  refine am_top (v' := nI (p 1 i - 1)) (oI_p hg1) ?_
  refine am_invs (y := 200) (as := [.int (nI (eM r9)), .int (nI (p 1 i - 1))]) (rest := []) rfl rfl rfl rfl rfl rfl (Nat.le_of_ble_eq_true rfl) ?_
  refine c_m_without (by omega) (r := r9) (g := p 1 i - 1) ok9 (by omega) ?_
  show am_G _ M_X10_newLaid _ 43 [some (.ref 0), some (.int (nI (60 * j + i))), some (.int (nI w)), some (.int (nI 0)), some (.int (nI h))] [.int (nI (eM (r_hide r9 (p 1 i - 1))))] σ
  refine am_reti rfl rfl ?_
  have e : anB p (an p 61) i ST true E.1 E.2 = (r_hide r9 (p 1 i - 1)) := by
    rw [anB_36 ht, loc_eq, hh, hr9]
  rw [e] at hq
  exact hq
set_option maxRecDepth 10000 in
set_option maxHeartbeats 2000000 in
theorem c_m_newWay1 {d : Nat} (hd : 3 ≤ d) {σ : am_M} {j s P A n : Nat} {p : Pg} {dp : Nat → Nat} {ow : Nat → Nat → Nat} (hB : MB σ j s P A p n dp ow) {i w : Nat} {E : Nat × Nat} (hi : i < n) (hw3 : w < 3 ^ dp i) (hE : evn (ow i) w P A (dp i) = E) (hg1 : 1 ≤ p 1 i) (hv : KD σ p (p 2 i) w 1 ST false (up3 E (p 1 i - 1) 0)) {Q : am_Q} (hq : ∀ h, lst (an p 61 (p 2 i) ST false (cl E.1 (p 1 i - 1)) (cl E.2 (p 1 i - 1))) false (p 1 i - 1) = h → h < 3 → Q (some (.int (nI h))) σ) : am_C d 201 [.ref 0, .int (nI (60 * j + i)), .int (nI w), .int (nI 1)] σ Q := by
  obtain ⟨hj, hS, hW, hs, hN, hdj, hP, hA⟩ := id hB
  obtain ⟨hS1, hS2, hS3, hS4⟩ := id hS
  obtain ⟨⟨m0, m1, m2, m3, m4, m5, m6⟩, hdp, how⟩ := hN i hi
  obtain ⟨w0, w1, w2, w3, w4, w5, w6⟩ := hW.2 i hi
  have hn60 := hW.1
  have hw := wy0 hdp hw3
  refine am_enter' (M := M_X10_newWay) rfl rfl rfl (by omega) (ls := [some (.ref 0), some (.int (nI (60 * j + i))), some (.int (nI w)), some (.int (nI 1)), none, none]) rfl (fun d' hd' => ?_)
  refine am_run 4 (pc' := 6) (ls' := [some (.ref 0), some (.int (nI (60 * j + i))), some (.int (nI w)), some (.int (nI 1)), none, none]) (st' := [.int (nI (60 * j + i)), .ref 7, .ref 0]) (σ' := σ) rfl ?_
  refine am_ialdN (n := 180) (v := oI (p 2 i)) rfl rfl rfl (by omega) m2 (by decide) ?_
  refine am_run 2 (pc' := 9) (ls' := [some (.ref 0), some (.int (nI (60 * j + i))), some (.int (nI w)), some (.int (nI 1)), none, none]) (st' := [.int (nI 1), .int (nI w), .int (oI (p 2 i)), .ref 0]) (σ' := σ) rfl ?_
  refine am_invv (y := 190) (b := 0) (as := [.int (oI (p 2 i)), .int (nI w), .int (nI 1)]) (rest := []) rfl rfl rfl rfl rfl rfl rfl (Nat.le_of_ble_eq_true rfl) ?_
  refine c_m_laid (by omega) hB w2 hw (by decide) hv (fun r9 hr9 ok9 iv9 => ?_)
  obtain ⟨c1, c2, c3, c4⟩ := id ok9
  replace hr9 : an p 61 (p 2 i) ST false (cl E.1 (p 1 i - 1)) (cl E.2 (p 1 i - 1)) = r9 := hr9
  rw [hr9] at hq
  show am_G _ M_X10_newWay _ 12 [some (.ref 0), some (.int (nI (60 * j + i))), some (.int (nI w)), some (.int (nI 1)), none, none] [.int (nI (eM r9))] σ
  refine am_run 4 (pc' := 19) (ls' := [some (.ref 0), some (.int (nI (60 * j + i))), some (.int (nI w)), some (.int (nI 1)), some (.int (nI (eM r9))), none]) (st' := [.int (nI (60 * j + i)), .ref 6]) (σ' := σ) rfl ?_
  refine am_ialdN (n := 180) (v := oI (p 1 i)) rfl rfl rfl (by omega) m1 (by decide) ?_
  refine am_top (v' := nI (p 1 i - 1)) (oI_p hg1) ?_
  refine am_run 4 (pc' := 25) (ls' := [some (.ref 0), some (.int (nI (60 * j + i))), some (.int (nI w)), some (.int (nI 1)), some (.int (nI (eM r9))), some (.int (nI (p 1 i - 1)))]) (st' := [.int ((nI 1) - (nI 1) / (nI 2) * (nI 2))]) (σ' := σ) rfl ?_
  refine am_top (v' := nI 1) (by decide) ?_
  refine am_if (ty := 28) (tn := 43) rfl (by decide) rfl rfl (fun (h_1 : nI 1 = 0) => ?_) (fun (h_1 : ¬ (nI 1 = 0)) => ?_)
  · exact absurd h_1 (by decide)
  refine am_run 1 (pc' := 45) (ls' := [some (.ref 0), some (.int (nI (60 * j + i))), some (.int (nI w)), some (.int (nI 1)), some (.int (nI (eM r9))), some (.int (nI (p 1 i - 1)))]) (st' := [.int (nI (eM r9))]) (σ' := σ) rfl ?_
  refine am_invs (y := 186) (as := [.int (nI (eM r9))]) (rest := []) rfl rfl rfl rfl rfl rfl (Nat.le_of_ble_eq_true rfl) ?_
  refine c_m_can (by omega) (r := r9) ok9 ?_
  show am_G _ M_X10_newWay _ 48 [some (.ref 0), some (.int (nI (60 * j + i))), some (.int (nI w)), some (.int (nI 1)), some (.int (nI (eM r9))), some (.int (nI (p 1 i - 1)))] [.int (nI r9.2.1)] σ
  refine am_run 1 (pc' := 50) (ls' := [some (.ref 0), some (.int (nI (60 * j + i))), some (.int (nI w)), some (.int (nI 1)), some (.int (nI (eM r9))), some (.int (nI (p 1 i - 1)))]) (st' := [.int (nI (p 1 i - 1)), .int (nI r9.2.1)]) (σ' := σ) rfl ?_
  refine am_invs (y := 149) (as := [.int (nI r9.2.1), .int (nI (p 1 i - 1))]) (rest := []) rfl rfl rfl rfl rfl rfl (Nat.le_of_ble_eq_true rfl) ?_
  refine c_m_has (by omega) (a := r9.2.1) (s := p 1 i - 1) (by omega) (by omega) (fun hb_2 => ?_) (fun hb_2 => ?_)
  · show am_G _ M_X10_newWay _ 53 [some (.ref 0), some (.int (nI (60 * j + i))), some (.int (nI w)), some (.int (nI 1)), some (.int (nI (eM r9))), some (.int (nI (p 1 i - 1)))] [.int (nI 1)] σ
    refine am_if (ty := 60) (tn := 56) rfl (by decide) rfl rfl (fun (h_3 : nI 1 = 0) => ?_) (fun (h_3 : ¬ (nI 1 = 0)) => ?_)
    · exact absurd h_3 (by decide)
    refine am_run 2 (pc' := 61) (ls' := [some (.ref 0), some (.int (nI (60 * j + i))), some (.int (nI w)), some (.int (nI 1)), some (.int (nI (eM r9))), some (.int (nI (p 1 i - 1)))]) (st' := [.int (nI 0)]) (σ' := σ) rfl ?_
    refine am_reti rfl rfl ?_
    exact hq 0 (by unfold lst; simp only [*, if_true, if_false, ne_eq, not_false_eq_true, not_true_eq_false, true_or, false_or, or_false, or_true, or_self, and_true, true_and, and_false, false_and, and_self, Bool.false_eq_true, Bool.true_eq_false, reduceIte, Bool.and_true, Bool.and_false, Bool.true_and, Bool.false_and]) (by decide)
  · show am_G _ M_X10_newWay _ 53 [some (.ref 0), some (.int (nI (60 * j + i))), some (.int (nI w)), some (.int (nI 1)), some (.int (nI (eM r9))), some (.int (nI (p 1 i - 1)))] [.int (nI 0)] σ
    refine am_if (ty := 60) (tn := 56) rfl (by decide) rfl rfl (fun (h_4 : nI 0 = 0) => ?_) (fun (h_4 : ¬ (nI 0 = 0)) => ?_)
    rotate_left
    · exact absurd (by decide) h_4
    refine am_run 1 (pc' := 61) (ls' := [some (.ref 0), some (.int (nI (60 * j + i))), some (.int (nI w)), some (.int (nI 1)), some (.int (nI (eM r9))), some (.int (nI (p 1 i - 1)))]) (st' := [.int (nI 2)]) (σ' := σ) rfl ?_
    refine am_reti rfl rfl ?_
    exact hq 2 (by unfold lst; simp only [*, if_true, if_false, ne_eq, not_false_eq_true, not_true_eq_false, true_or, false_or, or_false, or_true, or_self, and_true, true_and, and_false, false_and, and_self, Bool.false_eq_true, Bool.true_eq_false, reduceIte, Bool.and_true, Bool.and_false, Bool.true_and, Bool.false_and]) (by decide)
set_option maxRecDepth 10000 in
set_option maxHeartbeats 2000000 in
theorem c_m_newLaid1 {d : Nat} (hd : 4 ≤ d) {σ : am_M} {j s P A n : Nat} {p : Pg} {dp : Nat → Nat} {ow : Nat → Nat → Nat} (hB : MB σ j s P A p n dp ow) {i w : Nat} {E : Nat × Nat} (hi : i < n) (hw3 : w < 3 ^ dp i) (hE : evn (ow i) w P A (dp i) = E) (ht : p 0 i = 36) (hdp2 : dp i ≤ 2) (hv : ∀ h, h < 3 → KD σ p (p 2 i) (w + h * 3 ^ dp i) 1 ST false (up3 E (p 1 i - 1) h)) {Q : am_Q} (hq : Q (some (.int (nI (eM (anB p (an p 61) i ST false E.1 E.2))))) σ) : am_C d 202 [.ref 0, .int (nI (60 * j + i)), .int (nI w), .int (nI 1)] σ Q := by
  obtain ⟨hj, hS, hW, hs, hN, hdj, hP, hA⟩ := id hB
  obtain ⟨hS1, hS2, hS3, hS4⟩ := id hS
  obtain ⟨⟨m0, m1, m2, m3, m4, m5, m6⟩, hdp, how⟩ := hN i hi
  obtain ⟨w0, w1, w2, w3, w4, w5, w6⟩ := hW.2 i hi
  have hn60 := hW.1
  have hw := wy0 hdp hw3
  have hg1 : 1 ≤ p 1 i := w5 (by rw [ht]; decide)
  refine am_enter' (M := M_X10_newLaid) rfl rfl rfl (by omega) (ls := [some (.ref 0), some (.int (nI (60 * j + i))), some (.int (nI w)), some (.int (nI 1)), none]) rfl (fun d' hd' => ?_)
  refine am_run 4 (pc' := 4) (ls' := [some (.ref 0), some (.int (nI (60 * j + i))), some (.int (nI w)), some (.int (nI 1)), none]) (st' := [.int (nI 1), .int (nI w), .int (nI (60 * j + i)), .ref 0]) (σ' := σ) rfl ?_
  refine am_invv (y := 201) (b := 0) (as := [.int (nI (60 * j + i)), .int (nI w), .int (nI 1)]) (rest := []) rfl rfl rfl rfl rfl rfl rfl (Nat.le_of_ble_eq_true rfl) ?_
  refine c_m_newWay1 (by omega) hB hi hw3 hE hg1 (by have := hv 0 (by decide); rw [Nat.zero_mul, Nat.add_zero] at this; exact this) (fun h hh hlt => ?_)
  show am_G _ M_X10_newLaid _ 7 [some (.ref 0), some (.int (nI (60 * j + i))), some (.int (nI w)), some (.int (nI 1)), none] [.int (nI h)] σ
  refine am_run 5 (pc' := 15) (ls' := [some (.ref 0), some (.int (nI (60 * j + i))), some (.int (nI w)), some (.int (nI 1)), some (.int (nI h))]) (st' := [.int (nI (60 * j + i)), .ref 7, .ref 0]) (σ' := σ) rfl ?_
  refine am_ialdN (n := 180) (v := oI (p 2 i)) rfl rfl rfl (by omega) m2 (by decide) ?_
  refine am_run 5 (pc' := 24) (ls' := [some (.ref 0), some (.int (nI (60 * j + i))), some (.int (nI w)), some (.int (nI 1)), some (.int (nI h))]) (st' := [.int (nI (60 * j + i)), .ref 10, .int (nI h), .int (nI w), .int (oI (p 2 i)), .ref 0]) (σ' := σ) rfl ?_
  refine am_ialdN (n := 180) (v := nI (dp i)) rfl rfl rfl (by omega) m5 (by decide) ?_
  refine am_invs (y := 193) (as := [.int (nI (dp i))]) (rest := [.int (nI h), .int (nI w), .int (oI (p 2 i)), .ref 0]) rfl rfl rfl rfl rfl rfl (Nat.le_of_ble_eq_true rfl) ?_
  refine c_m_threeTo (by omega) (a := dp i) hdp ?_
  show am_G _ M_X10_newLaid _ 28 [some (.ref 0), some (.int (nI (60 * j + i))), some (.int (nI w)), some (.int (nI 1)), some (.int (nI h))] [.int (nI (3 ^ dp i)), .int (nI h), .int (nI w), .int (oI (p 2 i)), .ref 0] σ
  refine am_run 1 (pc' := 29) (ls' := [some (.ref 0), some (.int (nI (60 * j + i))), some (.int (nI w)), some (.int (nI 1)), some (.int (nI h))]) (st' := [.int (nI h * nI (3 ^ dp i)), .int (nI w), .int (oI (p 2 i)), .ref 0]) (σ' := σ) rfl ?_
  refine am_top (v' := nI (h * (3 ^ dp i))) (am_nmul _ _) ?_
  refine am_run 1 (pc' := 30) (ls' := [some (.ref 0), some (.int (nI (60 * j + i))), some (.int (nI w)), some (.int (nI 1)), some (.int (nI h))]) (st' := [.int (nI w + nI (h * (3 ^ dp i))), .int (oI (p 2 i)), .ref 0]) (σ' := σ) rfl ?_
  refine am_top (v' := nI (w + (h * (3 ^ dp i)))) (nI_add _ _) ?_
  refine am_run 1 (pc' := 31) (ls' := [some (.ref 0), some (.int (nI (60 * j + i))), some (.int (nI w)), some (.int (nI 1)), some (.int (nI h))]) (st' := [.int (nI 1), .int (nI (w + (h * (3 ^ dp i)))), .int (oI (p 2 i)), .ref 0]) (σ' := σ) rfl ?_
  refine am_invv (y := 190) (b := 0) (as := [.int (oI (p 2 i)), .int (nI (w + (h * (3 ^ dp i)))), .int (nI 1)]) (rest := []) rfl rfl rfl rfl rfl rfl rfl (Nat.le_of_ble_eq_true rfl) ?_
  refine c_m_laid (by omega) hB w2 (wy hdp2 hw3 hlt) (by decide) (hv h hlt) (fun r9 hr9 ok9 iv9 => ?_)
  show am_G _ M_X10_newLaid _ 34 [some (.ref 0), some (.int (nI (60 * j + i))), some (.int (nI w)), some (.int (nI 1)), some (.int (nI h))] [.int (nI (eM r9))] σ
  refine am_run 3 (pc' := 39) (ls' := [some (.ref 0), some (.int (nI (60 * j + i))), some (.int (nI w)), some (.int (nI 1)), some (.int (nI h))]) (st' := [.int (nI (60 * j + i)), .ref 6, .int (nI (eM r9))]) (σ' := σ) rfl ?_
  refine am_ialdN (n := 180) (v := oI (p 1 i)) rfl rfl rfl (by omega) m1 (by decide) ?_
  refine am_top (v' := nI (p 1 i - 1)) (oI_p hg1) ?_
  refine am_invs (y := 200) (as := [.int (nI (eM r9)), .int (nI (p 1 i - 1))]) (rest := []) rfl rfl rfl rfl rfl rfl (Nat.le_of_ble_eq_true rfl) ?_
  refine c_m_without (by omega) (r := r9) (g := p 1 i - 1) ok9 (by omega) ?_
  show am_G _ M_X10_newLaid _ 43 [some (.ref 0), some (.int (nI (60 * j + i))), some (.int (nI w)), some (.int (nI 1)), some (.int (nI h))] [.int (nI (eM (r_hide r9 (p 1 i - 1))))] σ
  refine am_reti rfl rfl ?_
  have e : anB p (an p 61) i ST false E.1 E.2 = (r_hide r9 (p 1 i - 1)) := by
    rw [anB_36 ht, loc_eq, hh, hr9]
  rw [e] at hq
  exact hq
set_option maxRecDepth 10000 in
set_option maxHeartbeats 2000000 in
theorem c_m_newWay2 {d : Nat} (hd : 3 ≤ d) {σ : am_M} {j s P A n : Nat} {p : Pg} {dp : Nat → Nat} {ow : Nat → Nat → Nat} (hB : MB σ j s P A p n dp ow) {i w : Nat} {E : Nat × Nat} (hi : i < n) (hw3 : w < 3 ^ dp i) (hE : evn (ow i) w P A (dp i) = E) (hg1 : 1 ≤ p 1 i) (hv : KD σ p (p 2 i) w 2 s true (up3 E (p 1 i - 1) 0)) {Q : am_Q} (hq : ∀ h, lst (an p 61 (p 2 i) s true (cl E.1 (p 1 i - 1)) (cl E.2 (p 1 i - 1))) true (p 1 i - 1) = h → h < 3 → Q (some (.int (nI h))) σ) : am_C d 201 [.ref 0, .int (nI (60 * j + i)), .int (nI w), .int (nI 2)] σ Q := by
  obtain ⟨hj, hS, hW, hs, hN, hdj, hP, hA⟩ := id hB
  obtain ⟨hS1, hS2, hS3, hS4⟩ := id hS
  obtain ⟨⟨m0, m1, m2, m3, m4, m5, m6⟩, hdp, how⟩ := hN i hi
  obtain ⟨w0, w1, w2, w3, w4, w5, w6⟩ := hW.2 i hi
  have hn60 := hW.1
  have hw := wy0 hdp hw3
  refine am_enter' (M := M_X10_newWay) rfl rfl rfl (by omega) (ls := [some (.ref 0), some (.int (nI (60 * j + i))), some (.int (nI w)), some (.int (nI 2)), none, none]) rfl (fun d' hd' => ?_)
  refine am_run 4 (pc' := 6) (ls' := [some (.ref 0), some (.int (nI (60 * j + i))), some (.int (nI w)), some (.int (nI 2)), none, none]) (st' := [.int (nI (60 * j + i)), .ref 7, .ref 0]) (σ' := σ) rfl ?_
  refine am_ialdN (n := 180) (v := oI (p 2 i)) rfl rfl rfl (by omega) m2 (by decide) ?_
  refine am_run 2 (pc' := 9) (ls' := [some (.ref 0), some (.int (nI (60 * j + i))), some (.int (nI w)), some (.int (nI 2)), none, none]) (st' := [.int (nI 2), .int (nI w), .int (oI (p 2 i)), .ref 0]) (σ' := σ) rfl ?_
  refine am_invv (y := 190) (b := 0) (as := [.int (oI (p 2 i)), .int (nI w), .int (nI 2)]) (rest := []) rfl rfl rfl rfl rfl rfl rfl (Nat.le_of_ble_eq_true rfl) ?_
  refine c_m_laid (by omega) hB w2 hw (by decide) hv (fun r9 hr9 ok9 iv9 => ?_)
  obtain ⟨c1, c2, c3, c4⟩ := id ok9
  replace hr9 : an p 61 (p 2 i) s true (cl E.1 (p 1 i - 1)) (cl E.2 (p 1 i - 1)) = r9 := hr9
  rw [hr9] at hq
  show am_G _ M_X10_newWay _ 12 [some (.ref 0), some (.int (nI (60 * j + i))), some (.int (nI w)), some (.int (nI 2)), none, none] [.int (nI (eM r9))] σ
  refine am_run 4 (pc' := 19) (ls' := [some (.ref 0), some (.int (nI (60 * j + i))), some (.int (nI w)), some (.int (nI 2)), some (.int (nI (eM r9))), none]) (st' := [.int (nI (60 * j + i)), .ref 6]) (σ' := σ) rfl ?_
  refine am_ialdN (n := 180) (v := oI (p 1 i)) rfl rfl rfl (by omega) m1 (by decide) ?_
  refine am_top (v' := nI (p 1 i - 1)) (oI_p hg1) ?_
  refine am_run 4 (pc' := 25) (ls' := [some (.ref 0), some (.int (nI (60 * j + i))), some (.int (nI w)), some (.int (nI 2)), some (.int (nI (eM r9))), some (.int (nI (p 1 i - 1)))]) (st' := [.int ((nI 2) - (nI 2) / (nI 2) * (nI 2))]) (σ' := σ) rfl ?_
  refine am_top (v' := nI 0) (by decide) ?_
  refine am_if (ty := 28) (tn := 43) rfl (by decide) rfl rfl (fun (h_1 : nI 0 = 0) => ?_) (fun (h_1 : ¬ (nI 0 = 0)) => ?_)
  rotate_left
  · exact absurd (by decide) h_1
  refine am_run 1 (pc' := 30) (ls' := [some (.ref 0), some (.int (nI (60 * j + i))), some (.int (nI w)), some (.int (nI 2)), some (.int (nI (eM r9))), some (.int (nI (p 1 i - 1)))]) (st' := [.int (nI (eM r9))]) (σ' := σ) rfl ?_
  refine am_invs (y := 185) (as := [.int (nI (eM r9))]) (rest := []) rfl rfl rfl rfl rfl rfl (Nat.le_of_ble_eq_true rfl) ?_
  refine c_m_must (by omega) (r := r9) ok9 ?_
  show am_G _ M_X10_newWay _ 33 [some (.ref 0), some (.int (nI (60 * j + i))), some (.int (nI w)), some (.int (nI 2)), some (.int (nI (eM r9))), some (.int (nI (p 1 i - 1)))] [.int (nI r9.1)] σ
  refine am_run 1 (pc' := 35) (ls' := [some (.ref 0), some (.int (nI (60 * j + i))), some (.int (nI w)), some (.int (nI 2)), some (.int (nI (eM r9))), some (.int (nI (p 1 i - 1)))]) (st' := [.int (nI (p 1 i - 1)), .int (nI r9.1)]) (σ' := σ) rfl ?_
  refine am_invs (y := 149) (as := [.int (nI r9.1), .int (nI (p 1 i - 1))]) (rest := []) rfl rfl rfl rfl rfl rfl (Nat.le_of_ble_eq_true rfl) ?_
  refine c_m_has (by omega) (a := r9.1) (s := p 1 i - 1) (by omega) (by omega) (fun hb_2 => ?_) (fun hb_2 => ?_)
  · show am_G _ M_X10_newWay _ 38 [some (.ref 0), some (.int (nI (60 * j + i))), some (.int (nI w)), some (.int (nI 2)), some (.int (nI (eM r9))), some (.int (nI (p 1 i - 1)))] [.int (nI 1)] σ
    refine am_if (ty := 43) (tn := 41) rfl (by decide) rfl rfl (fun (h_3 : nI 1 = 0) => ?_) (fun (h_3 : ¬ (nI 1 = 0)) => ?_)
    · exact absurd h_3 (by decide)
    refine am_run 1 (pc' := 42) (ls' := [some (.ref 0), some (.int (nI (60 * j + i))), some (.int (nI w)), some (.int (nI 2)), some (.int (nI (eM r9))), some (.int (nI (p 1 i - 1)))]) (st' := [.int (nI 1)]) (σ' := σ) rfl ?_
    refine am_reti rfl rfl ?_
    exact hq 1 (by unfold lst; simp only [*, if_true, if_false, ne_eq, not_false_eq_true, not_true_eq_false, true_or, false_or, or_false, or_true, or_self, and_true, true_and, and_false, false_and, and_self, Bool.false_eq_true, Bool.true_eq_false, reduceIte, Bool.and_true, Bool.and_false, Bool.true_and, Bool.false_and]) (by decide)
  · show am_G _ M_X10_newWay _ 38 [some (.ref 0), some (.int (nI (60 * j + i))), some (.int (nI w)), some (.int (nI 2)), some (.int (nI (eM r9))), some (.int (nI (p 1 i - 1)))] [.int (nI 0)] σ
    refine am_if (ty := 43) (tn := 41) rfl (by decide) rfl rfl (fun (h_4 : nI 0 = 0) => ?_) (fun (h_4 : ¬ (nI 0 = 0)) => ?_)
    rotate_left
    · exact absurd (by decide) h_4
    refine am_run 1 (pc' := 45) (ls' := [some (.ref 0), some (.int (nI (60 * j + i))), some (.int (nI w)), some (.int (nI 2)), some (.int (nI (eM r9))), some (.int (nI (p 1 i - 1)))]) (st' := [.int (nI (eM r9))]) (σ' := σ) rfl ?_
    refine am_invs (y := 186) (as := [.int (nI (eM r9))]) (rest := []) rfl rfl rfl rfl rfl rfl (Nat.le_of_ble_eq_true rfl) ?_
    refine c_m_can (by omega) (r := r9) ok9 ?_
    show am_G _ M_X10_newWay _ 48 [some (.ref 0), some (.int (nI (60 * j + i))), some (.int (nI w)), some (.int (nI 2)), some (.int (nI (eM r9))), some (.int (nI (p 1 i - 1)))] [.int (nI r9.2.1)] σ
    refine am_run 1 (pc' := 50) (ls' := [some (.ref 0), some (.int (nI (60 * j + i))), some (.int (nI w)), some (.int (nI 2)), some (.int (nI (eM r9))), some (.int (nI (p 1 i - 1)))]) (st' := [.int (nI (p 1 i - 1)), .int (nI r9.2.1)]) (σ' := σ) rfl ?_
    refine am_invs (y := 149) (as := [.int (nI r9.2.1), .int (nI (p 1 i - 1))]) (rest := []) rfl rfl rfl rfl rfl rfl (Nat.le_of_ble_eq_true rfl) ?_
    refine c_m_has (by omega) (a := r9.2.1) (s := p 1 i - 1) (by omega) (by omega) (fun hb_5 => ?_) (fun hb_5 => ?_)
    · show am_G _ M_X10_newWay _ 53 [some (.ref 0), some (.int (nI (60 * j + i))), some (.int (nI w)), some (.int (nI 2)), some (.int (nI (eM r9))), some (.int (nI (p 1 i - 1)))] [.int (nI 1)] σ
      refine am_if (ty := 60) (tn := 56) rfl (by decide) rfl rfl (fun (h_6 : nI 1 = 0) => ?_) (fun (h_6 : ¬ (nI 1 = 0)) => ?_)
      · exact absurd h_6 (by decide)
      refine am_run 2 (pc' := 61) (ls' := [some (.ref 0), some (.int (nI (60 * j + i))), some (.int (nI w)), some (.int (nI 2)), some (.int (nI (eM r9))), some (.int (nI (p 1 i - 1)))]) (st' := [.int (nI 0)]) (σ' := σ) rfl ?_
      refine am_reti rfl rfl ?_
      exact hq 0 (by unfold lst; simp only [*, if_true, if_false, ne_eq, not_false_eq_true, not_true_eq_false, true_or, false_or, or_false, or_true, or_self, and_true, true_and, and_false, false_and, and_self, Bool.false_eq_true, Bool.true_eq_false, reduceIte, Bool.and_true, Bool.and_false, Bool.true_and, Bool.false_and]) (by decide)
    · show am_G _ M_X10_newWay _ 53 [some (.ref 0), some (.int (nI (60 * j + i))), some (.int (nI w)), some (.int (nI 2)), some (.int (nI (eM r9))), some (.int (nI (p 1 i - 1)))] [.int (nI 0)] σ
      refine am_if (ty := 60) (tn := 56) rfl (by decide) rfl rfl (fun (h_7 : nI 0 = 0) => ?_) (fun (h_7 : ¬ (nI 0 = 0)) => ?_)
      rotate_left
      · exact absurd (by decide) h_7
      refine am_run 1 (pc' := 61) (ls' := [some (.ref 0), some (.int (nI (60 * j + i))), some (.int (nI w)), some (.int (nI 2)), some (.int (nI (eM r9))), some (.int (nI (p 1 i - 1)))]) (st' := [.int (nI 2)]) (σ' := σ) rfl ?_
      refine am_reti rfl rfl ?_
      exact hq 2 (by unfold lst; simp only [*, if_true, if_false, ne_eq, not_false_eq_true, not_true_eq_false, true_or, false_or, or_false, or_true, or_self, and_true, true_and, and_false, false_and, and_self, Bool.false_eq_true, Bool.true_eq_false, reduceIte, Bool.and_true, Bool.and_false, Bool.true_and, Bool.false_and]) (by decide)
set_option maxRecDepth 10000 in
set_option maxHeartbeats 2000000 in
theorem c_m_newLaid2 {d : Nat} (hd : 4 ≤ d) {σ : am_M} {j s P A n : Nat} {p : Pg} {dp : Nat → Nat} {ow : Nat → Nat → Nat} (hB : MB σ j s P A p n dp ow) {i w : Nat} {E : Nat × Nat} (hi : i < n) (hw3 : w < 3 ^ dp i) (hE : evn (ow i) w P A (dp i) = E) (ht : p 0 i = 36) (hdp2 : dp i ≤ 2) (hv : ∀ h, h < 3 → KD σ p (p 2 i) (w + h * 3 ^ dp i) 2 s true (up3 E (p 1 i - 1) h)) {Q : am_Q} (hq : Q (some (.int (nI (eM (anB p (an p 61) i s true E.1 E.2))))) σ) : am_C d 202 [.ref 0, .int (nI (60 * j + i)), .int (nI w), .int (nI 2)] σ Q := by
  obtain ⟨hj, hS, hW, hs, hN, hdj, hP, hA⟩ := id hB
  obtain ⟨hS1, hS2, hS3, hS4⟩ := id hS
  obtain ⟨⟨m0, m1, m2, m3, m4, m5, m6⟩, hdp, how⟩ := hN i hi
  obtain ⟨w0, w1, w2, w3, w4, w5, w6⟩ := hW.2 i hi
  have hn60 := hW.1
  have hw := wy0 hdp hw3
  have hg1 : 1 ≤ p 1 i := w5 (by rw [ht]; decide)
  refine am_enter' (M := M_X10_newLaid) rfl rfl rfl (by omega) (ls := [some (.ref 0), some (.int (nI (60 * j + i))), some (.int (nI w)), some (.int (nI 2)), none]) rfl (fun d' hd' => ?_)
  refine am_run 4 (pc' := 4) (ls' := [some (.ref 0), some (.int (nI (60 * j + i))), some (.int (nI w)), some (.int (nI 2)), none]) (st' := [.int (nI 2), .int (nI w), .int (nI (60 * j + i)), .ref 0]) (σ' := σ) rfl ?_
  refine am_invv (y := 201) (b := 0) (as := [.int (nI (60 * j + i)), .int (nI w), .int (nI 2)]) (rest := []) rfl rfl rfl rfl rfl rfl rfl (Nat.le_of_ble_eq_true rfl) ?_
  refine c_m_newWay2 (by omega) hB hi hw3 hE hg1 (by have := hv 0 (by decide); rw [Nat.zero_mul, Nat.add_zero] at this; exact this) (fun h hh hlt => ?_)
  show am_G _ M_X10_newLaid _ 7 [some (.ref 0), some (.int (nI (60 * j + i))), some (.int (nI w)), some (.int (nI 2)), none] [.int (nI h)] σ
  refine am_run 5 (pc' := 15) (ls' := [some (.ref 0), some (.int (nI (60 * j + i))), some (.int (nI w)), some (.int (nI 2)), some (.int (nI h))]) (st' := [.int (nI (60 * j + i)), .ref 7, .ref 0]) (σ' := σ) rfl ?_
  refine am_ialdN (n := 180) (v := oI (p 2 i)) rfl rfl rfl (by omega) m2 (by decide) ?_
  refine am_run 5 (pc' := 24) (ls' := [some (.ref 0), some (.int (nI (60 * j + i))), some (.int (nI w)), some (.int (nI 2)), some (.int (nI h))]) (st' := [.int (nI (60 * j + i)), .ref 10, .int (nI h), .int (nI w), .int (oI (p 2 i)), .ref 0]) (σ' := σ) rfl ?_
  refine am_ialdN (n := 180) (v := nI (dp i)) rfl rfl rfl (by omega) m5 (by decide) ?_
  refine am_invs (y := 193) (as := [.int (nI (dp i))]) (rest := [.int (nI h), .int (nI w), .int (oI (p 2 i)), .ref 0]) rfl rfl rfl rfl rfl rfl (Nat.le_of_ble_eq_true rfl) ?_
  refine c_m_threeTo (by omega) (a := dp i) hdp ?_
  show am_G _ M_X10_newLaid _ 28 [some (.ref 0), some (.int (nI (60 * j + i))), some (.int (nI w)), some (.int (nI 2)), some (.int (nI h))] [.int (nI (3 ^ dp i)), .int (nI h), .int (nI w), .int (oI (p 2 i)), .ref 0] σ
  refine am_run 1 (pc' := 29) (ls' := [some (.ref 0), some (.int (nI (60 * j + i))), some (.int (nI w)), some (.int (nI 2)), some (.int (nI h))]) (st' := [.int (nI h * nI (3 ^ dp i)), .int (nI w), .int (oI (p 2 i)), .ref 0]) (σ' := σ) rfl ?_
  refine am_top (v' := nI (h * (3 ^ dp i))) (am_nmul _ _) ?_
  refine am_run 1 (pc' := 30) (ls' := [some (.ref 0), some (.int (nI (60 * j + i))), some (.int (nI w)), some (.int (nI 2)), some (.int (nI h))]) (st' := [.int (nI w + nI (h * (3 ^ dp i))), .int (oI (p 2 i)), .ref 0]) (σ' := σ) rfl ?_
  refine am_top (v' := nI (w + (h * (3 ^ dp i)))) (nI_add _ _) ?_
  refine am_run 1 (pc' := 31) (ls' := [some (.ref 0), some (.int (nI (60 * j + i))), some (.int (nI w)), some (.int (nI 2)), some (.int (nI h))]) (st' := [.int (nI 2), .int (nI (w + (h * (3 ^ dp i)))), .int (oI (p 2 i)), .ref 0]) (σ' := σ) rfl ?_
  refine am_invv (y := 190) (b := 0) (as := [.int (oI (p 2 i)), .int (nI (w + (h * (3 ^ dp i)))), .int (nI 2)]) (rest := []) rfl rfl rfl rfl rfl rfl rfl (Nat.le_of_ble_eq_true rfl) ?_
  refine c_m_laid (by omega) hB w2 (wy hdp2 hw3 hlt) (by decide) (hv h hlt) (fun r9 hr9 ok9 iv9 => ?_)
  show am_G _ M_X10_newLaid _ 34 [some (.ref 0), some (.int (nI (60 * j + i))), some (.int (nI w)), some (.int (nI 2)), some (.int (nI h))] [.int (nI (eM r9))] σ
  refine am_run 3 (pc' := 39) (ls' := [some (.ref 0), some (.int (nI (60 * j + i))), some (.int (nI w)), some (.int (nI 2)), some (.int (nI h))]) (st' := [.int (nI (60 * j + i)), .ref 6, .int (nI (eM r9))]) (σ' := σ) rfl ?_
  refine am_ialdN (n := 180) (v := oI (p 1 i)) rfl rfl rfl (by omega) m1 (by decide) ?_
  refine am_top (v' := nI (p 1 i - 1)) (oI_p hg1) ?_
  refine am_invs (y := 200) (as := [.int (nI (eM r9)), .int (nI (p 1 i - 1))]) (rest := []) rfl rfl rfl rfl rfl rfl (Nat.le_of_ble_eq_true rfl) ?_
  refine c_m_without (by omega) (r := r9) (g := p 1 i - 1) ok9 (by omega) ?_
  show am_G _ M_X10_newLaid _ 43 [some (.ref 0), some (.int (nI (60 * j + i))), some (.int (nI w)), some (.int (nI 2)), some (.int (nI h))] [.int (nI (eM (r_hide r9 (p 1 i - 1))))] σ
  refine am_reti rfl rfl ?_
  have e : anB p (an p 61) i s true E.1 E.2 = (r_hide r9 (p 1 i - 1)) := by
    rw [anB_36 ht, loc_eq, hh, hr9]
  rw [e] at hq
  exact hq
set_option maxRecDepth 10000 in
set_option maxHeartbeats 2000000 in
theorem c_m_newWay3 {d : Nat} (hd : 3 ≤ d) {σ : am_M} {j s P A n : Nat} {p : Pg} {dp : Nat → Nat} {ow : Nat → Nat → Nat} (hB : MB σ j s P A p n dp ow) {i w : Nat} {E : Nat × Nat} (hi : i < n) (hw3 : w < 3 ^ dp i) (hE : evn (ow i) w P A (dp i) = E) (hg1 : 1 ≤ p 1 i) (hv : KD σ p (p 2 i) w 3 s false (up3 E (p 1 i - 1) 0)) {Q : am_Q} (hq : ∀ h, lst (an p 61 (p 2 i) s false (cl E.1 (p 1 i - 1)) (cl E.2 (p 1 i - 1))) false (p 1 i - 1) = h → h < 3 → Q (some (.int (nI h))) σ) : am_C d 201 [.ref 0, .int (nI (60 * j + i)), .int (nI w), .int (nI 3)] σ Q := by
  obtain ⟨hj, hS, hW, hs, hN, hdj, hP, hA⟩ := id hB
  obtain ⟨hS1, hS2, hS3, hS4⟩ := id hS
  obtain ⟨⟨m0, m1, m2, m3, m4, m5, m6⟩, hdp, how⟩ := hN i hi
  obtain ⟨w0, w1, w2, w3, w4, w5, w6⟩ := hW.2 i hi
  have hn60 := hW.1
  have hw := wy0 hdp hw3
  refine am_enter' (M := M_X10_newWay) rfl rfl rfl (by omega) (ls := [some (.ref 0), some (.int (nI (60 * j + i))), some (.int (nI w)), some (.int (nI 3)), none, none]) rfl (fun d' hd' => ?_)
  refine am_run 4 (pc' := 6) (ls' := [some (.ref 0), some (.int (nI (60 * j + i))), some (.int (nI w)), some (.int (nI 3)), none, none]) (st' := [.int (nI (60 * j + i)), .ref 7, .ref 0]) (σ' := σ) rfl ?_
  refine am_ialdN (n := 180) (v := oI (p 2 i)) rfl rfl rfl (by omega) m2 (by decide) ?_
  refine am_run 2 (pc' := 9) (ls' := [some (.ref 0), some (.int (nI (60 * j + i))), some (.int (nI w)), some (.int (nI 3)), none, none]) (st' := [.int (nI 3), .int (nI w), .int (oI (p 2 i)), .ref 0]) (σ' := σ) rfl ?_
  refine am_invv (y := 190) (b := 0) (as := [.int (oI (p 2 i)), .int (nI w), .int (nI 3)]) (rest := []) rfl rfl rfl rfl rfl rfl rfl (Nat.le_of_ble_eq_true rfl) ?_
  refine c_m_laid (by omega) hB w2 hw (by decide) hv (fun r9 hr9 ok9 iv9 => ?_)
  obtain ⟨c1, c2, c3, c4⟩ := id ok9
  replace hr9 : an p 61 (p 2 i) s false (cl E.1 (p 1 i - 1)) (cl E.2 (p 1 i - 1)) = r9 := hr9
  rw [hr9] at hq
  show am_G _ M_X10_newWay _ 12 [some (.ref 0), some (.int (nI (60 * j + i))), some (.int (nI w)), some (.int (nI 3)), none, none] [.int (nI (eM r9))] σ
  refine am_run 4 (pc' := 19) (ls' := [some (.ref 0), some (.int (nI (60 * j + i))), some (.int (nI w)), some (.int (nI 3)), some (.int (nI (eM r9))), none]) (st' := [.int (nI (60 * j + i)), .ref 6]) (σ' := σ) rfl ?_
  refine am_ialdN (n := 180) (v := oI (p 1 i)) rfl rfl rfl (by omega) m1 (by decide) ?_
  refine am_top (v' := nI (p 1 i - 1)) (oI_p hg1) ?_
  refine am_run 4 (pc' := 25) (ls' := [some (.ref 0), some (.int (nI (60 * j + i))), some (.int (nI w)), some (.int (nI 3)), some (.int (nI (eM r9))), some (.int (nI (p 1 i - 1)))]) (st' := [.int ((nI 3) - (nI 3) / (nI 2) * (nI 2))]) (σ' := σ) rfl ?_
  refine am_top (v' := nI 1) (by decide) ?_
  refine am_if (ty := 28) (tn := 43) rfl (by decide) rfl rfl (fun (h_1 : nI 1 = 0) => ?_) (fun (h_1 : ¬ (nI 1 = 0)) => ?_)
  · exact absurd h_1 (by decide)
  refine am_run 1 (pc' := 45) (ls' := [some (.ref 0), some (.int (nI (60 * j + i))), some (.int (nI w)), some (.int (nI 3)), some (.int (nI (eM r9))), some (.int (nI (p 1 i - 1)))]) (st' := [.int (nI (eM r9))]) (σ' := σ) rfl ?_
  refine am_invs (y := 186) (as := [.int (nI (eM r9))]) (rest := []) rfl rfl rfl rfl rfl rfl (Nat.le_of_ble_eq_true rfl) ?_
  refine c_m_can (by omega) (r := r9) ok9 ?_
  show am_G _ M_X10_newWay _ 48 [some (.ref 0), some (.int (nI (60 * j + i))), some (.int (nI w)), some (.int (nI 3)), some (.int (nI (eM r9))), some (.int (nI (p 1 i - 1)))] [.int (nI r9.2.1)] σ
  refine am_run 1 (pc' := 50) (ls' := [some (.ref 0), some (.int (nI (60 * j + i))), some (.int (nI w)), some (.int (nI 3)), some (.int (nI (eM r9))), some (.int (nI (p 1 i - 1)))]) (st' := [.int (nI (p 1 i - 1)), .int (nI r9.2.1)]) (σ' := σ) rfl ?_
  refine am_invs (y := 149) (as := [.int (nI r9.2.1), .int (nI (p 1 i - 1))]) (rest := []) rfl rfl rfl rfl rfl rfl (Nat.le_of_ble_eq_true rfl) ?_
  refine c_m_has (by omega) (a := r9.2.1) (s := p 1 i - 1) (by omega) (by omega) (fun hb_2 => ?_) (fun hb_2 => ?_)
  · show am_G _ M_X10_newWay _ 53 [some (.ref 0), some (.int (nI (60 * j + i))), some (.int (nI w)), some (.int (nI 3)), some (.int (nI (eM r9))), some (.int (nI (p 1 i - 1)))] [.int (nI 1)] σ
    refine am_if (ty := 60) (tn := 56) rfl (by decide) rfl rfl (fun (h_3 : nI 1 = 0) => ?_) (fun (h_3 : ¬ (nI 1 = 0)) => ?_)
    · exact absurd h_3 (by decide)
    refine am_run 2 (pc' := 61) (ls' := [some (.ref 0), some (.int (nI (60 * j + i))), some (.int (nI w)), some (.int (nI 3)), some (.int (nI (eM r9))), some (.int (nI (p 1 i - 1)))]) (st' := [.int (nI 0)]) (σ' := σ) rfl ?_
    refine am_reti rfl rfl ?_
    exact hq 0 (by unfold lst; simp only [*, if_true, if_false, ne_eq, not_false_eq_true, not_true_eq_false, true_or, false_or, or_false, or_true, or_self, and_true, true_and, and_false, false_and, and_self, Bool.false_eq_true, Bool.true_eq_false, reduceIte, Bool.and_true, Bool.and_false, Bool.true_and, Bool.false_and]) (by decide)
  · show am_G _ M_X10_newWay _ 53 [some (.ref 0), some (.int (nI (60 * j + i))), some (.int (nI w)), some (.int (nI 3)), some (.int (nI (eM r9))), some (.int (nI (p 1 i - 1)))] [.int (nI 0)] σ
    refine am_if (ty := 60) (tn := 56) rfl (by decide) rfl rfl (fun (h_4 : nI 0 = 0) => ?_) (fun (h_4 : ¬ (nI 0 = 0)) => ?_)
    rotate_left
    · exact absurd (by decide) h_4
    refine am_run 1 (pc' := 61) (ls' := [some (.ref 0), some (.int (nI (60 * j + i))), some (.int (nI w)), some (.int (nI 3)), some (.int (nI (eM r9))), some (.int (nI (p 1 i - 1)))]) (st' := [.int (nI 2)]) (σ' := σ) rfl ?_
    refine am_reti rfl rfl ?_
    exact hq 2 (by unfold lst; simp only [*, if_true, if_false, ne_eq, not_false_eq_true, not_true_eq_false, true_or, false_or, or_false, or_true, or_self, and_true, true_and, and_false, false_and, and_self, Bool.false_eq_true, Bool.true_eq_false, reduceIte, Bool.and_true, Bool.and_false, Bool.true_and, Bool.false_and]) (by decide)
set_option maxRecDepth 10000 in
set_option maxHeartbeats 2000000 in
theorem c_m_newLaid3 {d : Nat} (hd : 4 ≤ d) {σ : am_M} {j s P A n : Nat} {p : Pg} {dp : Nat → Nat} {ow : Nat → Nat → Nat} (hB : MB σ j s P A p n dp ow) {i w : Nat} {E : Nat × Nat} (hi : i < n) (hw3 : w < 3 ^ dp i) (hE : evn (ow i) w P A (dp i) = E) (ht : p 0 i = 36) (hdp2 : dp i ≤ 2) (hv : ∀ h, h < 3 → KD σ p (p 2 i) (w + h * 3 ^ dp i) 3 s false (up3 E (p 1 i - 1) h)) {Q : am_Q} (hq : Q (some (.int (nI (eM (anB p (an p 61) i s false E.1 E.2))))) σ) : am_C d 202 [.ref 0, .int (nI (60 * j + i)), .int (nI w), .int (nI 3)] σ Q := by
  obtain ⟨hj, hS, hW, hs, hN, hdj, hP, hA⟩ := id hB
  obtain ⟨hS1, hS2, hS3, hS4⟩ := id hS
  obtain ⟨⟨m0, m1, m2, m3, m4, m5, m6⟩, hdp, how⟩ := hN i hi
  obtain ⟨w0, w1, w2, w3, w4, w5, w6⟩ := hW.2 i hi
  have hn60 := hW.1
  have hw := wy0 hdp hw3
  have hg1 : 1 ≤ p 1 i := w5 (by rw [ht]; decide)
  refine am_enter' (M := M_X10_newLaid) rfl rfl rfl (by omega) (ls := [some (.ref 0), some (.int (nI (60 * j + i))), some (.int (nI w)), some (.int (nI 3)), none]) rfl (fun d' hd' => ?_)
  refine am_run 4 (pc' := 4) (ls' := [some (.ref 0), some (.int (nI (60 * j + i))), some (.int (nI w)), some (.int (nI 3)), none]) (st' := [.int (nI 3), .int (nI w), .int (nI (60 * j + i)), .ref 0]) (σ' := σ) rfl ?_
  refine am_invv (y := 201) (b := 0) (as := [.int (nI (60 * j + i)), .int (nI w), .int (nI 3)]) (rest := []) rfl rfl rfl rfl rfl rfl rfl (Nat.le_of_ble_eq_true rfl) ?_
  refine c_m_newWay3 (by omega) hB hi hw3 hE hg1 (by have := hv 0 (by decide); rw [Nat.zero_mul, Nat.add_zero] at this; exact this) (fun h hh hlt => ?_)
  show am_G _ M_X10_newLaid _ 7 [some (.ref 0), some (.int (nI (60 * j + i))), some (.int (nI w)), some (.int (nI 3)), none] [.int (nI h)] σ
  refine am_run 5 (pc' := 15) (ls' := [some (.ref 0), some (.int (nI (60 * j + i))), some (.int (nI w)), some (.int (nI 3)), some (.int (nI h))]) (st' := [.int (nI (60 * j + i)), .ref 7, .ref 0]) (σ' := σ) rfl ?_
  refine am_ialdN (n := 180) (v := oI (p 2 i)) rfl rfl rfl (by omega) m2 (by decide) ?_
  refine am_run 5 (pc' := 24) (ls' := [some (.ref 0), some (.int (nI (60 * j + i))), some (.int (nI w)), some (.int (nI 3)), some (.int (nI h))]) (st' := [.int (nI (60 * j + i)), .ref 10, .int (nI h), .int (nI w), .int (oI (p 2 i)), .ref 0]) (σ' := σ) rfl ?_
  refine am_ialdN (n := 180) (v := nI (dp i)) rfl rfl rfl (by omega) m5 (by decide) ?_
  refine am_invs (y := 193) (as := [.int (nI (dp i))]) (rest := [.int (nI h), .int (nI w), .int (oI (p 2 i)), .ref 0]) rfl rfl rfl rfl rfl rfl (Nat.le_of_ble_eq_true rfl) ?_
  refine c_m_threeTo (by omega) (a := dp i) hdp ?_
  show am_G _ M_X10_newLaid _ 28 [some (.ref 0), some (.int (nI (60 * j + i))), some (.int (nI w)), some (.int (nI 3)), some (.int (nI h))] [.int (nI (3 ^ dp i)), .int (nI h), .int (nI w), .int (oI (p 2 i)), .ref 0] σ
  refine am_run 1 (pc' := 29) (ls' := [some (.ref 0), some (.int (nI (60 * j + i))), some (.int (nI w)), some (.int (nI 3)), some (.int (nI h))]) (st' := [.int (nI h * nI (3 ^ dp i)), .int (nI w), .int (oI (p 2 i)), .ref 0]) (σ' := σ) rfl ?_
  refine am_top (v' := nI (h * (3 ^ dp i))) (am_nmul _ _) ?_
  refine am_run 1 (pc' := 30) (ls' := [some (.ref 0), some (.int (nI (60 * j + i))), some (.int (nI w)), some (.int (nI 3)), some (.int (nI h))]) (st' := [.int (nI w + nI (h * (3 ^ dp i))), .int (oI (p 2 i)), .ref 0]) (σ' := σ) rfl ?_
  refine am_top (v' := nI (w + (h * (3 ^ dp i)))) (nI_add _ _) ?_
  refine am_run 1 (pc' := 31) (ls' := [some (.ref 0), some (.int (nI (60 * j + i))), some (.int (nI w)), some (.int (nI 3)), some (.int (nI h))]) (st' := [.int (nI 3), .int (nI (w + (h * (3 ^ dp i)))), .int (oI (p 2 i)), .ref 0]) (σ' := σ) rfl ?_
  refine am_invv (y := 190) (b := 0) (as := [.int (oI (p 2 i)), .int (nI (w + (h * (3 ^ dp i)))), .int (nI 3)]) (rest := []) rfl rfl rfl rfl rfl rfl rfl (Nat.le_of_ble_eq_true rfl) ?_
  refine c_m_laid (by omega) hB w2 (wy hdp2 hw3 hlt) (by decide) (hv h hlt) (fun r9 hr9 ok9 iv9 => ?_)
  show am_G _ M_X10_newLaid _ 34 [some (.ref 0), some (.int (nI (60 * j + i))), some (.int (nI w)), some (.int (nI 3)), some (.int (nI h))] [.int (nI (eM r9))] σ
  refine am_run 3 (pc' := 39) (ls' := [some (.ref 0), some (.int (nI (60 * j + i))), some (.int (nI w)), some (.int (nI 3)), some (.int (nI h))]) (st' := [.int (nI (60 * j + i)), .ref 6, .int (nI (eM r9))]) (σ' := σ) rfl ?_
  refine am_ialdN (n := 180) (v := oI (p 1 i)) rfl rfl rfl (by omega) m1 (by decide) ?_
  refine am_top (v' := nI (p 1 i - 1)) (oI_p hg1) ?_
  refine am_invs (y := 200) (as := [.int (nI (eM r9)), .int (nI (p 1 i - 1))]) (rest := []) rfl rfl rfl rfl rfl rfl (Nat.le_of_ble_eq_true rfl) ?_
  refine c_m_without (by omega) (r := r9) (g := p 1 i - 1) ok9 (by omega) ?_
  show am_G _ M_X10_newLaid _ 43 [some (.ref 0), some (.int (nI (60 * j + i))), some (.int (nI w)), some (.int (nI 3)), some (.int (nI h))] [.int (nI (eM (r_hide r9 (p 1 i - 1))))] σ
  refine am_reti rfl rfl ?_
  have e : anB p (an p 61) i s false E.1 E.2 = (r_hide r9 (p 1 i - 1)) := by
    rw [anB_36 ht, loc_eq, hh, hr9]
  rw [e] at hq
  exact hq
set_option maxRecDepth 10000 in
set_option maxHeartbeats 2000000 in
theorem c_m_broken2 {d : Nat} (hd : 4 ≤ d) {σ : am_M} {j s P A n : Nat} {p : Pg} {dp : Nat → Nat} {ow : Nat → Nat → Nat} (hB : MB σ j s P A p n dp ow) {i w : Nat} {E : Nat × Nat} (hi : i < n) (hw3 : w < 3 ^ dp i) (hE : evn (ow i) w P A (dp i) = E) (hs1 : ¬ s = 1048576) (ht : p 0 i = 64) (L2 : ¬ p 0 i = 36 → lv p (p 2 i) s = true → KD σ p (p 2 i) w 2 s true E ∧ KD σ p (p 2 i) w 3 s false E) (L3 : ¬ p 0 i = 36 → lv p (p 3 i) s = true → KD σ p (p 3 i) w 2 s true E ∧ KD σ p (p 3 i) w 3 s false E) (V2 : p 0 i = 42 ∨ p 0 i = 94 ∨ p 0 i = 64 ∨ p 0 i = 126 → lv p (p 2 i) s = true) (V3 : p 0 i = 63 ∨ p 0 i = 59 → lv p (p 2 i) s = false → lv p (p 3 i) s = true) {Q : am_Q} (hq : Q (some (.int (nI (eM (anB p (an p 61) i s true E.1 E.2))))) σ) : am_C d 206 [.ref 0, .int (nI (60 * j + i)), .int (nI w), .int (nI 2)] σ Q := by
  obtain ⟨hj, hS, hW, hs, hN, hdj, hP, hA⟩ := id hB
  obtain ⟨hS1, hS2, hS3, hS4⟩ := id hS
  obtain ⟨⟨m0, m1, m2, m3, m4, m5, m6⟩, hdp, how⟩ := hN i hi
  obtain ⟨w0, w1, w2, w3, w4, w5, w6⟩ := hW.2 i hi
  have hn60 := hW.1
  have hw := wy0 hdp hw3
  have hg1 : 1 ≤ p 1 i := w5 (by rw [ht]; decide)
  refine am_enter' (M := M_X10_broken) rfl rfl rfl (by omega) (ls := [some (.ref 0), some (.int (nI (60 * j + i))), some (.int (nI w)), some (.int (nI 2)), none]) rfl (fun d' hd' => ?_)
  refine am_run 6 (pc' := 8) (ls' := [some (.ref 0), some (.int (nI (60 * j + i))), some (.int (nI w)), some (.int (nI 2)), none]) (st' := [.int (nI (60 * j + i)), .ref 6, .int (nI w), .int (nI (60 * j + i)), .ref 0]) (σ' := σ) rfl ?_
  refine am_ialdN (n := 180) (v := oI (p 1 i)) rfl rfl rfl (by omega) m1 (by decide) ?_
  refine am_top (v' := nI (p 1 i - 1)) (oI_p hg1) ?_
  refine am_invv (y := 192) (b := 0) (as := [.int (nI (60 * j + i)), .int (nI w), .int (nI (p 1 i - 1))]) (rest := []) rfl rfl rfl rfl rfl rfl rfl (Nat.le_of_ble_eq_true rfl) ?_
  refine c_m_isAt3 (by omega) hB (g := p 1 i - 1) hi hw (by omega) hE (fun ha_1 hb_1 => ?_) (fun ha_1 hb_1 => ?_) (fun ha_1 hb_1 => ?_)
  · show am_G _ M_X10_broken _ 12 [some (.ref 0), some (.int (nI (60 * j + i))), some (.int (nI w)), some (.int (nI 2)), none] [.int (nI 1)] σ
    refine am_run 3 (pc' := 17) (ls' := [some (.ref 0), some (.int (nI (60 * j + i))), some (.int (nI w)), some (.int (nI 2)), some (.int (nI 1))]) (st' := [.int (nI 1), .int (nI 1)]) (σ' := σ) rfl ?_
    refine am_ic (ty := 20) (tn := 25) rfl (by decide) rfl rfl (fun (h_2 : nI 1 = nI 1) => ?_) (fun (h_2 : ¬ (nI 1 = nI 1)) => ?_)
    rotate_left
    · exact absurd (by decide) h_2
    refine am_run 1 (pc' := 21) (ls' := [some (.ref 0), some (.int (nI (60 * j + i))), some (.int (nI w)), some (.int (nI 2)), some (.int (nI 1))]) (st' := [.int (nI 1)]) (σ' := σ) rfl ?_
    refine am_invs (y := 191) (as := [.int (nI 1)]) (rest := []) rfl rfl rfl rfl rfl rfl (Nat.le_of_ble_eq_true rfl) ?_
    refine c_m_code (by omega) (k := 1) (by first | omega | decide | exact pow_lt_256 (by omega) | exact or_lt8 (by omega) (by omega) | exact or_lt7 (by omega) (by omega) | exact mx_lt (by omega) (by omega) | exact ct_lt (by omega) | exact or_lt7 (cl_lt (by omega)) (by omega) | exact cl_lt (by omega) | exact or_lt7 (cl_lt (by omega)) (tb_lt _)) ?_
    show am_G _ M_X10_broken _ 24 [some (.ref 0), some (.int (nI (60 * j + i))), some (.int (nI w)), some (.int (nI 2)), some (.int (nI 1))] [.int (nI (eM (r_cd 1)))] σ
    refine am_reti rfl rfl ?_
    have e : anB p (an p 61) i s true E.1 E.2 = (r_cd 1) := by
      refine (anB_64 ht).trans ?_
      first | rfl | (simp only [*, if_true, if_false, ne_eq, not_false_eq_true, not_true_eq_false, true_or, false_or, or_false, or_true, or_self, and_true, true_and, and_false, false_and, and_self, Bool.false_eq_true, Bool.true_eq_false, reduceIte, Bool.and_true, Bool.and_false, Bool.true_and, Bool.false_and]; done) | (simp only [*, if_true, if_false, ne_eq, not_false_eq_true, not_true_eq_false, true_or, false_or, or_false, or_true, or_self, and_true, true_and, and_false, false_and, and_self, Bool.false_eq_true, Bool.true_eq_false, reduceIte, Bool.and_true, Bool.and_false, Bool.true_and, Bool.false_and]; rfl) | (simp only [*, if_true, if_false, ne_eq, not_false_eq_true, not_true_eq_false, true_or, false_or, or_false, or_true, or_self, and_true, true_and, and_false, false_and, and_self, Bool.false_eq_true, Bool.true_eq_false, reduceIte, Bool.and_true, Bool.and_false, Bool.true_and, Bool.false_and]; exact abt_or _) | (simp only [*, r_weakP, r_weakU, if_true, if_false, ne_eq, not_false_eq_true, not_true_eq_false, true_or, false_or, or_false, or_true, or_self, and_true, true_and, and_false, false_and, and_self, Bool.false_eq_true, Bool.true_eq_false, reduceIte, Bool.and_true, Bool.and_false, Bool.true_and, Bool.false_and]; rfl)
    rw [e] at hq
    exact hq
  · show am_G _ M_X10_broken _ 12 [some (.ref 0), some (.int (nI (60 * j + i))), some (.int (nI w)), some (.int (nI 2)), none] [.int (nI 2)] σ
    refine am_run 3 (pc' := 17) (ls' := [some (.ref 0), some (.int (nI (60 * j + i))), some (.int (nI w)), some (.int (nI 2)), some (.int (nI 2))]) (st' := [.int (nI 1), .int (nI 2)]) (σ' := σ) rfl ?_
    refine am_ic (ty := 20) (tn := 25) rfl (by decide) rfl rfl (fun (h_3 : nI 2 = nI 1) => ?_) (fun (h_3 : ¬ (nI 2 = nI 1)) => ?_)
    · exact absurd h_3 (by decide)
    refine am_run 2 (pc' := 28) (ls' := [some (.ref 0), some (.int (nI (60 * j + i))), some (.int (nI w)), some (.int (nI 2)), some (.int (nI 2))]) (st' := [.int (nI 2), .int (nI 2)]) (σ' := σ) rfl ?_
    refine am_ic (ty := 31) (tn := 44) rfl (by decide) rfl rfl (fun (h_4 : nI 2 = nI 2) => ?_) (fun (h_4 : ¬ (nI 2 = nI 2)) => ?_)
    rotate_left
    · exact absurd (by decide) h_4
    refine am_run 4 (pc' := 37) (ls' := [some (.ref 0), some (.int (nI (60 * j + i))), some (.int (nI w)), some (.int (nI 2)), some (.int (nI 2))]) (st' := [.int (nI (60 * j + i)), .ref 7, .ref 0]) (σ' := σ) rfl ?_
    refine am_ialdN (n := 180) (v := oI (p 2 i)) rfl rfl rfl (by omega) m2 (by decide) ?_
    refine am_run 2 (pc' := 40) (ls' := [some (.ref 0), some (.int (nI (60 * j + i))), some (.int (nI w)), some (.int (nI 2)), some (.int (nI 2))]) (st' := [.int (nI 2), .int (nI w), .int (oI (p 2 i)), .ref 0]) (σ' := σ) rfl ?_
    refine am_invv (y := 190) (b := 0) (as := [.int (oI (p 2 i)), .int (nI w), .int (nI 2)]) (rest := []) rfl rfl rfl rfl rfl rfl rfl (Nat.le_of_ble_eq_true rfl) ?_
    refine c_m_laid (by omega) hB w2 hw (by decide) (L2 (by omega) (by first | assumption | exact V2 (by omega) | exact V3 (by omega) (by assumption))).1 (fun r5 hr5 ok5 iv5 => ?_)
    obtain ⟨x5a, x5b, x5c, x5d⟩ := id ok5
    show am_G _ M_X10_broken _ 43 [some (.ref 0), some (.int (nI (60 * j + i))), some (.int (nI w)), some (.int (nI 2)), some (.int (nI 2))] [.int (nI (eM r5))] σ
    refine am_reti rfl rfl ?_
    have e : anB p (an p 61) i s true E.1 E.2 = r5 := by
      refine (anB_64 ht).trans ?_
      first | rfl | (simp only [*, if_true, if_false, ne_eq, not_false_eq_true, not_true_eq_false, true_or, false_or, or_false, or_true, or_self, and_true, true_and, and_false, false_and, and_self, Bool.false_eq_true, Bool.true_eq_false, reduceIte, Bool.and_true, Bool.and_false, Bool.true_and, Bool.false_and]; done) | (simp only [*, if_true, if_false, ne_eq, not_false_eq_true, not_true_eq_false, true_or, false_or, or_false, or_true, or_self, and_true, true_and, and_false, false_and, and_self, Bool.false_eq_true, Bool.true_eq_false, reduceIte, Bool.and_true, Bool.and_false, Bool.true_and, Bool.false_and]; rfl) | (simp only [*, if_true, if_false, ne_eq, not_false_eq_true, not_true_eq_false, true_or, false_or, or_false, or_true, or_self, and_true, true_and, and_false, false_and, and_self, Bool.false_eq_true, Bool.true_eq_false, reduceIte, Bool.and_true, Bool.and_false, Bool.true_and, Bool.false_and]; exact abt_or _) | (simp only [*, r_weakP, r_weakU, if_true, if_false, ne_eq, not_false_eq_true, not_true_eq_false, true_or, false_or, or_false, or_true, or_self, and_true, true_and, and_false, false_and, and_self, Bool.false_eq_true, Bool.true_eq_false, reduceIte, Bool.and_true, Bool.and_false, Bool.true_and, Bool.false_and]; rfl)
    rw [e] at hq
    exact hq
  · show am_G _ M_X10_broken _ 12 [some (.ref 0), some (.int (nI (60 * j + i))), some (.int (nI w)), some (.int (nI 2)), none] [.int (nI 0)] σ
    refine am_run 3 (pc' := 17) (ls' := [some (.ref 0), some (.int (nI (60 * j + i))), some (.int (nI w)), some (.int (nI 2)), some (.int (nI 0))]) (st' := [.int (nI 1), .int (nI 0)]) (σ' := σ) rfl ?_
    refine am_ic (ty := 20) (tn := 25) rfl (by decide) rfl rfl (fun (h_6 : nI 0 = nI 1) => ?_) (fun (h_6 : ¬ (nI 0 = nI 1)) => ?_)
    · exact absurd h_6 (by decide)
    refine am_run 2 (pc' := 28) (ls' := [some (.ref 0), some (.int (nI (60 * j + i))), some (.int (nI w)), some (.int (nI 2)), some (.int (nI 0))]) (st' := [.int (nI 2), .int (nI 0)]) (σ' := σ) rfl ?_
    refine am_ic (ty := 31) (tn := 44) rfl (by decide) rfl rfl (fun (h_7 : nI 0 = nI 2) => ?_) (fun (h_7 : ¬ (nI 0 = nI 2)) => ?_)
    · exact absurd h_7 (by decide)
    refine am_run 1 (pc' := 45) (ls' := [some (.ref 0), some (.int (nI (60 * j + i))), some (.int (nI w)), some (.int (nI 2)), some (.int (nI 0))]) (st' := [.int (nI 1)]) (σ' := σ) rfl ?_
    refine am_invs (y := 191) (as := [.int (nI 1)]) (rest := []) rfl rfl rfl rfl rfl rfl (Nat.le_of_ble_eq_true rfl) ?_
    refine c_m_code (by omega) (k := 1) (by first | omega | decide | exact pow_lt_256 (by omega) | exact or_lt8 (by omega) (by omega) | exact or_lt7 (by omega) (by omega) | exact mx_lt (by omega) (by omega) | exact ct_lt (by omega) | exact or_lt7 (cl_lt (by omega)) (by omega) | exact cl_lt (by omega) | exact or_lt7 (cl_lt (by omega)) (tb_lt _)) ?_
    show am_G _ M_X10_broken _ 48 [some (.ref 0), some (.int (nI (60 * j + i))), some (.int (nI w)), some (.int (nI 2)), some (.int (nI 0))] [.int (nI (eM (r_cd 1)))] σ
    refine am_run 4 (pc' := 54) (ls' := [some (.ref 0), some (.int (nI (60 * j + i))), some (.int (nI w)), some (.int (nI 2)), some (.int (nI 0))]) (st' := [.int (nI (60 * j + i)), .ref 7, .ref 0, .int (nI (eM (r_cd 1)))]) (σ' := σ) rfl ?_
    refine am_ialdN (n := 180) (v := oI (p 2 i)) rfl rfl rfl (by omega) m2 (by decide) ?_
    refine am_run 2 (pc' := 57) (ls' := [some (.ref 0), some (.int (nI (60 * j + i))), some (.int (nI w)), some (.int (nI 2)), some (.int (nI 0))]) (st' := [.int (nI 3), .int (nI w), .int (oI (p 2 i)), .ref 0, .int (nI (eM (r_cd 1)))]) (σ' := σ) rfl ?_
    refine am_invv (y := 190) (b := 0) (as := [.int (oI (p 2 i)), .int (nI w), .int (nI 3)]) (rest := [.int (nI (eM (r_cd 1)))]) rfl rfl rfl rfl rfl rfl rfl (Nat.le_of_ble_eq_true rfl) ?_
    refine c_m_laid (by omega) hB w2 hw (by decide) (L2 (by omega) (by first | assumption | exact V2 (by omega) | exact V3 (by omega) (by assumption))).2 (fun r8 hr8 ok8 iv8 => ?_)
    obtain ⟨x8a, x8b, x8c, x8d⟩ := id ok8
    show am_G _ M_X10_broken _ 60 [some (.ref 0), some (.int (nI (60 * j + i))), some (.int (nI w)), some (.int (nI 2)), some (.int (nI 0))] [.int (nI (eM r8)), .int (nI (eM (r_cd 1)))] σ
    refine am_invs (y := 199) (as := [.int (nI (eM (r_cd 1))), .int (nI (eM r8))]) (rest := []) rfl rfl rfl rfl rfl rfl (Nat.le_of_ble_eq_true rfl) ?_
    refine c_m_perhapsOf (by omega) (a := (r_cd 1)) (b := r8) (ok_cd (by decide)) ok8 ?_
    show am_G _ M_X10_broken _ 63 [some (.ref 0), some (.int (nI (60 * j + i))), some (.int (nI w)), some (.int (nI 2)), some (.int (nI 0))] [.int (nI (eM (r_or (r_cd 1) r8)))] σ
    refine am_reti rfl rfl ?_
    have e : anB p (an p 61) i s true E.1 E.2 = (r_or (r_cd 1) r8) := by
      refine (anB_64 ht).trans ?_
      first | rfl | (simp only [*, if_true, if_false, ne_eq, not_false_eq_true, not_true_eq_false, true_or, false_or, or_false, or_true, or_self, and_true, true_and, and_false, false_and, and_self, Bool.false_eq_true, Bool.true_eq_false, reduceIte, Bool.and_true, Bool.and_false, Bool.true_and, Bool.false_and]; done) | (simp only [*, if_true, if_false, ne_eq, not_false_eq_true, not_true_eq_false, true_or, false_or, or_false, or_true, or_self, and_true, true_and, and_false, false_and, and_self, Bool.false_eq_true, Bool.true_eq_false, reduceIte, Bool.and_true, Bool.and_false, Bool.true_and, Bool.false_and]; rfl) | (simp only [*, if_true, if_false, ne_eq, not_false_eq_true, not_true_eq_false, true_or, false_or, or_false, or_true, or_self, and_true, true_and, and_false, false_and, and_self, Bool.false_eq_true, Bool.true_eq_false, reduceIte, Bool.and_true, Bool.and_false, Bool.true_and, Bool.false_and]; exact abt_or _) | (simp only [*, r_weakP, r_weakU, if_true, if_false, ne_eq, not_false_eq_true, not_true_eq_false, true_or, false_or, or_false, or_true, or_self, and_true, true_and, and_false, false_and, and_self, Bool.false_eq_true, Bool.true_eq_false, reduceIte, Bool.and_true, Bool.and_false, Bool.true_and, Bool.false_and]; rfl)
    rw [e] at hq
    exact hq
set_option maxRecDepth 10000 in
set_option maxHeartbeats 2000000 in
theorem c_m_weakened2 {d : Nat} (hd : 4 ≤ d) {σ : am_M} {j s P A n : Nat} {p : Pg} {dp : Nat → Nat} {ow : Nat → Nat → Nat} (hB : MB σ j s P A p n dp ow) {i w : Nat} {E : Nat × Nat} (hi : i < n) (hw3 : w < 3 ^ dp i) (hE : evn (ow i) w P A (dp i) = E) (hs1 : ¬ s = 1048576) (ht : p 0 i = 126) (L2 : ¬ p 0 i = 36 → lv p (p 2 i) s = true → KD σ p (p 2 i) w 2 s true E ∧ KD σ p (p 2 i) w 3 s false E) (L3 : ¬ p 0 i = 36 → lv p (p 3 i) s = true → KD σ p (p 3 i) w 2 s true E ∧ KD σ p (p 3 i) w 3 s false E) (V2 : p 0 i = 42 ∨ p 0 i = 94 ∨ p 0 i = 64 ∨ p 0 i = 126 → lv p (p 2 i) s = true) (V3 : p 0 i = 63 ∨ p 0 i = 59 → lv p (p 2 i) s = false → lv p (p 3 i) s = true) {Q : am_Q} (hq : Q (some (.int (nI (eM (anB p (an p 61) i s true E.1 E.2))))) σ) : am_C d 207 [.ref 0, .int (nI (60 * j + i)), .int (nI w), .int (nI 2)] σ Q := by
  obtain ⟨hj, hS, hW, hs, hN, hdj, hP, hA⟩ := id hB
  obtain ⟨hS1, hS2, hS3, hS4⟩ := id hS
  obtain ⟨⟨m0, m1, m2, m3, m4, m5, m6⟩, hdp, how⟩ := hN i hi
  obtain ⟨w0, w1, w2, w3, w4, w5, w6⟩ := hW.2 i hi
  have hn60 := hW.1
  have hw := wy0 hdp hw3
  have hg1 : 1 ≤ p 1 i := w5 (by rw [ht]; decide)
  refine am_enter' (M := M_X10_weakened) rfl rfl rfl (by omega) (ls := [some (.ref 0), some (.int (nI (60 * j + i))), some (.int (nI w)), some (.int (nI 2)), none, none, none, none]) rfl (fun d' hd' => ?_)
  refine am_run 6 (pc' := 8) (ls' := [some (.ref 0), some (.int (nI (60 * j + i))), some (.int (nI w)), some (.int (nI 2)), none, none, none, none]) (st' := [.int (nI (60 * j + i)), .ref 6, .int (nI w), .int (nI (60 * j + i)), .ref 0]) (σ' := σ) rfl ?_
  refine am_ialdN (n := 180) (v := oI (p 1 i)) rfl rfl rfl (by omega) m1 (by decide) ?_
  refine am_top (v' := nI (p 1 i - 1)) (oI_p hg1) ?_
  refine am_invv (y := 192) (b := 0) (as := [.int (nI (60 * j + i)), .int (nI w), .int (nI (p 1 i - 1))]) (rest := []) rfl rfl rfl rfl rfl rfl rfl (Nat.le_of_ble_eq_true rfl) ?_
  refine c_m_isAt3 (by omega) hB (g := p 1 i - 1) hi hw (by omega) hE (fun ha_1 hb_1 => ?_) (fun ha_1 hb_1 => ?_) (fun ha_1 hb_1 => ?_)
  · show am_G _ M_X10_weakened _ 12 [some (.ref 0), some (.int (nI (60 * j + i))), some (.int (nI w)), some (.int (nI 2)), none, none, none, none] [.int (nI 1)] σ
    refine am_run 5 (pc' := 20) (ls' := [some (.ref 0), some (.int (nI (60 * j + i))), some (.int (nI w)), some (.int (nI 2)), some (.int (nI 1)), none, none, none]) (st' := [.int (nI (60 * j + i)), .ref 7, .ref 0]) (σ' := σ) rfl ?_
    refine am_ialdN (n := 180) (v := oI (p 2 i)) rfl rfl rfl (by omega) m2 (by decide) ?_
    refine am_run 2 (pc' := 23) (ls' := [some (.ref 0), some (.int (nI (60 * j + i))), some (.int (nI w)), some (.int (nI 2)), some (.int (nI 1)), none, none, none]) (st' := [.int (nI 2), .int (nI w), .int (oI (p 2 i)), .ref 0]) (σ' := σ) rfl ?_
    refine am_invv (y := 190) (b := 0) (as := [.int (oI (p 2 i)), .int (nI w), .int (nI 2)]) (rest := []) rfl rfl rfl rfl rfl rfl rfl (Nat.le_of_ble_eq_true rfl) ?_
    refine c_m_laid (by omega) hB w2 hw (by decide) (L2 (by omega) (by first | assumption | exact V2 (by omega) | exact V3 (by omega) (by assumption))).1 (fun r2 hr2 ok2 iv2 => ?_)
    obtain ⟨x2a, x2b, x2c, x2d⟩ := id ok2
    show am_G _ M_X10_weakened _ 26 [some (.ref 0), some (.int (nI (60 * j + i))), some (.int (nI w)), some (.int (nI 2)), some (.int (nI 1)), none, none, none] [.int (nI (eM r2))] σ
    refine am_run 3 (pc' := 31) (ls' := [some (.ref 0), some (.int (nI (60 * j + i))), some (.int (nI w)), some (.int (nI 2)), some (.int (nI 1)), some (.int (nI (eM r2))), none, none]) (st' := [.int (nI 2), .int (nI 1)]) (σ' := σ) rfl ?_
    refine am_ic (ty := 34) (tn := 37) rfl (by decide) rfl rfl (fun (h_3 : nI 1 = nI 2) => ?_) (fun (h_3 : ¬ (nI 1 = nI 2)) => ?_)
    · exact absurd h_3 (by decide)
    refine am_run 1 (pc' := 39) (ls' := [some (.ref 0), some (.int (nI (60 * j + i))), some (.int (nI w)), some (.int (nI 2)), some (.int (nI 1)), some (.int (nI (eM r2))), none, none]) (st' := [.int (nI (eM r2))]) (σ' := σ) rfl ?_
    refine am_invs (y := 187) (as := [.int (nI (eM r2))]) (rest := []) rfl rfl rfl rfl rfl rfl (Nat.le_of_ble_eq_true rfl) ?_
    refine c_m_mustCodes (by omega) (r := r2) ok2 ?_
    show am_G _ M_X10_weakened _ 42 [some (.ref 0), some (.int (nI (60 * j + i))), some (.int (nI w)), some (.int (nI 2)), some (.int (nI 1)), some (.int (nI (eM r2))), none, none] [.int (nI r2.2.2.1)] σ
    refine am_run 2 (pc' := 45) (ls' := [some (.ref 0), some (.int (nI (60 * j + i))), some (.int (nI w)), some (.int (nI 2)), some (.int (nI 1)), some (.int (nI (eM r2))), none, none]) (st' := [.int (nI r2.2.2.1 &&& (Int32.ofInt (-3)))]) (σ' := σ) rfl ?_
    refine am_top (v' := nI (cl r2.2.2.1 1)) (nx_cl1 _) ?_
    refine am_run 2 (pc' := 49) (ls' := [some (.ref 0), some (.int (nI (60 * j + i))), some (.int (nI w)), some (.int (nI 2)), some (.int (nI 1)), some (.int (nI (eM r2))), some (.int (nI (cl r2.2.2.1 1))), none]) (st' := [.int (nI (eM r2))]) (σ' := σ) rfl ?_
    refine am_invs (y := 188) (as := [.int (nI (eM r2))]) (rest := []) rfl rfl rfl rfl rfl rfl (Nat.le_of_ble_eq_true rfl) ?_
    refine c_m_canCodes (by omega) (r := r2) ok2 ?_
    show am_G _ M_X10_weakened _ 52 [some (.ref 0), some (.int (nI (60 * j + i))), some (.int (nI w)), some (.int (nI 2)), some (.int (nI 1)), some (.int (nI (eM r2))), some (.int (nI (cl r2.2.2.1 1))), none] [.int (nI r2.2.2.2)] σ
    refine am_run 3 (pc' := 57) (ls' := [some (.ref 0), some (.int (nI (60 * j + i))), some (.int (nI w)), some (.int (nI 2)), some (.int (nI 1)), some (.int (nI (eM r2))), some (.int (nI (cl r2.2.2.1 1))), some (.int (nI r2.2.2.2))]) (st' := [.int (nI 1), .int (nI 1)]) (σ' := σ) rfl ?_
    refine am_ic (ty := 60) (tn := 91) rfl (by decide) rfl rfl (fun (h_4 : nI 1 = nI 1) => ?_) (fun (h_4 : ¬ (nI 1 = nI 1)) => ?_)
    rotate_left
    · exact absurd (by decide) h_4
    refine am_run 2 (pc' := 64) (ls' := [some (.ref 0), some (.int (nI (60 * j + i))), some (.int (nI w)), some (.int (nI 2)), some (.int (nI 1)), some (.int (nI (eM r2))), some (.int (nI (cl r2.2.2.1 1))), some (.int (nI r2.2.2.2))]) (st' := [.int (nI (eM r2)), .int (nI (cl r2.2.2.1 1))]) (σ' := σ) rfl ?_
    refine am_invs (y := 187) (as := [.int (nI (eM r2))]) (rest := [.int (nI (cl r2.2.2.1 1))]) rfl rfl rfl rfl rfl rfl (Nat.le_of_ble_eq_true rfl) ?_
    refine c_m_mustCodes (by omega) (r := r2) ok2 ?_
    show am_G _ M_X10_weakened _ 67 [some (.ref 0), some (.int (nI (60 * j + i))), some (.int (nI w)), some (.int (nI 2)), some (.int (nI 1)), some (.int (nI (eM r2))), some (.int (nI (cl r2.2.2.1 1))), some (.int (nI r2.2.2.2))] [.int (nI r2.2.2.1), .int (nI (cl r2.2.2.1 1))] σ
    refine am_run 4 (pc' := 71) (ls' := [some (.ref 0), some (.int (nI (60 * j + i))), some (.int (nI w)), some (.int (nI 2)), some (.int (nI 1)), some (.int (nI (eM r2))), some (.int (nI (cl r2.2.2.1 1))), some (.int (nI r2.2.2.2))]) (st' := [.int (((nI r2.2.2.1) >>> ((nI 1) &&& 31)) &&& nI 1), .int (nI (cl r2.2.2.1 1))]) (σ' := σ) rfl ?_
    refine am_top (v' := nI (r2.2.2.1 / 2 % 2)) (nx_b1 (by omega)) ?_
    refine am_run 1 (pc' := 72) (ls' := [some (.ref 0), some (.int (nI (60 * j + i))), some (.int (nI w)), some (.int (nI 2)), some (.int (nI 1)), some (.int (nI (eM r2))), some (.int (nI (cl r2.2.2.1 1))), some (.int (nI r2.2.2.2))]) (st' := [.int (nI (cl r2.2.2.1 1) ||| nI (r2.2.2.1 / 2 % 2))]) (σ' := σ) rfl ?_
    refine am_top (v' := nI (cl (en r2.2.2.1) 1)) ((nx_or _ _).trans (congrArg nI (wkP _ (by omega)))) ?_
    refine am_run 4 (pc' := 79) (ls' := [some (.ref 0), some (.int (nI (60 * j + i))), some (.int (nI w)), some (.int (nI 2)), some (.int (nI 1)), some (.int (nI (eM r2))), some (.int (nI (cl (en r2.2.2.1) 1))), some (.int (nI r2.2.2.2))]) (st' := [.int (nI r2.2.2.2 &&& (Int32.ofInt (-3)))]) (σ' := σ) rfl ?_
    refine am_top (v' := nI (cl r2.2.2.2 1)) (nx_cl1 _) ?_
    refine am_run 5 (pc' := 85) (ls' := [some (.ref 0), some (.int (nI (60 * j + i))), some (.int (nI w)), some (.int (nI 2)), some (.int (nI 1)), some (.int (nI (eM r2))), some (.int (nI (cl (en r2.2.2.1) 1))), some (.int (nI r2.2.2.2))]) (st' := [.int (((nI r2.2.2.2) >>> ((nI 1) &&& 31)) &&& nI 1), .int (nI (cl r2.2.2.2 1))]) (σ' := σ) rfl ?_
    refine am_top (v' := nI (r2.2.2.2 / 2 % 2)) (nx_b1 (by omega)) ?_
    refine am_run 1 (pc' := 86) (ls' := [some (.ref 0), some (.int (nI (60 * j + i))), some (.int (nI w)), some (.int (nI 2)), some (.int (nI 1)), some (.int (nI (eM r2))), some (.int (nI (cl (en r2.2.2.1) 1))), some (.int (nI r2.2.2.2))]) (st' := [.int (nI (cl r2.2.2.2 1) ||| nI (r2.2.2.2 / 2 % 2))]) (σ' := σ) rfl ?_
    refine am_top (v' := nI (cl (en r2.2.2.2) 1)) ((nx_or _ _).trans (congrArg nI (wkP _ (by omega)))) ?_
    refine am_run 3 (pc' := 104) (ls' := [some (.ref 0), some (.int (nI (60 * j + i))), some (.int (nI w)), some (.int (nI 2)), some (.int (nI 1)), some (.int (nI (eM r2))), some (.int (nI (cl (en r2.2.2.1) 1))), some (.int (nI (cl (en r2.2.2.2) 1)))]) (st' := [.int (nI (eM r2))]) (σ' := σ) rfl ?_
    refine am_invs (y := 185) (as := [.int (nI (eM r2))]) (rest := []) rfl rfl rfl rfl rfl rfl (Nat.le_of_ble_eq_true rfl) ?_
    refine c_m_must (by omega) (r := r2) ok2 ?_
    show am_G _ M_X10_weakened _ 107 [some (.ref 0), some (.int (nI (60 * j + i))), some (.int (nI w)), some (.int (nI 2)), some (.int (nI 1)), some (.int (nI (eM r2))), some (.int (nI (cl (en r2.2.2.1) 1))), some (.int (nI (cl (en r2.2.2.2) 1)))] [.int (nI r2.1)] σ
    refine am_run 1 (pc' := 109) (ls' := [some (.ref 0), some (.int (nI (60 * j + i))), some (.int (nI w)), some (.int (nI 2)), some (.int (nI 1)), some (.int (nI (eM r2))), some (.int (nI (cl (en r2.2.2.1) 1))), some (.int (nI (cl (en r2.2.2.2) 1)))]) (st' := [.int (nI (eM r2)), .int (nI r2.1)]) (σ' := σ) rfl ?_
    refine am_invs (y := 186) (as := [.int (nI (eM r2))]) (rest := [.int (nI r2.1)]) rfl rfl rfl rfl rfl rfl (Nat.le_of_ble_eq_true rfl) ?_
    refine c_m_can (by omega) (r := r2) ok2 ?_
    show am_G _ M_X10_weakened _ 112 [some (.ref 0), some (.int (nI (60 * j + i))), some (.int (nI w)), some (.int (nI 2)), some (.int (nI 1)), some (.int (nI (eM r2))), some (.int (nI (cl (en r2.2.2.1) 1))), some (.int (nI (cl (en r2.2.2.2) 1)))] [.int (nI r2.2.1), .int (nI r2.1)] σ
    refine am_run 2 (pc' := 116) (ls' := [some (.ref 0), some (.int (nI (60 * j + i))), some (.int (nI w)), some (.int (nI 2)), some (.int (nI 1)), some (.int (nI (eM r2))), some (.int (nI (cl (en r2.2.2.1) 1))), some (.int (nI (cl (en r2.2.2.2) 1)))]) (st' := [.int (nI (cl (en r2.2.2.2) 1)), .int (nI (cl (en r2.2.2.1) 1)), .int (nI r2.2.1), .int (nI r2.1)]) (σ' := σ) rfl ?_
    refine am_invs (y := 184) (as := [.int (nI r2.1), .int (nI r2.2.1), .int (nI (cl (en r2.2.2.1) 1)), .int (nI (cl (en r2.2.2.2) 1))]) (rest := []) rfl rfl rfl rfl rfl rfl (Nat.le_of_ble_eq_true rfl) ?_
    refine c_m_packed (by omega) (m := r2.1) (c := r2.2.1) (k := cl (en r2.2.2.1) 1) (q := cl (en r2.2.2.2) 1) (by first | omega | decide | exact cl_lt (en_lt (by omega)) | exact en_lt (by omega) | exact cl_lt (by omega)) (by first | omega | decide | exact cl_lt (en_lt (by omega)) | exact en_lt (by omega) | exact cl_lt (by omega)) (by first | omega | decide | exact cl_lt (en_lt (by omega)) | exact en_lt (by omega) | exact cl_lt (by omega)) (by first | omega | decide | exact cl_lt (en_lt (by omega)) | exact en_lt (by omega) | exact cl_lt (by omega)) ?_
    show am_G _ M_X10_weakened _ 119 [some (.ref 0), some (.int (nI (60 * j + i))), some (.int (nI w)), some (.int (nI 2)), some (.int (nI 1)), some (.int (nI (eM r2))), some (.int (nI (cl (en r2.2.2.1) 1))), some (.int (nI (cl (en r2.2.2.2) 1)))] [.int (nI (eM (r2.1, r2.2.1, cl (en r2.2.2.1) 1, cl (en r2.2.2.2) 1)))] σ
    refine am_reti rfl rfl ?_
    have e : anB p (an p 61) i s true E.1 E.2 = (r2.1, r2.2.1, cl (en r2.2.2.1) 1, cl (en r2.2.2.2) 1) := by
      refine (anB_126 ht).trans ?_
      first | rfl | (simp only [*, if_true, if_false, ne_eq, not_false_eq_true, not_true_eq_false, true_or, false_or, or_false, or_true, or_self, and_true, true_and, and_false, false_and, and_self, Bool.false_eq_true, Bool.true_eq_false, reduceIte, Bool.and_true, Bool.and_false, Bool.true_and, Bool.false_and]; done) | (simp only [*, if_true, if_false, ne_eq, not_false_eq_true, not_true_eq_false, true_or, false_or, or_false, or_true, or_self, and_true, true_and, and_false, false_and, and_self, Bool.false_eq_true, Bool.true_eq_false, reduceIte, Bool.and_true, Bool.and_false, Bool.true_and, Bool.false_and]; rfl) | (simp only [*, if_true, if_false, ne_eq, not_false_eq_true, not_true_eq_false, true_or, false_or, or_false, or_true, or_self, and_true, true_and, and_false, false_and, and_self, Bool.false_eq_true, Bool.true_eq_false, reduceIte, Bool.and_true, Bool.and_false, Bool.true_and, Bool.false_and]; exact abt_or _) | (simp only [*, r_weakP, r_weakU, if_true, if_false, ne_eq, not_false_eq_true, not_true_eq_false, true_or, false_or, or_false, or_true, or_self, and_true, true_and, and_false, false_and, and_self, Bool.false_eq_true, Bool.true_eq_false, reduceIte, Bool.and_true, Bool.and_false, Bool.true_and, Bool.false_and]; rfl)
    rw [e] at hq
    exact hq
  · show am_G _ M_X10_weakened _ 12 [some (.ref 0), some (.int (nI (60 * j + i))), some (.int (nI w)), some (.int (nI 2)), none, none, none, none] [.int (nI 2)] σ
    refine am_run 5 (pc' := 20) (ls' := [some (.ref 0), some (.int (nI (60 * j + i))), some (.int (nI w)), some (.int (nI 2)), some (.int (nI 2)), none, none, none]) (st' := [.int (nI (60 * j + i)), .ref 7, .ref 0]) (σ' := σ) rfl ?_
    refine am_ialdN (n := 180) (v := oI (p 2 i)) rfl rfl rfl (by omega) m2 (by decide) ?_
    refine am_run 2 (pc' := 23) (ls' := [some (.ref 0), some (.int (nI (60 * j + i))), some (.int (nI w)), some (.int (nI 2)), some (.int (nI 2)), none, none, none]) (st' := [.int (nI 2), .int (nI w), .int (oI (p 2 i)), .ref 0]) (σ' := σ) rfl ?_
    refine am_invv (y := 190) (b := 0) (as := [.int (oI (p 2 i)), .int (nI w), .int (nI 2)]) (rest := []) rfl rfl rfl rfl rfl rfl rfl (Nat.le_of_ble_eq_true rfl) ?_
    refine c_m_laid (by omega) hB w2 hw (by decide) (L2 (by omega) (by first | assumption | exact V2 (by omega) | exact V3 (by omega) (by assumption))).1 (fun r5 hr5 ok5 iv5 => ?_)
    obtain ⟨x5a, x5b, x5c, x5d⟩ := id ok5
    show am_G _ M_X10_weakened _ 26 [some (.ref 0), some (.int (nI (60 * j + i))), some (.int (nI w)), some (.int (nI 2)), some (.int (nI 2)), none, none, none] [.int (nI (eM r5))] σ
    refine am_run 3 (pc' := 31) (ls' := [some (.ref 0), some (.int (nI (60 * j + i))), some (.int (nI w)), some (.int (nI 2)), some (.int (nI 2)), some (.int (nI (eM r5))), none, none]) (st' := [.int (nI 2), .int (nI 2)]) (σ' := σ) rfl ?_
    refine am_ic (ty := 34) (tn := 37) rfl (by decide) rfl rfl (fun (h_6 : nI 2 = nI 2) => ?_) (fun (h_6 : ¬ (nI 2 = nI 2)) => ?_)
    rotate_left
    · exact absurd (by decide) h_6
    refine am_run 1 (pc' := 36) (ls' := [some (.ref 0), some (.int (nI (60 * j + i))), some (.int (nI w)), some (.int (nI 2)), some (.int (nI 2)), some (.int (nI (eM r5))), none, none]) (st' := [.int (nI (eM r5))]) (σ' := σ) rfl ?_
    refine am_reti rfl rfl ?_
    have e : anB p (an p 61) i s true E.1 E.2 = r5 := by
      refine (anB_126 ht).trans ?_
      first | rfl | (simp only [*, if_true, if_false, ne_eq, not_false_eq_true, not_true_eq_false, true_or, false_or, or_false, or_true, or_self, and_true, true_and, and_false, false_and, and_self, Bool.false_eq_true, Bool.true_eq_false, reduceIte, Bool.and_true, Bool.and_false, Bool.true_and, Bool.false_and]; done) | (simp only [*, if_true, if_false, ne_eq, not_false_eq_true, not_true_eq_false, true_or, false_or, or_false, or_true, or_self, and_true, true_and, and_false, false_and, and_self, Bool.false_eq_true, Bool.true_eq_false, reduceIte, Bool.and_true, Bool.and_false, Bool.true_and, Bool.false_and]; rfl) | (simp only [*, if_true, if_false, ne_eq, not_false_eq_true, not_true_eq_false, true_or, false_or, or_false, or_true, or_self, and_true, true_and, and_false, false_and, and_self, Bool.false_eq_true, Bool.true_eq_false, reduceIte, Bool.and_true, Bool.and_false, Bool.true_and, Bool.false_and]; exact abt_or _) | (simp only [*, r_weakP, r_weakU, if_true, if_false, ne_eq, not_false_eq_true, not_true_eq_false, true_or, false_or, or_false, or_true, or_self, and_true, true_and, and_false, false_and, and_self, Bool.false_eq_true, Bool.true_eq_false, reduceIte, Bool.and_true, Bool.and_false, Bool.true_and, Bool.false_and]; rfl)
    rw [e] at hq
    exact hq
  · show am_G _ M_X10_weakened _ 12 [some (.ref 0), some (.int (nI (60 * j + i))), some (.int (nI w)), some (.int (nI 2)), none, none, none, none] [.int (nI 0)] σ
    refine am_run 5 (pc' := 20) (ls' := [some (.ref 0), some (.int (nI (60 * j + i))), some (.int (nI w)), some (.int (nI 2)), some (.int (nI 0)), none, none, none]) (st' := [.int (nI (60 * j + i)), .ref 7, .ref 0]) (σ' := σ) rfl ?_
    refine am_ialdN (n := 180) (v := oI (p 2 i)) rfl rfl rfl (by omega) m2 (by decide) ?_
    refine am_run 2 (pc' := 23) (ls' := [some (.ref 0), some (.int (nI (60 * j + i))), some (.int (nI w)), some (.int (nI 2)), some (.int (nI 0)), none, none, none]) (st' := [.int (nI 2), .int (nI w), .int (oI (p 2 i)), .ref 0]) (σ' := σ) rfl ?_
    refine am_invv (y := 190) (b := 0) (as := [.int (oI (p 2 i)), .int (nI w), .int (nI 2)]) (rest := []) rfl rfl rfl rfl rfl rfl rfl (Nat.le_of_ble_eq_true rfl) ?_
    refine c_m_laid (by omega) hB w2 hw (by decide) (L2 (by omega) (by first | assumption | exact V2 (by omega) | exact V3 (by omega) (by assumption))).1 (fun r7 hr7 ok7 iv7 => ?_)
    obtain ⟨x7a, x7b, x7c, x7d⟩ := id ok7
    show am_G _ M_X10_weakened _ 26 [some (.ref 0), some (.int (nI (60 * j + i))), some (.int (nI w)), some (.int (nI 2)), some (.int (nI 0)), none, none, none] [.int (nI (eM r7))] σ
    refine am_run 3 (pc' := 31) (ls' := [some (.ref 0), some (.int (nI (60 * j + i))), some (.int (nI w)), some (.int (nI 2)), some (.int (nI 0)), some (.int (nI (eM r7))), none, none]) (st' := [.int (nI 2), .int (nI 0)]) (σ' := σ) rfl ?_
    refine am_ic (ty := 34) (tn := 37) rfl (by decide) rfl rfl (fun (h_8 : nI 0 = nI 2) => ?_) (fun (h_8 : ¬ (nI 0 = nI 2)) => ?_)
    · exact absurd h_8 (by decide)
    refine am_run 1 (pc' := 39) (ls' := [some (.ref 0), some (.int (nI (60 * j + i))), some (.int (nI w)), some (.int (nI 2)), some (.int (nI 0)), some (.int (nI (eM r7))), none, none]) (st' := [.int (nI (eM r7))]) (σ' := σ) rfl ?_
    refine am_invs (y := 187) (as := [.int (nI (eM r7))]) (rest := []) rfl rfl rfl rfl rfl rfl (Nat.le_of_ble_eq_true rfl) ?_
    refine c_m_mustCodes (by omega) (r := r7) ok7 ?_
    show am_G _ M_X10_weakened _ 42 [some (.ref 0), some (.int (nI (60 * j + i))), some (.int (nI w)), some (.int (nI 2)), some (.int (nI 0)), some (.int (nI (eM r7))), none, none] [.int (nI r7.2.2.1)] σ
    refine am_run 2 (pc' := 45) (ls' := [some (.ref 0), some (.int (nI (60 * j + i))), some (.int (nI w)), some (.int (nI 2)), some (.int (nI 0)), some (.int (nI (eM r7))), none, none]) (st' := [.int (nI r7.2.2.1 &&& (Int32.ofInt (-3)))]) (σ' := σ) rfl ?_
    refine am_top (v' := nI (cl r7.2.2.1 1)) (nx_cl1 _) ?_
    refine am_run 2 (pc' := 49) (ls' := [some (.ref 0), some (.int (nI (60 * j + i))), some (.int (nI w)), some (.int (nI 2)), some (.int (nI 0)), some (.int (nI (eM r7))), some (.int (nI (cl r7.2.2.1 1))), none]) (st' := [.int (nI (eM r7))]) (σ' := σ) rfl ?_
    refine am_invs (y := 188) (as := [.int (nI (eM r7))]) (rest := []) rfl rfl rfl rfl rfl rfl (Nat.le_of_ble_eq_true rfl) ?_
    refine c_m_canCodes (by omega) (r := r7) ok7 ?_
    show am_G _ M_X10_weakened _ 52 [some (.ref 0), some (.int (nI (60 * j + i))), some (.int (nI w)), some (.int (nI 2)), some (.int (nI 0)), some (.int (nI (eM r7))), some (.int (nI (cl r7.2.2.1 1))), none] [.int (nI r7.2.2.2)] σ
    refine am_run 3 (pc' := 57) (ls' := [some (.ref 0), some (.int (nI (60 * j + i))), some (.int (nI w)), some (.int (nI 2)), some (.int (nI 0)), some (.int (nI (eM r7))), some (.int (nI (cl r7.2.2.1 1))), some (.int (nI r7.2.2.2))]) (st' := [.int (nI 1), .int (nI 0)]) (σ' := σ) rfl ?_
    refine am_ic (ty := 60) (tn := 91) rfl (by decide) rfl rfl (fun (h_9 : nI 0 = nI 1) => ?_) (fun (h_9 : ¬ (nI 0 = nI 1)) => ?_)
    · exact absurd h_9 (by decide)
    refine am_run 6 (pc' := 99) (ls' := [some (.ref 0), some (.int (nI (60 * j + i))), some (.int (nI w)), some (.int (nI 2)), some (.int (nI 0)), some (.int (nI (eM r7))), some (.int (nI (cl r7.2.2.1 1))), some (.int (nI r7.2.2.2))]) (st' := [.int (((nI r7.2.2.2) >>> ((nI 1) &&& 31)) &&& nI 1), .int (nI r7.2.2.2)]) (σ' := σ) rfl ?_
    refine am_top (v' := nI (r7.2.2.2 / 2 % 2)) (nx_b1 (by omega)) ?_
    refine am_run 1 (pc' := 100) (ls' := [some (.ref 0), some (.int (nI (60 * j + i))), some (.int (nI w)), some (.int (nI 2)), some (.int (nI 0)), some (.int (nI (eM r7))), some (.int (nI (cl r7.2.2.1 1))), some (.int (nI r7.2.2.2))]) (st' := [.int (nI r7.2.2.2 ||| nI (r7.2.2.2 / 2 % 2))]) (σ' := σ) rfl ?_
    refine am_top (v' := nI (en r7.2.2.2)) ((nx_or _ _).trans (congrArg nI (wkU _ (by omega)))) ?_
    refine am_run 2 (pc' := 104) (ls' := [some (.ref 0), some (.int (nI (60 * j + i))), some (.int (nI w)), some (.int (nI 2)), some (.int (nI 0)), some (.int (nI (eM r7))), some (.int (nI (cl r7.2.2.1 1))), some (.int (nI (en r7.2.2.2)))]) (st' := [.int (nI (eM r7))]) (σ' := σ) rfl ?_
    refine am_invs (y := 185) (as := [.int (nI (eM r7))]) (rest := []) rfl rfl rfl rfl rfl rfl (Nat.le_of_ble_eq_true rfl) ?_
    refine c_m_must (by omega) (r := r7) ok7 ?_
    show am_G _ M_X10_weakened _ 107 [some (.ref 0), some (.int (nI (60 * j + i))), some (.int (nI w)), some (.int (nI 2)), some (.int (nI 0)), some (.int (nI (eM r7))), some (.int (nI (cl r7.2.2.1 1))), some (.int (nI (en r7.2.2.2)))] [.int (nI r7.1)] σ
    refine am_run 1 (pc' := 109) (ls' := [some (.ref 0), some (.int (nI (60 * j + i))), some (.int (nI w)), some (.int (nI 2)), some (.int (nI 0)), some (.int (nI (eM r7))), some (.int (nI (cl r7.2.2.1 1))), some (.int (nI (en r7.2.2.2)))]) (st' := [.int (nI (eM r7)), .int (nI r7.1)]) (σ' := σ) rfl ?_
    refine am_invs (y := 186) (as := [.int (nI (eM r7))]) (rest := [.int (nI r7.1)]) rfl rfl rfl rfl rfl rfl (Nat.le_of_ble_eq_true rfl) ?_
    refine c_m_can (by omega) (r := r7) ok7 ?_
    show am_G _ M_X10_weakened _ 112 [some (.ref 0), some (.int (nI (60 * j + i))), some (.int (nI w)), some (.int (nI 2)), some (.int (nI 0)), some (.int (nI (eM r7))), some (.int (nI (cl r7.2.2.1 1))), some (.int (nI (en r7.2.2.2)))] [.int (nI r7.2.1), .int (nI r7.1)] σ
    refine am_run 2 (pc' := 116) (ls' := [some (.ref 0), some (.int (nI (60 * j + i))), some (.int (nI w)), some (.int (nI 2)), some (.int (nI 0)), some (.int (nI (eM r7))), some (.int (nI (cl r7.2.2.1 1))), some (.int (nI (en r7.2.2.2)))]) (st' := [.int (nI (en r7.2.2.2)), .int (nI (cl r7.2.2.1 1)), .int (nI r7.2.1), .int (nI r7.1)]) (σ' := σ) rfl ?_
    refine am_invs (y := 184) (as := [.int (nI r7.1), .int (nI r7.2.1), .int (nI (cl r7.2.2.1 1)), .int (nI (en r7.2.2.2))]) (rest := []) rfl rfl rfl rfl rfl rfl (Nat.le_of_ble_eq_true rfl) ?_
    refine c_m_packed (by omega) (m := r7.1) (c := r7.2.1) (k := cl r7.2.2.1 1) (q := en r7.2.2.2) (by first | omega | decide | exact cl_lt (en_lt (by omega)) | exact en_lt (by omega) | exact cl_lt (by omega)) (by first | omega | decide | exact cl_lt (en_lt (by omega)) | exact en_lt (by omega) | exact cl_lt (by omega)) (by first | omega | decide | exact cl_lt (en_lt (by omega)) | exact en_lt (by omega) | exact cl_lt (by omega)) (by first | omega | decide | exact cl_lt (en_lt (by omega)) | exact en_lt (by omega) | exact cl_lt (by omega)) ?_
    show am_G _ M_X10_weakened _ 119 [some (.ref 0), some (.int (nI (60 * j + i))), some (.int (nI w)), some (.int (nI 2)), some (.int (nI 0)), some (.int (nI (eM r7))), some (.int (nI (cl r7.2.2.1 1))), some (.int (nI (en r7.2.2.2)))] [.int (nI (eM (r7.1, r7.2.1, cl r7.2.2.1 1, en r7.2.2.2)))] σ
    refine am_reti rfl rfl ?_
    have e : anB p (an p 61) i s true E.1 E.2 = (r7.1, r7.2.1, cl r7.2.2.1 1, en r7.2.2.2) := by
      refine (anB_126 ht).trans ?_
      first | rfl | (simp only [*, if_true, if_false, ne_eq, not_false_eq_true, not_true_eq_false, true_or, false_or, or_false, or_true, or_self, and_true, true_and, and_false, false_and, and_self, Bool.false_eq_true, Bool.true_eq_false, reduceIte, Bool.and_true, Bool.and_false, Bool.true_and, Bool.false_and]; done) | (simp only [*, if_true, if_false, ne_eq, not_false_eq_true, not_true_eq_false, true_or, false_or, or_false, or_true, or_self, and_true, true_and, and_false, false_and, and_self, Bool.false_eq_true, Bool.true_eq_false, reduceIte, Bool.and_true, Bool.and_false, Bool.true_and, Bool.false_and]; rfl) | (simp only [*, if_true, if_false, ne_eq, not_false_eq_true, not_true_eq_false, true_or, false_or, or_false, or_true, or_self, and_true, true_and, and_false, false_and, and_self, Bool.false_eq_true, Bool.true_eq_false, reduceIte, Bool.and_true, Bool.and_false, Bool.true_and, Bool.false_and]; exact abt_or _) | (simp only [*, r_weakP, r_weakU, if_true, if_false, ne_eq, not_false_eq_true, not_true_eq_false, true_or, false_or, or_false, or_true, or_self, and_true, true_and, and_false, false_and, and_self, Bool.false_eq_true, Bool.true_eq_false, reduceIte, Bool.and_true, Bool.and_false, Bool.true_and, Bool.false_and]; rfl)
    rw [e] at hq
    exact hq
set_option maxRecDepth 10000 in
set_option maxHeartbeats 2000000 in
theorem c_m_broken3 {d : Nat} (hd : 4 ≤ d) {σ : am_M} {j s P A n : Nat} {p : Pg} {dp : Nat → Nat} {ow : Nat → Nat → Nat} (hB : MB σ j s P A p n dp ow) {i w : Nat} {E : Nat × Nat} (hi : i < n) (hw3 : w < 3 ^ dp i) (hE : evn (ow i) w P A (dp i) = E) (hs1 : ¬ s = 1048576) (ht : p 0 i = 64) (L2 : ¬ p 0 i = 36 → lv p (p 2 i) s = true → KD σ p (p 2 i) w 2 s true E ∧ KD σ p (p 2 i) w 3 s false E) (L3 : ¬ p 0 i = 36 → lv p (p 3 i) s = true → KD σ p (p 3 i) w 2 s true E ∧ KD σ p (p 3 i) w 3 s false E) (V2 : p 0 i = 42 ∨ p 0 i = 94 ∨ p 0 i = 64 ∨ p 0 i = 126 → lv p (p 2 i) s = true) (V3 : p 0 i = 63 ∨ p 0 i = 59 → lv p (p 2 i) s = false → lv p (p 3 i) s = true) {Q : am_Q} (hq : Q (some (.int (nI (eM (anB p (an p 61) i s false E.1 E.2))))) σ) : am_C d 206 [.ref 0, .int (nI (60 * j + i)), .int (nI w), .int (nI 3)] σ Q := by
  obtain ⟨hj, hS, hW, hs, hN, hdj, hP, hA⟩ := id hB
  obtain ⟨hS1, hS2, hS3, hS4⟩ := id hS
  obtain ⟨⟨m0, m1, m2, m3, m4, m5, m6⟩, hdp, how⟩ := hN i hi
  obtain ⟨w0, w1, w2, w3, w4, w5, w6⟩ := hW.2 i hi
  have hn60 := hW.1
  have hw := wy0 hdp hw3
  have hg1 : 1 ≤ p 1 i := w5 (by rw [ht]; decide)
  refine am_enter' (M := M_X10_broken) rfl rfl rfl (by omega) (ls := [some (.ref 0), some (.int (nI (60 * j + i))), some (.int (nI w)), some (.int (nI 3)), none]) rfl (fun d' hd' => ?_)
  refine am_run 6 (pc' := 8) (ls' := [some (.ref 0), some (.int (nI (60 * j + i))), some (.int (nI w)), some (.int (nI 3)), none]) (st' := [.int (nI (60 * j + i)), .ref 6, .int (nI w), .int (nI (60 * j + i)), .ref 0]) (σ' := σ) rfl ?_
  refine am_ialdN (n := 180) (v := oI (p 1 i)) rfl rfl rfl (by omega) m1 (by decide) ?_
  refine am_top (v' := nI (p 1 i - 1)) (oI_p hg1) ?_
  refine am_invv (y := 192) (b := 0) (as := [.int (nI (60 * j + i)), .int (nI w), .int (nI (p 1 i - 1))]) (rest := []) rfl rfl rfl rfl rfl rfl rfl (Nat.le_of_ble_eq_true rfl) ?_
  refine c_m_isAt3 (by omega) hB (g := p 1 i - 1) hi hw (by omega) hE (fun ha_1 hb_1 => ?_) (fun ha_1 hb_1 => ?_) (fun ha_1 hb_1 => ?_)
  · show am_G _ M_X10_broken _ 12 [some (.ref 0), some (.int (nI (60 * j + i))), some (.int (nI w)), some (.int (nI 3)), none] [.int (nI 1)] σ
    refine am_run 3 (pc' := 17) (ls' := [some (.ref 0), some (.int (nI (60 * j + i))), some (.int (nI w)), some (.int (nI 3)), some (.int (nI 1))]) (st' := [.int (nI 1), .int (nI 1)]) (σ' := σ) rfl ?_
    refine am_ic (ty := 20) (tn := 25) rfl (by decide) rfl rfl (fun (h_2 : nI 1 = nI 1) => ?_) (fun (h_2 : ¬ (nI 1 = nI 1)) => ?_)
    rotate_left
    · exact absurd (by decide) h_2
    refine am_run 1 (pc' := 21) (ls' := [some (.ref 0), some (.int (nI (60 * j + i))), some (.int (nI w)), some (.int (nI 3)), some (.int (nI 1))]) (st' := [.int (nI 1)]) (σ' := σ) rfl ?_
    refine am_invs (y := 191) (as := [.int (nI 1)]) (rest := []) rfl rfl rfl rfl rfl rfl (Nat.le_of_ble_eq_true rfl) ?_
    refine c_m_code (by omega) (k := 1) (by first | omega | decide | exact pow_lt_256 (by omega) | exact or_lt8 (by omega) (by omega) | exact or_lt7 (by omega) (by omega) | exact mx_lt (by omega) (by omega) | exact ct_lt (by omega) | exact or_lt7 (cl_lt (by omega)) (by omega) | exact cl_lt (by omega) | exact or_lt7 (cl_lt (by omega)) (tb_lt _)) ?_
    show am_G _ M_X10_broken _ 24 [some (.ref 0), some (.int (nI (60 * j + i))), some (.int (nI w)), some (.int (nI 3)), some (.int (nI 1))] [.int (nI (eM (r_cd 1)))] σ
    refine am_reti rfl rfl ?_
    have e : anB p (an p 61) i s false E.1 E.2 = (r_cd 1) := by
      refine (anB_64 ht).trans ?_
      first | rfl | (simp only [*, if_true, if_false, ne_eq, not_false_eq_true, not_true_eq_false, true_or, false_or, or_false, or_true, or_self, and_true, true_and, and_false, false_and, and_self, Bool.false_eq_true, Bool.true_eq_false, reduceIte, Bool.and_true, Bool.and_false, Bool.true_and, Bool.false_and]; done) | (simp only [*, if_true, if_false, ne_eq, not_false_eq_true, not_true_eq_false, true_or, false_or, or_false, or_true, or_self, and_true, true_and, and_false, false_and, and_self, Bool.false_eq_true, Bool.true_eq_false, reduceIte, Bool.and_true, Bool.and_false, Bool.true_and, Bool.false_and]; rfl) | (simp only [*, if_true, if_false, ne_eq, not_false_eq_true, not_true_eq_false, true_or, false_or, or_false, or_true, or_self, and_true, true_and, and_false, false_and, and_self, Bool.false_eq_true, Bool.true_eq_false, reduceIte, Bool.and_true, Bool.and_false, Bool.true_and, Bool.false_and]; exact abt_or _) | (simp only [*, r_weakP, r_weakU, if_true, if_false, ne_eq, not_false_eq_true, not_true_eq_false, true_or, false_or, or_false, or_true, or_self, and_true, true_and, and_false, false_and, and_self, Bool.false_eq_true, Bool.true_eq_false, reduceIte, Bool.and_true, Bool.and_false, Bool.true_and, Bool.false_and]; rfl)
    rw [e] at hq
    exact hq
  · show am_G _ M_X10_broken _ 12 [some (.ref 0), some (.int (nI (60 * j + i))), some (.int (nI w)), some (.int (nI 3)), none] [.int (nI 2)] σ
    refine am_run 3 (pc' := 17) (ls' := [some (.ref 0), some (.int (nI (60 * j + i))), some (.int (nI w)), some (.int (nI 3)), some (.int (nI 2))]) (st' := [.int (nI 1), .int (nI 2)]) (σ' := σ) rfl ?_
    refine am_ic (ty := 20) (tn := 25) rfl (by decide) rfl rfl (fun (h_3 : nI 2 = nI 1) => ?_) (fun (h_3 : ¬ (nI 2 = nI 1)) => ?_)
    · exact absurd h_3 (by decide)
    refine am_run 2 (pc' := 28) (ls' := [some (.ref 0), some (.int (nI (60 * j + i))), some (.int (nI w)), some (.int (nI 3)), some (.int (nI 2))]) (st' := [.int (nI 2), .int (nI 2)]) (σ' := σ) rfl ?_
    refine am_ic (ty := 31) (tn := 44) rfl (by decide) rfl rfl (fun (h_4 : nI 2 = nI 2) => ?_) (fun (h_4 : ¬ (nI 2 = nI 2)) => ?_)
    rotate_left
    · exact absurd (by decide) h_4
    refine am_run 4 (pc' := 37) (ls' := [some (.ref 0), some (.int (nI (60 * j + i))), some (.int (nI w)), some (.int (nI 3)), some (.int (nI 2))]) (st' := [.int (nI (60 * j + i)), .ref 7, .ref 0]) (σ' := σ) rfl ?_
    refine am_ialdN (n := 180) (v := oI (p 2 i)) rfl rfl rfl (by omega) m2 (by decide) ?_
    refine am_run 2 (pc' := 40) (ls' := [some (.ref 0), some (.int (nI (60 * j + i))), some (.int (nI w)), some (.int (nI 3)), some (.int (nI 2))]) (st' := [.int (nI 3), .int (nI w), .int (oI (p 2 i)), .ref 0]) (σ' := σ) rfl ?_
    refine am_invv (y := 190) (b := 0) (as := [.int (oI (p 2 i)), .int (nI w), .int (nI 3)]) (rest := []) rfl rfl rfl rfl rfl rfl rfl (Nat.le_of_ble_eq_true rfl) ?_
    refine c_m_laid (by omega) hB w2 hw (by decide) (L2 (by omega) (by first | assumption | exact V2 (by omega) | exact V3 (by omega) (by assumption))).2 (fun r5 hr5 ok5 iv5 => ?_)
    obtain ⟨x5a, x5b, x5c, x5d⟩ := id ok5
    show am_G _ M_X10_broken _ 43 [some (.ref 0), some (.int (nI (60 * j + i))), some (.int (nI w)), some (.int (nI 3)), some (.int (nI 2))] [.int (nI (eM r5))] σ
    refine am_reti rfl rfl ?_
    have e : anB p (an p 61) i s false E.1 E.2 = r5 := by
      refine (anB_64 ht).trans ?_
      first | rfl | (simp only [*, if_true, if_false, ne_eq, not_false_eq_true, not_true_eq_false, true_or, false_or, or_false, or_true, or_self, and_true, true_and, and_false, false_and, and_self, Bool.false_eq_true, Bool.true_eq_false, reduceIte, Bool.and_true, Bool.and_false, Bool.true_and, Bool.false_and]; done) | (simp only [*, if_true, if_false, ne_eq, not_false_eq_true, not_true_eq_false, true_or, false_or, or_false, or_true, or_self, and_true, true_and, and_false, false_and, and_self, Bool.false_eq_true, Bool.true_eq_false, reduceIte, Bool.and_true, Bool.and_false, Bool.true_and, Bool.false_and]; rfl) | (simp only [*, if_true, if_false, ne_eq, not_false_eq_true, not_true_eq_false, true_or, false_or, or_false, or_true, or_self, and_true, true_and, and_false, false_and, and_self, Bool.false_eq_true, Bool.true_eq_false, reduceIte, Bool.and_true, Bool.and_false, Bool.true_and, Bool.false_and]; exact abt_or _) | (simp only [*, r_weakP, r_weakU, if_true, if_false, ne_eq, not_false_eq_true, not_true_eq_false, true_or, false_or, or_false, or_true, or_self, and_true, true_and, and_false, false_and, and_self, Bool.false_eq_true, Bool.true_eq_false, reduceIte, Bool.and_true, Bool.and_false, Bool.true_and, Bool.false_and]; rfl)
    rw [e] at hq
    exact hq
  · show am_G _ M_X10_broken _ 12 [some (.ref 0), some (.int (nI (60 * j + i))), some (.int (nI w)), some (.int (nI 3)), none] [.int (nI 0)] σ
    refine am_run 3 (pc' := 17) (ls' := [some (.ref 0), some (.int (nI (60 * j + i))), some (.int (nI w)), some (.int (nI 3)), some (.int (nI 0))]) (st' := [.int (nI 1), .int (nI 0)]) (σ' := σ) rfl ?_
    refine am_ic (ty := 20) (tn := 25) rfl (by decide) rfl rfl (fun (h_6 : nI 0 = nI 1) => ?_) (fun (h_6 : ¬ (nI 0 = nI 1)) => ?_)
    · exact absurd h_6 (by decide)
    refine am_run 2 (pc' := 28) (ls' := [some (.ref 0), some (.int (nI (60 * j + i))), some (.int (nI w)), some (.int (nI 3)), some (.int (nI 0))]) (st' := [.int (nI 2), .int (nI 0)]) (σ' := σ) rfl ?_
    refine am_ic (ty := 31) (tn := 44) rfl (by decide) rfl rfl (fun (h_7 : nI 0 = nI 2) => ?_) (fun (h_7 : ¬ (nI 0 = nI 2)) => ?_)
    · exact absurd h_7 (by decide)
    refine am_run 1 (pc' := 45) (ls' := [some (.ref 0), some (.int (nI (60 * j + i))), some (.int (nI w)), some (.int (nI 3)), some (.int (nI 0))]) (st' := [.int (nI 1)]) (σ' := σ) rfl ?_
    refine am_invs (y := 191) (as := [.int (nI 1)]) (rest := []) rfl rfl rfl rfl rfl rfl (Nat.le_of_ble_eq_true rfl) ?_
    refine c_m_code (by omega) (k := 1) (by first | omega | decide | exact pow_lt_256 (by omega) | exact or_lt8 (by omega) (by omega) | exact or_lt7 (by omega) (by omega) | exact mx_lt (by omega) (by omega) | exact ct_lt (by omega) | exact or_lt7 (cl_lt (by omega)) (by omega) | exact cl_lt (by omega) | exact or_lt7 (cl_lt (by omega)) (tb_lt _)) ?_
    show am_G _ M_X10_broken _ 48 [some (.ref 0), some (.int (nI (60 * j + i))), some (.int (nI w)), some (.int (nI 3)), some (.int (nI 0))] [.int (nI (eM (r_cd 1)))] σ
    refine am_run 4 (pc' := 54) (ls' := [some (.ref 0), some (.int (nI (60 * j + i))), some (.int (nI w)), some (.int (nI 3)), some (.int (nI 0))]) (st' := [.int (nI (60 * j + i)), .ref 7, .ref 0, .int (nI (eM (r_cd 1)))]) (σ' := σ) rfl ?_
    refine am_ialdN (n := 180) (v := oI (p 2 i)) rfl rfl rfl (by omega) m2 (by decide) ?_
    refine am_run 2 (pc' := 57) (ls' := [some (.ref 0), some (.int (nI (60 * j + i))), some (.int (nI w)), some (.int (nI 3)), some (.int (nI 0))]) (st' := [.int (nI 3), .int (nI w), .int (oI (p 2 i)), .ref 0, .int (nI (eM (r_cd 1)))]) (σ' := σ) rfl ?_
    refine am_invv (y := 190) (b := 0) (as := [.int (oI (p 2 i)), .int (nI w), .int (nI 3)]) (rest := [.int (nI (eM (r_cd 1)))]) rfl rfl rfl rfl rfl rfl rfl (Nat.le_of_ble_eq_true rfl) ?_
    refine c_m_laid (by omega) hB w2 hw (by decide) (L2 (by omega) (by first | assumption | exact V2 (by omega) | exact V3 (by omega) (by assumption))).2 (fun r8 hr8 ok8 iv8 => ?_)
    obtain ⟨x8a, x8b, x8c, x8d⟩ := id ok8
    show am_G _ M_X10_broken _ 60 [some (.ref 0), some (.int (nI (60 * j + i))), some (.int (nI w)), some (.int (nI 3)), some (.int (nI 0))] [.int (nI (eM r8)), .int (nI (eM (r_cd 1)))] σ
    refine am_invs (y := 199) (as := [.int (nI (eM (r_cd 1))), .int (nI (eM r8))]) (rest := []) rfl rfl rfl rfl rfl rfl (Nat.le_of_ble_eq_true rfl) ?_
    refine c_m_perhapsOf (by omega) (a := (r_cd 1)) (b := r8) (ok_cd (by decide)) ok8 ?_
    show am_G _ M_X10_broken _ 63 [some (.ref 0), some (.int (nI (60 * j + i))), some (.int (nI w)), some (.int (nI 3)), some (.int (nI 0))] [.int (nI (eM (r_or (r_cd 1) r8)))] σ
    refine am_reti rfl rfl ?_
    have e : anB p (an p 61) i s false E.1 E.2 = (r_or (r_cd 1) r8) := by
      refine (anB_64 ht).trans ?_
      first | rfl | (simp only [*, if_true, if_false, ne_eq, not_false_eq_true, not_true_eq_false, true_or, false_or, or_false, or_true, or_self, and_true, true_and, and_false, false_and, and_self, Bool.false_eq_true, Bool.true_eq_false, reduceIte, Bool.and_true, Bool.and_false, Bool.true_and, Bool.false_and]; done) | (simp only [*, if_true, if_false, ne_eq, not_false_eq_true, not_true_eq_false, true_or, false_or, or_false, or_true, or_self, and_true, true_and, and_false, false_and, and_self, Bool.false_eq_true, Bool.true_eq_false, reduceIte, Bool.and_true, Bool.and_false, Bool.true_and, Bool.false_and]; rfl) | (simp only [*, if_true, if_false, ne_eq, not_false_eq_true, not_true_eq_false, true_or, false_or, or_false, or_true, or_self, and_true, true_and, and_false, false_and, and_self, Bool.false_eq_true, Bool.true_eq_false, reduceIte, Bool.and_true, Bool.and_false, Bool.true_and, Bool.false_and]; exact abt_or _) | (simp only [*, r_weakP, r_weakU, if_true, if_false, ne_eq, not_false_eq_true, not_true_eq_false, true_or, false_or, or_false, or_true, or_self, and_true, true_and, and_false, false_and, and_self, Bool.false_eq_true, Bool.true_eq_false, reduceIte, Bool.and_true, Bool.and_false, Bool.true_and, Bool.false_and]; rfl)
    rw [e] at hq
    exact hq
set_option maxRecDepth 10000 in
set_option maxHeartbeats 2000000 in
theorem c_m_weakened3 {d : Nat} (hd : 4 ≤ d) {σ : am_M} {j s P A n : Nat} {p : Pg} {dp : Nat → Nat} {ow : Nat → Nat → Nat} (hB : MB σ j s P A p n dp ow) {i w : Nat} {E : Nat × Nat} (hi : i < n) (hw3 : w < 3 ^ dp i) (hE : evn (ow i) w P A (dp i) = E) (hs1 : ¬ s = 1048576) (ht : p 0 i = 126) (L2 : ¬ p 0 i = 36 → lv p (p 2 i) s = true → KD σ p (p 2 i) w 2 s true E ∧ KD σ p (p 2 i) w 3 s false E) (L3 : ¬ p 0 i = 36 → lv p (p 3 i) s = true → KD σ p (p 3 i) w 2 s true E ∧ KD σ p (p 3 i) w 3 s false E) (V2 : p 0 i = 42 ∨ p 0 i = 94 ∨ p 0 i = 64 ∨ p 0 i = 126 → lv p (p 2 i) s = true) (V3 : p 0 i = 63 ∨ p 0 i = 59 → lv p (p 2 i) s = false → lv p (p 3 i) s = true) {Q : am_Q} (hq : Q (some (.int (nI (eM (anB p (an p 61) i s false E.1 E.2))))) σ) : am_C d 207 [.ref 0, .int (nI (60 * j + i)), .int (nI w), .int (nI 3)] σ Q := by
  obtain ⟨hj, hS, hW, hs, hN, hdj, hP, hA⟩ := id hB
  obtain ⟨hS1, hS2, hS3, hS4⟩ := id hS
  obtain ⟨⟨m0, m1, m2, m3, m4, m5, m6⟩, hdp, how⟩ := hN i hi
  obtain ⟨w0, w1, w2, w3, w4, w5, w6⟩ := hW.2 i hi
  have hn60 := hW.1
  have hw := wy0 hdp hw3
  have hg1 : 1 ≤ p 1 i := w5 (by rw [ht]; decide)
  refine am_enter' (M := M_X10_weakened) rfl rfl rfl (by omega) (ls := [some (.ref 0), some (.int (nI (60 * j + i))), some (.int (nI w)), some (.int (nI 3)), none, none, none, none]) rfl (fun d' hd' => ?_)
  refine am_run 6 (pc' := 8) (ls' := [some (.ref 0), some (.int (nI (60 * j + i))), some (.int (nI w)), some (.int (nI 3)), none, none, none, none]) (st' := [.int (nI (60 * j + i)), .ref 6, .int (nI w), .int (nI (60 * j + i)), .ref 0]) (σ' := σ) rfl ?_
  refine am_ialdN (n := 180) (v := oI (p 1 i)) rfl rfl rfl (by omega) m1 (by decide) ?_
  refine am_top (v' := nI (p 1 i - 1)) (oI_p hg1) ?_
  refine am_invv (y := 192) (b := 0) (as := [.int (nI (60 * j + i)), .int (nI w), .int (nI (p 1 i - 1))]) (rest := []) rfl rfl rfl rfl rfl rfl rfl (Nat.le_of_ble_eq_true rfl) ?_
  refine c_m_isAt3 (by omega) hB (g := p 1 i - 1) hi hw (by omega) hE (fun ha_1 hb_1 => ?_) (fun ha_1 hb_1 => ?_) (fun ha_1 hb_1 => ?_)
  · show am_G _ M_X10_weakened _ 12 [some (.ref 0), some (.int (nI (60 * j + i))), some (.int (nI w)), some (.int (nI 3)), none, none, none, none] [.int (nI 1)] σ
    refine am_run 5 (pc' := 20) (ls' := [some (.ref 0), some (.int (nI (60 * j + i))), some (.int (nI w)), some (.int (nI 3)), some (.int (nI 1)), none, none, none]) (st' := [.int (nI (60 * j + i)), .ref 7, .ref 0]) (σ' := σ) rfl ?_
    refine am_ialdN (n := 180) (v := oI (p 2 i)) rfl rfl rfl (by omega) m2 (by decide) ?_
    refine am_run 2 (pc' := 23) (ls' := [some (.ref 0), some (.int (nI (60 * j + i))), some (.int (nI w)), some (.int (nI 3)), some (.int (nI 1)), none, none, none]) (st' := [.int (nI 3), .int (nI w), .int (oI (p 2 i)), .ref 0]) (σ' := σ) rfl ?_
    refine am_invv (y := 190) (b := 0) (as := [.int (oI (p 2 i)), .int (nI w), .int (nI 3)]) (rest := []) rfl rfl rfl rfl rfl rfl rfl (Nat.le_of_ble_eq_true rfl) ?_
    refine c_m_laid (by omega) hB w2 hw (by decide) (L2 (by omega) (by first | assumption | exact V2 (by omega) | exact V3 (by omega) (by assumption))).2 (fun r2 hr2 ok2 iv2 => ?_)
    obtain ⟨x2a, x2b, x2c, x2d⟩ := id ok2
    show am_G _ M_X10_weakened _ 26 [some (.ref 0), some (.int (nI (60 * j + i))), some (.int (nI w)), some (.int (nI 3)), some (.int (nI 1)), none, none, none] [.int (nI (eM r2))] σ
    refine am_run 3 (pc' := 31) (ls' := [some (.ref 0), some (.int (nI (60 * j + i))), some (.int (nI w)), some (.int (nI 3)), some (.int (nI 1)), some (.int (nI (eM r2))), none, none]) (st' := [.int (nI 2), .int (nI 1)]) (σ' := σ) rfl ?_
    refine am_ic (ty := 34) (tn := 37) rfl (by decide) rfl rfl (fun (h_3 : nI 1 = nI 2) => ?_) (fun (h_3 : ¬ (nI 1 = nI 2)) => ?_)
    · exact absurd h_3 (by decide)
    refine am_run 1 (pc' := 39) (ls' := [some (.ref 0), some (.int (nI (60 * j + i))), some (.int (nI w)), some (.int (nI 3)), some (.int (nI 1)), some (.int (nI (eM r2))), none, none]) (st' := [.int (nI (eM r2))]) (σ' := σ) rfl ?_
    refine am_invs (y := 187) (as := [.int (nI (eM r2))]) (rest := []) rfl rfl rfl rfl rfl rfl (Nat.le_of_ble_eq_true rfl) ?_
    refine c_m_mustCodes (by omega) (r := r2) ok2 ?_
    show am_G _ M_X10_weakened _ 42 [some (.ref 0), some (.int (nI (60 * j + i))), some (.int (nI w)), some (.int (nI 3)), some (.int (nI 1)), some (.int (nI (eM r2))), none, none] [.int (nI r2.2.2.1)] σ
    refine am_run 2 (pc' := 45) (ls' := [some (.ref 0), some (.int (nI (60 * j + i))), some (.int (nI w)), some (.int (nI 3)), some (.int (nI 1)), some (.int (nI (eM r2))), none, none]) (st' := [.int (nI r2.2.2.1 &&& (Int32.ofInt (-3)))]) (σ' := σ) rfl ?_
    refine am_top (v' := nI (cl r2.2.2.1 1)) (nx_cl1 _) ?_
    refine am_run 2 (pc' := 49) (ls' := [some (.ref 0), some (.int (nI (60 * j + i))), some (.int (nI w)), some (.int (nI 3)), some (.int (nI 1)), some (.int (nI (eM r2))), some (.int (nI (cl r2.2.2.1 1))), none]) (st' := [.int (nI (eM r2))]) (σ' := σ) rfl ?_
    refine am_invs (y := 188) (as := [.int (nI (eM r2))]) (rest := []) rfl rfl rfl rfl rfl rfl (Nat.le_of_ble_eq_true rfl) ?_
    refine c_m_canCodes (by omega) (r := r2) ok2 ?_
    show am_G _ M_X10_weakened _ 52 [some (.ref 0), some (.int (nI (60 * j + i))), some (.int (nI w)), some (.int (nI 3)), some (.int (nI 1)), some (.int (nI (eM r2))), some (.int (nI (cl r2.2.2.1 1))), none] [.int (nI r2.2.2.2)] σ
    refine am_run 3 (pc' := 57) (ls' := [some (.ref 0), some (.int (nI (60 * j + i))), some (.int (nI w)), some (.int (nI 3)), some (.int (nI 1)), some (.int (nI (eM r2))), some (.int (nI (cl r2.2.2.1 1))), some (.int (nI r2.2.2.2))]) (st' := [.int (nI 1), .int (nI 1)]) (σ' := σ) rfl ?_
    refine am_ic (ty := 60) (tn := 91) rfl (by decide) rfl rfl (fun (h_4 : nI 1 = nI 1) => ?_) (fun (h_4 : ¬ (nI 1 = nI 1)) => ?_)
    rotate_left
    · exact absurd (by decide) h_4
    refine am_run 2 (pc' := 64) (ls' := [some (.ref 0), some (.int (nI (60 * j + i))), some (.int (nI w)), some (.int (nI 3)), some (.int (nI 1)), some (.int (nI (eM r2))), some (.int (nI (cl r2.2.2.1 1))), some (.int (nI r2.2.2.2))]) (st' := [.int (nI (eM r2)), .int (nI (cl r2.2.2.1 1))]) (σ' := σ) rfl ?_
    refine am_invs (y := 187) (as := [.int (nI (eM r2))]) (rest := [.int (nI (cl r2.2.2.1 1))]) rfl rfl rfl rfl rfl rfl (Nat.le_of_ble_eq_true rfl) ?_
    refine c_m_mustCodes (by omega) (r := r2) ok2 ?_
    show am_G _ M_X10_weakened _ 67 [some (.ref 0), some (.int (nI (60 * j + i))), some (.int (nI w)), some (.int (nI 3)), some (.int (nI 1)), some (.int (nI (eM r2))), some (.int (nI (cl r2.2.2.1 1))), some (.int (nI r2.2.2.2))] [.int (nI r2.2.2.1), .int (nI (cl r2.2.2.1 1))] σ
    refine am_run 4 (pc' := 71) (ls' := [some (.ref 0), some (.int (nI (60 * j + i))), some (.int (nI w)), some (.int (nI 3)), some (.int (nI 1)), some (.int (nI (eM r2))), some (.int (nI (cl r2.2.2.1 1))), some (.int (nI r2.2.2.2))]) (st' := [.int (((nI r2.2.2.1) >>> ((nI 1) &&& 31)) &&& nI 1), .int (nI (cl r2.2.2.1 1))]) (σ' := σ) rfl ?_
    refine am_top (v' := nI (r2.2.2.1 / 2 % 2)) (nx_b1 (by omega)) ?_
    refine am_run 1 (pc' := 72) (ls' := [some (.ref 0), some (.int (nI (60 * j + i))), some (.int (nI w)), some (.int (nI 3)), some (.int (nI 1)), some (.int (nI (eM r2))), some (.int (nI (cl r2.2.2.1 1))), some (.int (nI r2.2.2.2))]) (st' := [.int (nI (cl r2.2.2.1 1) ||| nI (r2.2.2.1 / 2 % 2))]) (σ' := σ) rfl ?_
    refine am_top (v' := nI (cl (en r2.2.2.1) 1)) ((nx_or _ _).trans (congrArg nI (wkP _ (by omega)))) ?_
    refine am_run 4 (pc' := 79) (ls' := [some (.ref 0), some (.int (nI (60 * j + i))), some (.int (nI w)), some (.int (nI 3)), some (.int (nI 1)), some (.int (nI (eM r2))), some (.int (nI (cl (en r2.2.2.1) 1))), some (.int (nI r2.2.2.2))]) (st' := [.int (nI r2.2.2.2 &&& (Int32.ofInt (-3)))]) (σ' := σ) rfl ?_
    refine am_top (v' := nI (cl r2.2.2.2 1)) (nx_cl1 _) ?_
    refine am_run 5 (pc' := 85) (ls' := [some (.ref 0), some (.int (nI (60 * j + i))), some (.int (nI w)), some (.int (nI 3)), some (.int (nI 1)), some (.int (nI (eM r2))), some (.int (nI (cl (en r2.2.2.1) 1))), some (.int (nI r2.2.2.2))]) (st' := [.int (((nI r2.2.2.2) >>> ((nI 1) &&& 31)) &&& nI 1), .int (nI (cl r2.2.2.2 1))]) (σ' := σ) rfl ?_
    refine am_top (v' := nI (r2.2.2.2 / 2 % 2)) (nx_b1 (by omega)) ?_
    refine am_run 1 (pc' := 86) (ls' := [some (.ref 0), some (.int (nI (60 * j + i))), some (.int (nI w)), some (.int (nI 3)), some (.int (nI 1)), some (.int (nI (eM r2))), some (.int (nI (cl (en r2.2.2.1) 1))), some (.int (nI r2.2.2.2))]) (st' := [.int (nI (cl r2.2.2.2 1) ||| nI (r2.2.2.2 / 2 % 2))]) (σ' := σ) rfl ?_
    refine am_top (v' := nI (cl (en r2.2.2.2) 1)) ((nx_or _ _).trans (congrArg nI (wkP _ (by omega)))) ?_
    refine am_run 3 (pc' := 104) (ls' := [some (.ref 0), some (.int (nI (60 * j + i))), some (.int (nI w)), some (.int (nI 3)), some (.int (nI 1)), some (.int (nI (eM r2))), some (.int (nI (cl (en r2.2.2.1) 1))), some (.int (nI (cl (en r2.2.2.2) 1)))]) (st' := [.int (nI (eM r2))]) (σ' := σ) rfl ?_
    refine am_invs (y := 185) (as := [.int (nI (eM r2))]) (rest := []) rfl rfl rfl rfl rfl rfl (Nat.le_of_ble_eq_true rfl) ?_
    refine c_m_must (by omega) (r := r2) ok2 ?_
    show am_G _ M_X10_weakened _ 107 [some (.ref 0), some (.int (nI (60 * j + i))), some (.int (nI w)), some (.int (nI 3)), some (.int (nI 1)), some (.int (nI (eM r2))), some (.int (nI (cl (en r2.2.2.1) 1))), some (.int (nI (cl (en r2.2.2.2) 1)))] [.int (nI r2.1)] σ
    refine am_run 1 (pc' := 109) (ls' := [some (.ref 0), some (.int (nI (60 * j + i))), some (.int (nI w)), some (.int (nI 3)), some (.int (nI 1)), some (.int (nI (eM r2))), some (.int (nI (cl (en r2.2.2.1) 1))), some (.int (nI (cl (en r2.2.2.2) 1)))]) (st' := [.int (nI (eM r2)), .int (nI r2.1)]) (σ' := σ) rfl ?_
    refine am_invs (y := 186) (as := [.int (nI (eM r2))]) (rest := [.int (nI r2.1)]) rfl rfl rfl rfl rfl rfl (Nat.le_of_ble_eq_true rfl) ?_
    refine c_m_can (by omega) (r := r2) ok2 ?_
    show am_G _ M_X10_weakened _ 112 [some (.ref 0), some (.int (nI (60 * j + i))), some (.int (nI w)), some (.int (nI 3)), some (.int (nI 1)), some (.int (nI (eM r2))), some (.int (nI (cl (en r2.2.2.1) 1))), some (.int (nI (cl (en r2.2.2.2) 1)))] [.int (nI r2.2.1), .int (nI r2.1)] σ
    refine am_run 2 (pc' := 116) (ls' := [some (.ref 0), some (.int (nI (60 * j + i))), some (.int (nI w)), some (.int (nI 3)), some (.int (nI 1)), some (.int (nI (eM r2))), some (.int (nI (cl (en r2.2.2.1) 1))), some (.int (nI (cl (en r2.2.2.2) 1)))]) (st' := [.int (nI (cl (en r2.2.2.2) 1)), .int (nI (cl (en r2.2.2.1) 1)), .int (nI r2.2.1), .int (nI r2.1)]) (σ' := σ) rfl ?_
    refine am_invs (y := 184) (as := [.int (nI r2.1), .int (nI r2.2.1), .int (nI (cl (en r2.2.2.1) 1)), .int (nI (cl (en r2.2.2.2) 1))]) (rest := []) rfl rfl rfl rfl rfl rfl (Nat.le_of_ble_eq_true rfl) ?_
    refine c_m_packed (by omega) (m := r2.1) (c := r2.2.1) (k := cl (en r2.2.2.1) 1) (q := cl (en r2.2.2.2) 1) (by first | omega | decide | exact cl_lt (en_lt (by omega)) | exact en_lt (by omega) | exact cl_lt (by omega)) (by first | omega | decide | exact cl_lt (en_lt (by omega)) | exact en_lt (by omega) | exact cl_lt (by omega)) (by first | omega | decide | exact cl_lt (en_lt (by omega)) | exact en_lt (by omega) | exact cl_lt (by omega)) (by first | omega | decide | exact cl_lt (en_lt (by omega)) | exact en_lt (by omega) | exact cl_lt (by omega)) ?_
    show am_G _ M_X10_weakened _ 119 [some (.ref 0), some (.int (nI (60 * j + i))), some (.int (nI w)), some (.int (nI 3)), some (.int (nI 1)), some (.int (nI (eM r2))), some (.int (nI (cl (en r2.2.2.1) 1))), some (.int (nI (cl (en r2.2.2.2) 1)))] [.int (nI (eM (r2.1, r2.2.1, cl (en r2.2.2.1) 1, cl (en r2.2.2.2) 1)))] σ
    refine am_reti rfl rfl ?_
    have e : anB p (an p 61) i s false E.1 E.2 = (r2.1, r2.2.1, cl (en r2.2.2.1) 1, cl (en r2.2.2.2) 1) := by
      refine (anB_126 ht).trans ?_
      first | rfl | (simp only [*, if_true, if_false, ne_eq, not_false_eq_true, not_true_eq_false, true_or, false_or, or_false, or_true, or_self, and_true, true_and, and_false, false_and, and_self, Bool.false_eq_true, Bool.true_eq_false, reduceIte, Bool.and_true, Bool.and_false, Bool.true_and, Bool.false_and]; done) | (simp only [*, if_true, if_false, ne_eq, not_false_eq_true, not_true_eq_false, true_or, false_or, or_false, or_true, or_self, and_true, true_and, and_false, false_and, and_self, Bool.false_eq_true, Bool.true_eq_false, reduceIte, Bool.and_true, Bool.and_false, Bool.true_and, Bool.false_and]; rfl) | (simp only [*, if_true, if_false, ne_eq, not_false_eq_true, not_true_eq_false, true_or, false_or, or_false, or_true, or_self, and_true, true_and, and_false, false_and, and_self, Bool.false_eq_true, Bool.true_eq_false, reduceIte, Bool.and_true, Bool.and_false, Bool.true_and, Bool.false_and]; exact abt_or _) | (simp only [*, r_weakP, r_weakU, if_true, if_false, ne_eq, not_false_eq_true, not_true_eq_false, true_or, false_or, or_false, or_true, or_self, and_true, true_and, and_false, false_and, and_self, Bool.false_eq_true, Bool.true_eq_false, reduceIte, Bool.and_true, Bool.and_false, Bool.true_and, Bool.false_and]; rfl)
    rw [e] at hq
    exact hq
  · show am_G _ M_X10_weakened _ 12 [some (.ref 0), some (.int (nI (60 * j + i))), some (.int (nI w)), some (.int (nI 3)), none, none, none, none] [.int (nI 2)] σ
    refine am_run 5 (pc' := 20) (ls' := [some (.ref 0), some (.int (nI (60 * j + i))), some (.int (nI w)), some (.int (nI 3)), some (.int (nI 2)), none, none, none]) (st' := [.int (nI (60 * j + i)), .ref 7, .ref 0]) (σ' := σ) rfl ?_
    refine am_ialdN (n := 180) (v := oI (p 2 i)) rfl rfl rfl (by omega) m2 (by decide) ?_
    refine am_run 2 (pc' := 23) (ls' := [some (.ref 0), some (.int (nI (60 * j + i))), some (.int (nI w)), some (.int (nI 3)), some (.int (nI 2)), none, none, none]) (st' := [.int (nI 3), .int (nI w), .int (oI (p 2 i)), .ref 0]) (σ' := σ) rfl ?_
    refine am_invv (y := 190) (b := 0) (as := [.int (oI (p 2 i)), .int (nI w), .int (nI 3)]) (rest := []) rfl rfl rfl rfl rfl rfl rfl (Nat.le_of_ble_eq_true rfl) ?_
    refine c_m_laid (by omega) hB w2 hw (by decide) (L2 (by omega) (by first | assumption | exact V2 (by omega) | exact V3 (by omega) (by assumption))).2 (fun r5 hr5 ok5 iv5 => ?_)
    obtain ⟨x5a, x5b, x5c, x5d⟩ := id ok5
    show am_G _ M_X10_weakened _ 26 [some (.ref 0), some (.int (nI (60 * j + i))), some (.int (nI w)), some (.int (nI 3)), some (.int (nI 2)), none, none, none] [.int (nI (eM r5))] σ
    refine am_run 3 (pc' := 31) (ls' := [some (.ref 0), some (.int (nI (60 * j + i))), some (.int (nI w)), some (.int (nI 3)), some (.int (nI 2)), some (.int (nI (eM r5))), none, none]) (st' := [.int (nI 2), .int (nI 2)]) (σ' := σ) rfl ?_
    refine am_ic (ty := 34) (tn := 37) rfl (by decide) rfl rfl (fun (h_6 : nI 2 = nI 2) => ?_) (fun (h_6 : ¬ (nI 2 = nI 2)) => ?_)
    rotate_left
    · exact absurd (by decide) h_6
    refine am_run 1 (pc' := 36) (ls' := [some (.ref 0), some (.int (nI (60 * j + i))), some (.int (nI w)), some (.int (nI 3)), some (.int (nI 2)), some (.int (nI (eM r5))), none, none]) (st' := [.int (nI (eM r5))]) (σ' := σ) rfl ?_
    refine am_reti rfl rfl ?_
    have e : anB p (an p 61) i s false E.1 E.2 = r5 := by
      refine (anB_126 ht).trans ?_
      first | rfl | (simp only [*, if_true, if_false, ne_eq, not_false_eq_true, not_true_eq_false, true_or, false_or, or_false, or_true, or_self, and_true, true_and, and_false, false_and, and_self, Bool.false_eq_true, Bool.true_eq_false, reduceIte, Bool.and_true, Bool.and_false, Bool.true_and, Bool.false_and]; done) | (simp only [*, if_true, if_false, ne_eq, not_false_eq_true, not_true_eq_false, true_or, false_or, or_false, or_true, or_self, and_true, true_and, and_false, false_and, and_self, Bool.false_eq_true, Bool.true_eq_false, reduceIte, Bool.and_true, Bool.and_false, Bool.true_and, Bool.false_and]; rfl) | (simp only [*, if_true, if_false, ne_eq, not_false_eq_true, not_true_eq_false, true_or, false_or, or_false, or_true, or_self, and_true, true_and, and_false, false_and, and_self, Bool.false_eq_true, Bool.true_eq_false, reduceIte, Bool.and_true, Bool.and_false, Bool.true_and, Bool.false_and]; exact abt_or _) | (simp only [*, r_weakP, r_weakU, if_true, if_false, ne_eq, not_false_eq_true, not_true_eq_false, true_or, false_or, or_false, or_true, or_self, and_true, true_and, and_false, false_and, and_self, Bool.false_eq_true, Bool.true_eq_false, reduceIte, Bool.and_true, Bool.and_false, Bool.true_and, Bool.false_and]; rfl)
    rw [e] at hq
    exact hq
  · show am_G _ M_X10_weakened _ 12 [some (.ref 0), some (.int (nI (60 * j + i))), some (.int (nI w)), some (.int (nI 3)), none, none, none, none] [.int (nI 0)] σ
    refine am_run 5 (pc' := 20) (ls' := [some (.ref 0), some (.int (nI (60 * j + i))), some (.int (nI w)), some (.int (nI 3)), some (.int (nI 0)), none, none, none]) (st' := [.int (nI (60 * j + i)), .ref 7, .ref 0]) (σ' := σ) rfl ?_
    refine am_ialdN (n := 180) (v := oI (p 2 i)) rfl rfl rfl (by omega) m2 (by decide) ?_
    refine am_run 2 (pc' := 23) (ls' := [some (.ref 0), some (.int (nI (60 * j + i))), some (.int (nI w)), some (.int (nI 3)), some (.int (nI 0)), none, none, none]) (st' := [.int (nI 3), .int (nI w), .int (oI (p 2 i)), .ref 0]) (σ' := σ) rfl ?_
    refine am_invv (y := 190) (b := 0) (as := [.int (oI (p 2 i)), .int (nI w), .int (nI 3)]) (rest := []) rfl rfl rfl rfl rfl rfl rfl (Nat.le_of_ble_eq_true rfl) ?_
    refine c_m_laid (by omega) hB w2 hw (by decide) (L2 (by omega) (by first | assumption | exact V2 (by omega) | exact V3 (by omega) (by assumption))).2 (fun r7 hr7 ok7 iv7 => ?_)
    obtain ⟨x7a, x7b, x7c, x7d⟩ := id ok7
    show am_G _ M_X10_weakened _ 26 [some (.ref 0), some (.int (nI (60 * j + i))), some (.int (nI w)), some (.int (nI 3)), some (.int (nI 0)), none, none, none] [.int (nI (eM r7))] σ
    refine am_run 3 (pc' := 31) (ls' := [some (.ref 0), some (.int (nI (60 * j + i))), some (.int (nI w)), some (.int (nI 3)), some (.int (nI 0)), some (.int (nI (eM r7))), none, none]) (st' := [.int (nI 2), .int (nI 0)]) (σ' := σ) rfl ?_
    refine am_ic (ty := 34) (tn := 37) rfl (by decide) rfl rfl (fun (h_8 : nI 0 = nI 2) => ?_) (fun (h_8 : ¬ (nI 0 = nI 2)) => ?_)
    · exact absurd h_8 (by decide)
    refine am_run 1 (pc' := 39) (ls' := [some (.ref 0), some (.int (nI (60 * j + i))), some (.int (nI w)), some (.int (nI 3)), some (.int (nI 0)), some (.int (nI (eM r7))), none, none]) (st' := [.int (nI (eM r7))]) (σ' := σ) rfl ?_
    refine am_invs (y := 187) (as := [.int (nI (eM r7))]) (rest := []) rfl rfl rfl rfl rfl rfl (Nat.le_of_ble_eq_true rfl) ?_
    refine c_m_mustCodes (by omega) (r := r7) ok7 ?_
    show am_G _ M_X10_weakened _ 42 [some (.ref 0), some (.int (nI (60 * j + i))), some (.int (nI w)), some (.int (nI 3)), some (.int (nI 0)), some (.int (nI (eM r7))), none, none] [.int (nI r7.2.2.1)] σ
    refine am_run 2 (pc' := 45) (ls' := [some (.ref 0), some (.int (nI (60 * j + i))), some (.int (nI w)), some (.int (nI 3)), some (.int (nI 0)), some (.int (nI (eM r7))), none, none]) (st' := [.int (nI r7.2.2.1 &&& (Int32.ofInt (-3)))]) (σ' := σ) rfl ?_
    refine am_top (v' := nI (cl r7.2.2.1 1)) (nx_cl1 _) ?_
    refine am_run 2 (pc' := 49) (ls' := [some (.ref 0), some (.int (nI (60 * j + i))), some (.int (nI w)), some (.int (nI 3)), some (.int (nI 0)), some (.int (nI (eM r7))), some (.int (nI (cl r7.2.2.1 1))), none]) (st' := [.int (nI (eM r7))]) (σ' := σ) rfl ?_
    refine am_invs (y := 188) (as := [.int (nI (eM r7))]) (rest := []) rfl rfl rfl rfl rfl rfl (Nat.le_of_ble_eq_true rfl) ?_
    refine c_m_canCodes (by omega) (r := r7) ok7 ?_
    show am_G _ M_X10_weakened _ 52 [some (.ref 0), some (.int (nI (60 * j + i))), some (.int (nI w)), some (.int (nI 3)), some (.int (nI 0)), some (.int (nI (eM r7))), some (.int (nI (cl r7.2.2.1 1))), none] [.int (nI r7.2.2.2)] σ
    refine am_run 3 (pc' := 57) (ls' := [some (.ref 0), some (.int (nI (60 * j + i))), some (.int (nI w)), some (.int (nI 3)), some (.int (nI 0)), some (.int (nI (eM r7))), some (.int (nI (cl r7.2.2.1 1))), some (.int (nI r7.2.2.2))]) (st' := [.int (nI 1), .int (nI 0)]) (σ' := σ) rfl ?_
    refine am_ic (ty := 60) (tn := 91) rfl (by decide) rfl rfl (fun (h_9 : nI 0 = nI 1) => ?_) (fun (h_9 : ¬ (nI 0 = nI 1)) => ?_)
    · exact absurd h_9 (by decide)
    refine am_run 6 (pc' := 99) (ls' := [some (.ref 0), some (.int (nI (60 * j + i))), some (.int (nI w)), some (.int (nI 3)), some (.int (nI 0)), some (.int (nI (eM r7))), some (.int (nI (cl r7.2.2.1 1))), some (.int (nI r7.2.2.2))]) (st' := [.int (((nI r7.2.2.2) >>> ((nI 1) &&& 31)) &&& nI 1), .int (nI r7.2.2.2)]) (σ' := σ) rfl ?_
    refine am_top (v' := nI (r7.2.2.2 / 2 % 2)) (nx_b1 (by omega)) ?_
    refine am_run 1 (pc' := 100) (ls' := [some (.ref 0), some (.int (nI (60 * j + i))), some (.int (nI w)), some (.int (nI 3)), some (.int (nI 0)), some (.int (nI (eM r7))), some (.int (nI (cl r7.2.2.1 1))), some (.int (nI r7.2.2.2))]) (st' := [.int (nI r7.2.2.2 ||| nI (r7.2.2.2 / 2 % 2))]) (σ' := σ) rfl ?_
    refine am_top (v' := nI (en r7.2.2.2)) ((nx_or _ _).trans (congrArg nI (wkU _ (by omega)))) ?_
    refine am_run 2 (pc' := 104) (ls' := [some (.ref 0), some (.int (nI (60 * j + i))), some (.int (nI w)), some (.int (nI 3)), some (.int (nI 0)), some (.int (nI (eM r7))), some (.int (nI (cl r7.2.2.1 1))), some (.int (nI (en r7.2.2.2)))]) (st' := [.int (nI (eM r7))]) (σ' := σ) rfl ?_
    refine am_invs (y := 185) (as := [.int (nI (eM r7))]) (rest := []) rfl rfl rfl rfl rfl rfl (Nat.le_of_ble_eq_true rfl) ?_
    refine c_m_must (by omega) (r := r7) ok7 ?_
    show am_G _ M_X10_weakened _ 107 [some (.ref 0), some (.int (nI (60 * j + i))), some (.int (nI w)), some (.int (nI 3)), some (.int (nI 0)), some (.int (nI (eM r7))), some (.int (nI (cl r7.2.2.1 1))), some (.int (nI (en r7.2.2.2)))] [.int (nI r7.1)] σ
    refine am_run 1 (pc' := 109) (ls' := [some (.ref 0), some (.int (nI (60 * j + i))), some (.int (nI w)), some (.int (nI 3)), some (.int (nI 0)), some (.int (nI (eM r7))), some (.int (nI (cl r7.2.2.1 1))), some (.int (nI (en r7.2.2.2)))]) (st' := [.int (nI (eM r7)), .int (nI r7.1)]) (σ' := σ) rfl ?_
    refine am_invs (y := 186) (as := [.int (nI (eM r7))]) (rest := [.int (nI r7.1)]) rfl rfl rfl rfl rfl rfl (Nat.le_of_ble_eq_true rfl) ?_
    refine c_m_can (by omega) (r := r7) ok7 ?_
    show am_G _ M_X10_weakened _ 112 [some (.ref 0), some (.int (nI (60 * j + i))), some (.int (nI w)), some (.int (nI 3)), some (.int (nI 0)), some (.int (nI (eM r7))), some (.int (nI (cl r7.2.2.1 1))), some (.int (nI (en r7.2.2.2)))] [.int (nI r7.2.1), .int (nI r7.1)] σ
    refine am_run 2 (pc' := 116) (ls' := [some (.ref 0), some (.int (nI (60 * j + i))), some (.int (nI w)), some (.int (nI 3)), some (.int (nI 0)), some (.int (nI (eM r7))), some (.int (nI (cl r7.2.2.1 1))), some (.int (nI (en r7.2.2.2)))]) (st' := [.int (nI (en r7.2.2.2)), .int (nI (cl r7.2.2.1 1)), .int (nI r7.2.1), .int (nI r7.1)]) (σ' := σ) rfl ?_
    refine am_invs (y := 184) (as := [.int (nI r7.1), .int (nI r7.2.1), .int (nI (cl r7.2.2.1 1)), .int (nI (en r7.2.2.2))]) (rest := []) rfl rfl rfl rfl rfl rfl (Nat.le_of_ble_eq_true rfl) ?_
    refine c_m_packed (by omega) (m := r7.1) (c := r7.2.1) (k := cl r7.2.2.1 1) (q := en r7.2.2.2) (by first | omega | decide | exact cl_lt (en_lt (by omega)) | exact en_lt (by omega) | exact cl_lt (by omega)) (by first | omega | decide | exact cl_lt (en_lt (by omega)) | exact en_lt (by omega) | exact cl_lt (by omega)) (by first | omega | decide | exact cl_lt (en_lt (by omega)) | exact en_lt (by omega) | exact cl_lt (by omega)) (by first | omega | decide | exact cl_lt (en_lt (by omega)) | exact en_lt (by omega) | exact cl_lt (by omega)) ?_
    show am_G _ M_X10_weakened _ 119 [some (.ref 0), some (.int (nI (60 * j + i))), some (.int (nI w)), some (.int (nI 3)), some (.int (nI 0)), some (.int (nI (eM r7))), some (.int (nI (cl r7.2.2.1 1))), some (.int (nI (en r7.2.2.2)))] [.int (nI (eM (r7.1, r7.2.1, cl r7.2.2.1 1, en r7.2.2.2)))] σ
    refine am_reti rfl rfl ?_
    have e : anB p (an p 61) i s false E.1 E.2 = (r7.1, r7.2.1, cl r7.2.2.1 1, en r7.2.2.2) := by
      refine (anB_126 ht).trans ?_
      first | rfl | (simp only [*, if_true, if_false, ne_eq, not_false_eq_true, not_true_eq_false, true_or, false_or, or_false, or_true, or_self, and_true, true_and, and_false, false_and, and_self, Bool.false_eq_true, Bool.true_eq_false, reduceIte, Bool.and_true, Bool.and_false, Bool.true_and, Bool.false_and]; done) | (simp only [*, if_true, if_false, ne_eq, not_false_eq_true, not_true_eq_false, true_or, false_or, or_false, or_true, or_self, and_true, true_and, and_false, false_and, and_self, Bool.false_eq_true, Bool.true_eq_false, reduceIte, Bool.and_true, Bool.and_false, Bool.true_and, Bool.false_and]; rfl) | (simp only [*, if_true, if_false, ne_eq, not_false_eq_true, not_true_eq_false, true_or, false_or, or_false, or_true, or_self, and_true, true_and, and_false, false_and, and_self, Bool.false_eq_true, Bool.true_eq_false, reduceIte, Bool.and_true, Bool.and_false, Bool.true_and, Bool.false_and]; exact abt_or _) | (simp only [*, r_weakP, r_weakU, if_true, if_false, ne_eq, not_false_eq_true, not_true_eq_false, true_or, false_or, or_false, or_true, or_self, and_true, true_and, and_false, false_and, and_self, Bool.false_eq_true, Bool.true_eq_false, reduceIte, Bool.and_true, Bool.and_false, Bool.true_and, Bool.false_and]; rfl)
    rw [e] at hq
    exact hq
set_option maxRecDepth 10000 in
set_option maxHeartbeats 2000000 in
theorem c_m_starts0 {d : Nat} (hd : 8 ≤ d) {σ : am_M} {j s P A n : Nat} {p : Pg} {dp : Nat → Nat} {ow : Nat → Nat → Nat} (hB : MB σ j s P A p n dp ow) {i w : Nat} {E : Nat × Nat} (hi : i < n) (hw3 : w < 3 ^ dp i) (hE : evn (ow i) w P A (dp i) = E) (K2 : ¬ p 0 i = 36 → KD σ p (p 2 i) w 0 ST true E ∧ KD σ p (p 2 i) w 1 ST false E) (K3 : ¬ p 0 i = 36 → KD σ p (p 3 i) w 0 ST true E ∧ KD σ p (p 3 i) w 1 ST false E) (D36 : p 0 i = 36 → dp i ≤ 2) (K36 : p 0 i = 36 → ∀ h, h < 3 → KD σ p (p 2 i) (w + h * 3 ^ dp i) 0 ST true (up3 E (p 1 i - 1) h)) {Q : am_Q} (hq : Q (some (.int (nI (eM (anB p (an p 61) i ST true E.1 E.2))))) σ) : am_C d 203 [.ref 0, .int (nI (60 * j + i)), .int (nI w), .int (nI 0)] σ Q := by
  obtain ⟨hj, hS, hW, hs, hN, hdj, hP, hA⟩ := id hB
  obtain ⟨hS1, hS2, hS3, hS4⟩ := id hS
  obtain ⟨⟨m0, m1, m2, m3, m4, m5, m6⟩, hdp, how⟩ := hN i hi
  obtain ⟨w0, w1, w2, w3, w4, w5, w6⟩ := hW.2 i hi
  have hn60 := hW.1
  have hw := wy0 hdp hw3
  refine am_enter' (M := M_X10_starts) rfl rfl rfl (by omega) (ls := [some (.ref 0), some (.int (nI (60 * j + i))), some (.int (nI w)), some (.int (nI 0)), none, none]) rfl (fun d' hd' => ?_)
  refine am_run 3 (pc' := 5) (ls' := [some (.ref 0), some (.int (nI (60 * j + i))), some (.int (nI w)), some (.int (nI 0)), none, none]) (st' := [.int (nI (60 * j + i)), .ref 6]) (σ' := σ) rfl ?_
  refine am_ialdN (n := 180) (v := oI (p 1 i)) rfl rfl rfl (by omega) m1 (by decide) ?_
  refine am_run 4 (pc' := 13) (ls' := [some (.ref 0), some (.int (nI (60 * j + i))), some (.int (nI w)), some (.int (nI 0)), some (.int (oI (p 1 i))), none]) (st' := [.int (nI (60 * j + i)), .ref 5]) (σ' := σ) rfl ?_
  refine am_ialdN (n := 180) (v := nI (p 0 i)) rfl rfl rfl (by omega) m0 (by decide) ?_
  refine am_lsw rfl rfl (L := [(33, 106), (36, 296), (38, 120), (42, 283), (46, 120), (59, 206), (63, 135), (64, 283), (94, 267), (120, 125), (124, 239), (126, 283)]) rfl ?_
  refine am_sw1 (k := nI 33) (tgt := 120) rfl (by decide) (by decide) rfl (fun (h_1 : nI (p 0 i) = nI 33) => ?_) (fun (h_1 : ¬ (nI (p 0 i) = nI 33)) => ?_)
  · have h_1 : p 0 i = 33 := (nI_eq (by omega) (by omega)).mp h_1
    have hg1 : 1 ≤ p 1 i := w5 (by rw [h_1]; decide)
    refine am_run 2 (pc' := 123) (ls' := [some (.ref 0), some (.int (nI (60 * j + i))), some (.int (nI w)), some (.int (nI 0)), some (.int (oI (p 1 i))), none]) (st' := [.int (oI (p 1 i)), .int (nI 1)]) (σ' := σ) rfl ?_
    refine am_top (v' := nI (p 1 i - 1)) (oI_p (by omega)) ?_
    refine am_run 1 (pc' := 124) (ls' := [some (.ref 0), some (.int (nI (60 * j + i))), some (.int (nI w)), some (.int (nI 0)), some (.int (oI (p 1 i))), none]) (st' := [.int ((nI 1) <<< ((nI (p 1 i - 1)) &&& 31))]) (σ' := σ) rfl ?_
    refine am_top (v' := nI (2 ^ (p 1 i - 1))) (by rw [nx_shl 1 (by omega), Nat.one_mul]) ?_
    refine am_run 2 (pc' := 127) (ls' := [some (.ref 0), some (.int (nI (60 * j + i))), some (.int (nI w)), some (.int (nI 0)), some (.int (oI (p 1 i))), none]) (st' := [.int (oI (p 1 i)), .int (nI 1), .int (nI (2 ^ (p 1 i - 1)))]) (σ' := σ) rfl ?_
    refine am_top (v' := nI (p 1 i - 1)) (oI_p (by omega)) ?_
    refine am_run 1 (pc' := 128) (ls' := [some (.ref 0), some (.int (nI (60 * j + i))), some (.int (nI w)), some (.int (nI 0)), some (.int (oI (p 1 i))), none]) (st' := [.int ((nI 1) <<< ((nI (p 1 i - 1)) &&& 31)), .int (nI (2 ^ (p 1 i - 1)))]) (σ' := σ) rfl ?_
    refine am_top (v' := nI (2 ^ (p 1 i - 1))) (by rw [nx_shl 1 (by omega), Nat.one_mul]) ?_
    refine am_run 2 (pc' := 130) (ls' := [some (.ref 0), some (.int (nI (60 * j + i))), some (.int (nI w)), some (.int (nI 0)), some (.int (oI (p 1 i))), none]) (st' := [.int (nI 1), .int (nI 1), .int (nI (2 ^ (p 1 i - 1))), .int (nI (2 ^ (p 1 i - 1)))]) (σ' := σ) rfl ?_
    refine am_invs (y := 184) (as := [.int (nI (2 ^ (p 1 i - 1))), .int (nI (2 ^ (p 1 i - 1))), .int (nI 1), .int (nI 1)]) (rest := []) rfl rfl rfl rfl rfl rfl (Nat.le_of_ble_eq_true rfl) ?_
    refine c_m_packed (by omega) (m := 2 ^ (p 1 i - 1)) (c := 2 ^ (p 1 i - 1)) (k := 1) (q := 1) (by first | omega | decide | exact pow_lt_256 (by omega) | exact or_lt8 (by omega) (by omega) | exact or_lt7 (by omega) (by omega) | exact mx_lt (by omega) (by omega) | exact ct_lt (by omega) | exact or_lt7 (cl_lt (by omega)) (by omega) | exact cl_lt (by omega) | exact or_lt7 (cl_lt (by omega)) (tb_lt _)) (by first | omega | decide | exact pow_lt_256 (by omega) | exact or_lt8 (by omega) (by omega) | exact or_lt7 (by omega) (by omega) | exact mx_lt (by omega) (by omega) | exact ct_lt (by omega) | exact or_lt7 (cl_lt (by omega)) (by omega) | exact cl_lt (by omega) | exact or_lt7 (cl_lt (by omega)) (tb_lt _)) (by first | omega | decide | exact pow_lt_256 (by omega) | exact or_lt8 (by omega) (by omega) | exact or_lt7 (by omega) (by omega) | exact mx_lt (by omega) (by omega) | exact ct_lt (by omega) | exact or_lt7 (cl_lt (by omega)) (by omega) | exact cl_lt (by omega) | exact or_lt7 (cl_lt (by omega)) (tb_lt _)) (by first | omega | decide | exact pow_lt_256 (by omega) | exact or_lt8 (by omega) (by omega) | exact or_lt7 (by omega) (by omega) | exact mx_lt (by omega) (by omega) | exact ct_lt (by omega) | exact or_lt7 (cl_lt (by omega)) (by omega) | exact cl_lt (by omega) | exact or_lt7 (cl_lt (by omega)) (tb_lt _)) ?_
    show am_G _ M_X10_starts _ 133 [some (.ref 0), some (.int (nI (60 * j + i))), some (.int (nI w)), some (.int (nI 0)), some (.int (oI (p 1 i))), none] [.int (nI (eM (2 ^ (p 1 i - 1), 2 ^ (p 1 i - 1), 1, 1)))] σ
    refine am_reti rfl rfl ?_
    have e : anB p (an p 61) i ST true E.1 E.2 = (2 ^ (p 1 i - 1), 2 ^ (p 1 i - 1), 1, 1) := by
      refine (anB_33 h_1).trans ?_
      first | rfl | (simp only [*, if_true, if_false, ne_eq, not_false_eq_true, not_true_eq_false, true_or, false_or, or_false, or_true, or_self, and_true, true_and, and_false, false_and, and_self, Bool.false_eq_true, Bool.true_eq_false, reduceIte, Bool.and_true, Bool.and_false, Bool.true_and, Bool.false_and]; done) | (simp only [*, if_true, if_false, ne_eq, not_false_eq_true, not_true_eq_false, true_or, false_or, or_false, or_true, or_self, and_true, true_and, and_false, false_and, and_self, Bool.false_eq_true, Bool.true_eq_false, reduceIte, Bool.and_true, Bool.and_false, Bool.true_and, Bool.false_and]; rfl) | (simp only [*, if_true, if_false, ne_eq, not_false_eq_true, not_true_eq_false, true_or, false_or, or_false, or_true, or_self, and_true, true_and, and_false, false_and, and_self, Bool.false_eq_true, Bool.true_eq_false, reduceIte, Bool.and_true, Bool.and_false, Bool.true_and, Bool.false_and]; exact abt_or _) | (simp only [*, r_weakP, r_weakU, if_true, if_false, ne_eq, not_false_eq_true, not_true_eq_false, true_or, false_or, or_false, or_true, or_self, and_true, true_and, and_false, false_and, and_self, Bool.false_eq_true, Bool.true_eq_false, reduceIte, Bool.and_true, Bool.and_false, Bool.true_and, Bool.false_and]; rfl)
    rw [e] at hq
    exact hq
  have h_1 : ¬ (p 0 i = 33) := fun z => h_1 ((nI_eq (by omega) (by omega)).mpr z)
  refine am_sw1 (k := nI 36) (tgt := 310) rfl (by decide) (by decide) rfl (fun (h_2 : nI (p 0 i) = nI 36) => ?_) (fun (h_2 : ¬ (nI (p 0 i) = nI 36)) => ?_)
  · have h_2 : p 0 i = 36 := (nI_eq (by omega) (by omega)).mp h_2
    have hg1 : 1 ≤ p 1 i := w5 (by rw [h_2]; decide)
    refine am_run 4 (pc' := 314) (ls' := [some (.ref 0), some (.int (nI (60 * j + i))), some (.int (nI w)), some (.int (nI 0)), some (.int (oI (p 1 i))), none]) (st' := [.int (nI 0), .int (nI w), .int (nI (60 * j + i)), .ref 0]) (σ' := σ) rfl ?_
    refine am_invv (y := 202) (b := 0) (as := [.int (nI (60 * j + i)), .int (nI w), .int (nI 0)]) (rest := []) rfl rfl rfl rfl rfl rfl rfl (Nat.le_of_ble_eq_true rfl) ?_
    refine c_m_newLaid0 (by omega) hB hi hw3 hE (by first | exact h_2 | omega) (D36 (by omega)) (K36 (by omega)) ?_
    show am_G _ M_X10_starts _ 317 [some (.ref 0), some (.int (nI (60 * j + i))), some (.int (nI w)), some (.int (nI 0)), some (.int (oI (p 1 i))), none] [.int (nI (eM (anB p (an p 61) i ST true E.1 E.2)))] σ
    refine am_reti rfl rfl ?_
    exact hq
  have h_2 : ¬ (p 0 i = 36) := fun z => h_2 ((nI_eq (by omega) (by omega)).mpr z)
  refine am_sw1 (k := nI 38) (tgt := 134) rfl (by decide) (by decide) rfl (fun (h_3 : nI (p 0 i) = nI 38) => ?_) (fun (h_3 : ¬ (nI (p 0 i) = nI 38)) => ?_)
  · have h_3 : p 0 i = 38 := (nI_eq (by omega) (by omega)).mp h_3
    have hg1 : 1 ≤ p 1 i := w5 (by rw [h_3]; decide)
    refine am_run 1 (pc' := 135) (ls' := [some (.ref 0), some (.int (nI (60 * j + i))), some (.int (nI w)), some (.int (nI 0)), some (.int (oI (p 1 i))), none]) (st' := [.int (nI 2)]) (σ' := σ) rfl ?_
    refine am_invs (y := 191) (as := [.int (nI 2)]) (rest := []) rfl rfl rfl rfl rfl rfl (Nat.le_of_ble_eq_true rfl) ?_
    refine c_m_code (by omega) (k := 2) (by first | omega | decide | exact pow_lt_256 (by omega) | exact or_lt8 (by omega) (by omega) | exact or_lt7 (by omega) (by omega) | exact mx_lt (by omega) (by omega) | exact ct_lt (by omega) | exact or_lt7 (cl_lt (by omega)) (by omega) | exact cl_lt (by omega) | exact or_lt7 (cl_lt (by omega)) (tb_lt _)) ?_
    show am_G _ M_X10_starts _ 138 [some (.ref 0), some (.int (nI (60 * j + i))), some (.int (nI w)), some (.int (nI 0)), some (.int (oI (p 1 i))), none] [.int (nI (eM (r_cd 2)))] σ
    refine am_reti rfl rfl ?_
    have e : anB p (an p 61) i ST true E.1 E.2 = (r_cd 2) := by
      refine (anB_38 h_3).trans ?_
      first | rfl | (simp only [*, if_true, if_false, ne_eq, not_false_eq_true, not_true_eq_false, true_or, false_or, or_false, or_true, or_self, and_true, true_and, and_false, false_and, and_self, Bool.false_eq_true, Bool.true_eq_false, reduceIte, Bool.and_true, Bool.and_false, Bool.true_and, Bool.false_and]; done) | (simp only [*, if_true, if_false, ne_eq, not_false_eq_true, not_true_eq_false, true_or, false_or, or_false, or_true, or_self, and_true, true_and, and_false, false_and, and_self, Bool.false_eq_true, Bool.true_eq_false, reduceIte, Bool.and_true, Bool.and_false, Bool.true_and, Bool.false_and]; rfl) | (simp only [*, if_true, if_false, ne_eq, not_false_eq_true, not_true_eq_false, true_or, false_or, or_false, or_true, or_self, and_true, true_and, and_false, false_and, and_self, Bool.false_eq_true, Bool.true_eq_false, reduceIte, Bool.and_true, Bool.and_false, Bool.true_and, Bool.false_and]; exact abt_or _) | (simp only [*, r_weakP, r_weakU, if_true, if_false, ne_eq, not_false_eq_true, not_true_eq_false, true_or, false_or, or_false, or_true, or_self, and_true, true_and, and_false, false_and, and_self, Bool.false_eq_true, Bool.true_eq_false, reduceIte, Bool.and_true, Bool.and_false, Bool.true_and, Bool.false_and]; rfl)
    rw [e] at hq
    exact hq
  have h_3 : ¬ (p 0 i = 38) := fun z => h_3 ((nI_eq (by omega) (by omega)).mpr z)
  refine am_sw1 (k := nI 42) (tgt := 297) rfl (by decide) (by decide) rfl (fun (h_4 : nI (p 0 i) = nI 42) => ?_) (fun (h_4 : ¬ (nI (p 0 i) = nI 42)) => ?_)
  · have h_4 : p 0 i = 42 := (nI_eq (by omega) (by omega)).mp h_4
    refine am_run 4 (pc' := 303) (ls' := [some (.ref 0), some (.int (nI (60 * j + i))), some (.int (nI w)), some (.int (nI 0)), some (.int (oI (p 1 i))), none]) (st' := [.int (nI (60 * j + i)), .ref 7, .ref 0]) (σ' := σ) rfl ?_
    refine am_ialdN (n := 180) (v := oI (p 2 i)) rfl rfl rfl (by omega) m2 (by decide) ?_
    refine am_run 2 (pc' := 306) (ls' := [some (.ref 0), some (.int (nI (60 * j + i))), some (.int (nI w)), some (.int (nI 0)), some (.int (oI (p 1 i))), none]) (st' := [.int (nI 0), .int (nI w), .int (oI (p 2 i)), .ref 0]) (σ' := σ) rfl ?_
    refine am_invv (y := 190) (b := 0) (as := [.int (oI (p 2 i)), .int (nI w), .int (nI 0)]) (rest := []) rfl rfl rfl rfl rfl rfl rfl (Nat.le_of_ble_eq_true rfl) ?_
    refine c_m_laid (by omega) hB w2 hw (by decide) (K2 (by omega)).1 (fun r5 hr5 ok5 iv5 => ?_)
    obtain ⟨x5a, x5b, x5c, x5d⟩ := id ok5
    show am_G _ M_X10_starts _ 309 [some (.ref 0), some (.int (nI (60 * j + i))), some (.int (nI w)), some (.int (nI 0)), some (.int (oI (p 1 i))), none] [.int (nI (eM r5))] σ
    refine am_reti rfl rfl ?_
    have e : anB p (an p 61) i ST true E.1 E.2 = r5 := by
      refine (anB_42 h_4).trans ?_
      first | rfl | (simp only [*, if_true, if_false, ne_eq, not_false_eq_true, not_true_eq_false, true_or, false_or, or_false, or_true, or_self, and_true, true_and, and_false, false_and, and_self, Bool.false_eq_true, Bool.true_eq_false, reduceIte, Bool.and_true, Bool.and_false, Bool.true_and, Bool.false_and]; done) | (simp only [*, if_true, if_false, ne_eq, not_false_eq_true, not_true_eq_false, true_or, false_or, or_false, or_true, or_self, and_true, true_and, and_false, false_and, and_self, Bool.false_eq_true, Bool.true_eq_false, reduceIte, Bool.and_true, Bool.and_false, Bool.true_and, Bool.false_and]; rfl) | (simp only [*, if_true, if_false, ne_eq, not_false_eq_true, not_true_eq_false, true_or, false_or, or_false, or_true, or_self, and_true, true_and, and_false, false_and, and_self, Bool.false_eq_true, Bool.true_eq_false, reduceIte, Bool.and_true, Bool.and_false, Bool.true_and, Bool.false_and]; exact abt_or _) | (simp only [*, r_weakP, r_weakU, if_true, if_false, ne_eq, not_false_eq_true, not_true_eq_false, true_or, false_or, or_false, or_true, or_self, and_true, true_and, and_false, false_and, and_self, Bool.false_eq_true, Bool.true_eq_false, reduceIte, Bool.and_true, Bool.and_false, Bool.true_and, Bool.false_and]; rfl)
    rw [e] at hq
    exact hq
  have h_4 : ¬ (p 0 i = 42) := fun z => h_4 ((nI_eq (by omega) (by omega)).mpr z)
  refine am_sw1 (k := nI 46) (tgt := 134) rfl (by decide) (by decide) rfl (fun (h_6 : nI (p 0 i) = nI 46) => ?_) (fun (h_6 : ¬ (nI (p 0 i) = nI 46)) => ?_)
  · have h_6 : p 0 i = 46 := (nI_eq (by omega) (by omega)).mp h_6
    refine am_run 1 (pc' := 135) (ls' := [some (.ref 0), some (.int (nI (60 * j + i))), some (.int (nI w)), some (.int (nI 0)), some (.int (oI (p 1 i))), none]) (st' := [.int (nI 2)]) (σ' := σ) rfl ?_
    refine am_invs (y := 191) (as := [.int (nI 2)]) (rest := []) rfl rfl rfl rfl rfl rfl (Nat.le_of_ble_eq_true rfl) ?_
    refine c_m_code (by omega) (k := 2) (by first | omega | decide | exact pow_lt_256 (by omega) | exact or_lt8 (by omega) (by omega) | exact or_lt7 (by omega) (by omega) | exact mx_lt (by omega) (by omega) | exact ct_lt (by omega) | exact or_lt7 (cl_lt (by omega)) (by omega) | exact cl_lt (by omega) | exact or_lt7 (cl_lt (by omega)) (tb_lt _)) ?_
    show am_G _ M_X10_starts _ 138 [some (.ref 0), some (.int (nI (60 * j + i))), some (.int (nI w)), some (.int (nI 0)), some (.int (oI (p 1 i))), none] [.int (nI (eM (r_cd 2)))] σ
    refine am_reti rfl rfl ?_
    have e : anB p (an p 61) i ST true E.1 E.2 = (r_cd 2) := by
      refine (anB_46 h_6).trans ?_
      first | rfl | (simp only [*, if_true, if_false, ne_eq, not_false_eq_true, not_true_eq_false, true_or, false_or, or_false, or_true, or_self, and_true, true_and, and_false, false_and, and_self, Bool.false_eq_true, Bool.true_eq_false, reduceIte, Bool.and_true, Bool.and_false, Bool.true_and, Bool.false_and]; done) | (simp only [*, if_true, if_false, ne_eq, not_false_eq_true, not_true_eq_false, true_or, false_or, or_false, or_true, or_self, and_true, true_and, and_false, false_and, and_self, Bool.false_eq_true, Bool.true_eq_false, reduceIte, Bool.and_true, Bool.and_false, Bool.true_and, Bool.false_and]; rfl) | (simp only [*, if_true, if_false, ne_eq, not_false_eq_true, not_true_eq_false, true_or, false_or, or_false, or_true, or_self, and_true, true_and, and_false, false_and, and_self, Bool.false_eq_true, Bool.true_eq_false, reduceIte, Bool.and_true, Bool.and_false, Bool.true_and, Bool.false_and]; exact abt_or _) | (simp only [*, r_weakP, r_weakU, if_true, if_false, ne_eq, not_false_eq_true, not_true_eq_false, true_or, false_or, or_false, or_true, or_self, and_true, true_and, and_false, false_and, and_self, Bool.false_eq_true, Bool.true_eq_false, reduceIte, Bool.and_true, Bool.and_false, Bool.true_and, Bool.false_and]; rfl)
    rw [e] at hq
    exact hq
  have h_6 : ¬ (p 0 i = 46) := fun z => h_6 ((nI_eq (by omega) (by omega)).mpr z)
  refine am_sw1 (k := nI 59) (tgt := 220) rfl (by decide) (by decide) rfl (fun (h_7 : nI (p 0 i) = nI 59) => ?_) (fun (h_7 : ¬ (nI (p 0 i) = nI 59)) => ?_)
  · have h_7 : p 0 i = 59 := (nI_eq (by omega) (by omega)).mp h_7
    refine am_run 5 (pc' := 227) (ls' := [some (.ref 0), some (.int (nI (60 * j + i))), some (.int (nI w)), some (.int (nI 0)), some (.int (oI (p 1 i))), none]) (st' := [.int (nI (60 * j + i)), .ref 7, .ref 0, .ref 0]) (σ' := σ) rfl ?_
    refine am_ialdN (n := 180) (v := oI (p 2 i)) rfl rfl rfl (by omega) m2 (by decide) ?_
    refine am_run 2 (pc' := 230) (ls' := [some (.ref 0), some (.int (nI (60 * j + i))), some (.int (nI w)), some (.int (nI 0)), some (.int (oI (p 1 i))), none]) (st' := [.int (nI 0), .int (nI w), .int (oI (p 2 i)), .ref 0, .ref 0]) (σ' := σ) rfl ?_
    refine am_invv (y := 190) (b := 0) (as := [.int (oI (p 2 i)), .int (nI w), .int (nI 0)]) (rest := [.ref 0]) rfl rfl rfl rfl rfl rfl rfl (Nat.le_of_ble_eq_true rfl) ?_
    refine c_m_laid (by omega) hB w2 hw (by decide) (K2 (by omega)).1 (fun r8 hr8 ok8 iv8 => ?_)
    obtain ⟨x8a, x8b, x8c, x8d⟩ := id ok8
    show am_G _ M_X10_starts _ 233 [some (.ref 0), some (.int (nI (60 * j + i))), some (.int (nI w)), some (.int (nI 0)), some (.int (oI (p 1 i))), none] [.int (nI (eM r8)), .ref 0] σ
    refine am_run 3 (pc' := 238) (ls' := [some (.ref 0), some (.int (nI (60 * j + i))), some (.int (nI w)), some (.int (nI 0)), some (.int (oI (p 1 i))), none]) (st' := [.int (nI (60 * j + i)), .ref 8, .int (nI (eM r8)), .ref 0]) (σ' := σ) rfl ?_
    refine am_ialdN (n := 180) (v := oI (p 3 i)) rfl rfl rfl (by omega) m3 (by decide) ?_
    refine am_run 2 (pc' := 241) (ls' := [some (.ref 0), some (.int (nI (60 * j + i))), some (.int (nI w)), some (.int (nI 0)), some (.int (oI (p 1 i))), none]) (st' := [.int (nI 0), .int (nI w), .int (oI (p 3 i)), .int (nI (eM r8)), .ref 0]) (σ' := σ) rfl ?_
    refine am_if (ty := 244) (tn := 248) rfl (by decide) rfl rfl (fun (h_9 : nI 0 = 0) => ?_) (fun (h_9 : ¬ (nI 0 = 0)) => ?_)
    rotate_left
    · exact absurd (by decide) h_9
    refine am_run 2 (pc' := 249) (ls' := [some (.ref 0), some (.int (nI (60 * j + i))), some (.int (nI w)), some (.int (nI 0)), some (.int (oI (p 1 i))), none]) (st' := [.int (nI 1), .int (nI w), .int (oI (p 3 i)), .int (nI (eM r8)), .ref 0]) (σ' := σ) rfl ?_
    refine am_invv (y := 195) (b := 0) (as := [.int (nI (eM r8)), .int (oI (p 3 i)), .int (nI w), .int (nI 1)]) (rest := []) rfl rfl rfl rfl rfl rfl rfl (Nat.le_of_ble_eq_true rfl) ?_
    refine c_m_behind_true (by omega) hB ok8 iv8 w3 hw (K3 (by omega)).1 (K3 (by omega)).2 ?_
    show am_G _ M_X10_starts _ 252 [some (.ref 0), some (.int (nI (60 * j + i))), some (.int (nI w)), some (.int (nI 0)), some (.int (oI (p 1 i))), none] [.int (nI (eM (r_flw r8 (an p 61 (p 3 i) ST (true && me r8) E.1 E.2))))] σ
    refine am_reti rfl rfl ?_
    have e : anB p (an p 61) i ST true E.1 E.2 = (r_flw r8 (an p 61 (p 3 i) ST (true && me r8) E.1 E.2)) := by
      refine (anB_59 h_7).trans ?_
      first | rfl | (simp only [*, if_true, if_false, ne_eq, not_false_eq_true, not_true_eq_false, true_or, false_or, or_false, or_true, or_self, and_true, true_and, and_false, false_and, and_self, Bool.false_eq_true, Bool.true_eq_false, reduceIte, Bool.and_true, Bool.and_false, Bool.true_and, Bool.false_and]; done) | (simp only [*, if_true, if_false, ne_eq, not_false_eq_true, not_true_eq_false, true_or, false_or, or_false, or_true, or_self, and_true, true_and, and_false, false_and, and_self, Bool.false_eq_true, Bool.true_eq_false, reduceIte, Bool.and_true, Bool.and_false, Bool.true_and, Bool.false_and]; rfl) | (simp only [*, if_true, if_false, ne_eq, not_false_eq_true, not_true_eq_false, true_or, false_or, or_false, or_true, or_self, and_true, true_and, and_false, false_and, and_self, Bool.false_eq_true, Bool.true_eq_false, reduceIte, Bool.and_true, Bool.and_false, Bool.true_and, Bool.false_and]; exact abt_or _) | (simp only [*, r_weakP, r_weakU, if_true, if_false, ne_eq, not_false_eq_true, not_true_eq_false, true_or, false_or, or_false, or_true, or_self, and_true, true_and, and_false, false_and, and_self, Bool.false_eq_true, Bool.true_eq_false, reduceIte, Bool.and_true, Bool.and_false, Bool.true_and, Bool.false_and]; rfl)
    rw [e] at hq
    exact hq
  have h_7 : ¬ (p 0 i = 59) := fun z => h_7 ((nI_eq (by omega) (by omega)).mpr z)
  refine am_sw1 (k := nI 63) (tgt := 149) rfl (by decide) (by decide) rfl (fun (h_10 : nI (p 0 i) = nI 63) => ?_) (fun (h_10 : ¬ (nI (p 0 i) = nI 63)) => ?_)
  · have h_10 : p 0 i = 63 := (nI_eq (by omega) (by omega)).mp h_10
    have hg1 : 1 ≤ p 1 i := w5 (by rw [h_10]; decide)
    refine am_run 4 (pc' := 154) (ls' := [some (.ref 0), some (.int (nI (60 * j + i))), some (.int (nI w)), some (.int (nI 0)), some (.int (oI (p 1 i))), none]) (st' := [.int (oI (p 1 i)), .int (nI w), .int (nI (60 * j + i)), .ref 0]) (σ' := σ) rfl ?_
    refine am_top (v' := nI (p 1 i - 1)) (oI_p (by omega)) ?_
    refine am_invv (y := 192) (b := 0) (as := [.int (nI (60 * j + i)), .int (nI w), .int (nI (p 1 i - 1))]) (rest := []) rfl rfl rfl rfl rfl rfl rfl (Nat.le_of_ble_eq_true rfl) ?_
    refine c_m_isAt3 (by omega) hB (g := p 1 i - 1) hi hw (by omega) hE (fun ha_11 hb_11 => ?_) (fun ha_11 hb_11 => ?_) (fun ha_11 hb_11 => ?_)
    · show am_G _ M_X10_starts _ 157 [some (.ref 0), some (.int (nI (60 * j + i))), some (.int (nI w)), some (.int (nI 0)), some (.int (oI (p 1 i))), none] [.int (nI 1)] σ
      refine am_run 2 (pc' := 161) (ls' := [some (.ref 0), some (.int (nI (60 * j + i))), some (.int (nI w)), some (.int (nI 0)), some (.int (oI (p 1 i))), some (.int (nI 1))]) (st' := [.int (nI 1)]) (σ' := σ) rfl ?_
      refine am_if (ty := 164) (tn := 192) rfl (by decide) rfl rfl (fun (h_12 : nI 1 = 0) => ?_) (fun (h_12 : ¬ (nI 1 = 0)) => ?_)
      · exact absurd h_12 (by decide)
      refine am_run 3 (pc' := 196) (ls' := [some (.ref 0), some (.int (nI (60 * j + i))), some (.int (nI w)), some (.int (nI 0)), some (.int (oI (p 1 i))), some (.int (nI 1))]) (st' := [.int (nI 1), .int (nI 1), .ref 0]) (σ' := σ) rfl ?_
      refine am_ic (ty := 199) (tn := 208) rfl (by decide) rfl rfl (fun (h_13 : nI 1 = nI 1) => ?_) (fun (h_13 : ¬ (nI 1 = nI 1)) => ?_)
      rotate_left
      · exact absurd (by decide) h_13
      refine am_run 3 (pc' := 204) (ls' := [some (.ref 0), some (.int (nI (60 * j + i))), some (.int (nI w)), some (.int (nI 0)), some (.int (oI (p 1 i))), some (.int (nI 1))]) (st' := [.int (nI (60 * j + i)), .ref 7, .ref 0]) (σ' := σ) rfl ?_
      refine am_ialdN (n := 180) (v := oI (p 2 i)) rfl rfl rfl (by omega) m2 (by decide) ?_
      refine am_run 3 (pc' := 216) (ls' := [some (.ref 0), some (.int (nI (60 * j + i))), some (.int (nI w)), some (.int (nI 0)), some (.int (oI (p 1 i))), some (.int (nI 1))]) (st' := [.int (nI 0), .int (nI w), .int (oI (p 2 i)), .ref 0]) (σ' := σ) rfl ?_
      refine am_invv (y := 190) (b := 0) (as := [.int (oI (p 2 i)), .int (nI w), .int (nI 0)]) (rest := []) rfl rfl rfl rfl rfl rfl rfl (Nat.le_of_ble_eq_true rfl) ?_
      refine c_m_laid (by omega) hB w2 hw (by decide) (K2 (by omega)).1 (fun r14 hr14 ok14 iv14 => ?_)
      obtain ⟨x14a, x14b, x14c, x14d⟩ := id ok14
      show am_G _ M_X10_starts _ 219 [some (.ref 0), some (.int (nI (60 * j + i))), some (.int (nI w)), some (.int (nI 0)), some (.int (oI (p 1 i))), some (.int (nI 1))] [.int (nI (eM r14))] σ
      refine am_reti rfl rfl ?_
      have e : anB p (an p 61) i ST true E.1 E.2 = r14 := by
        refine (anB_63 h_10).trans ?_
        first | rfl | (simp only [*, if_true, if_false, ne_eq, not_false_eq_true, not_true_eq_false, true_or, false_or, or_false, or_true, or_self, and_true, true_and, and_false, false_and, and_self, Bool.false_eq_true, Bool.true_eq_false, reduceIte, Bool.and_true, Bool.and_false, Bool.true_and, Bool.false_and]; done) | (simp only [*, if_true, if_false, ne_eq, not_false_eq_true, not_true_eq_false, true_or, false_or, or_false, or_true, or_self, and_true, true_and, and_false, false_and, and_self, Bool.false_eq_true, Bool.true_eq_false, reduceIte, Bool.and_true, Bool.and_false, Bool.true_and, Bool.false_and]; rfl) | (simp only [*, if_true, if_false, ne_eq, not_false_eq_true, not_true_eq_false, true_or, false_or, or_false, or_true, or_self, and_true, true_and, and_false, false_and, and_self, Bool.false_eq_true, Bool.true_eq_false, reduceIte, Bool.and_true, Bool.and_false, Bool.true_and, Bool.false_and]; exact abt_or _) | (simp only [*, r_weakP, r_weakU, if_true, if_false, ne_eq, not_false_eq_true, not_true_eq_false, true_or, false_or, or_false, or_true, or_self, and_true, true_and, and_false, false_and, and_self, Bool.false_eq_true, Bool.true_eq_false, reduceIte, Bool.and_true, Bool.and_false, Bool.true_and, Bool.false_and]; rfl)
      rw [e] at hq
      exact hq
    · show am_G _ M_X10_starts _ 157 [some (.ref 0), some (.int (nI (60 * j + i))), some (.int (nI w)), some (.int (nI 0)), some (.int (oI (p 1 i))), none] [.int (nI 2)] σ
      refine am_run 2 (pc' := 161) (ls' := [some (.ref 0), some (.int (nI (60 * j + i))), some (.int (nI w)), some (.int (nI 0)), some (.int (oI (p 1 i))), some (.int (nI 2))]) (st' := [.int (nI 2)]) (σ' := σ) rfl ?_
      refine am_if (ty := 164) (tn := 192) rfl (by decide) rfl rfl (fun (h_15 : nI 2 = 0) => ?_) (fun (h_15 : ¬ (nI 2 = 0)) => ?_)
      · exact absurd h_15 (by decide)
      refine am_run 3 (pc' := 196) (ls' := [some (.ref 0), some (.int (nI (60 * j + i))), some (.int (nI w)), some (.int (nI 0)), some (.int (oI (p 1 i))), some (.int (nI 2))]) (st' := [.int (nI 1), .int (nI 2), .ref 0]) (σ' := σ) rfl ?_
      refine am_ic (ty := 199) (tn := 208) rfl (by decide) rfl rfl (fun (h_16 : nI 2 = nI 1) => ?_) (fun (h_16 : ¬ (nI 2 = nI 1)) => ?_)
      · exact absurd h_16 (by decide)
      refine am_run 3 (pc' := 213) (ls' := [some (.ref 0), some (.int (nI (60 * j + i))), some (.int (nI w)), some (.int (nI 0)), some (.int (oI (p 1 i))), some (.int (nI 2))]) (st' := [.int (nI (60 * j + i)), .ref 8, .ref 0]) (σ' := σ) rfl ?_
      refine am_ialdN (n := 180) (v := oI (p 3 i)) rfl rfl rfl (by omega) m3 (by decide) ?_
      refine am_run 2 (pc' := 216) (ls' := [some (.ref 0), some (.int (nI (60 * j + i))), some (.int (nI w)), some (.int (nI 0)), some (.int (oI (p 1 i))), some (.int (nI 2))]) (st' := [.int (nI 0), .int (nI w), .int (oI (p 3 i)), .ref 0]) (σ' := σ) rfl ?_
      refine am_invv (y := 190) (b := 0) (as := [.int (oI (p 3 i)), .int (nI w), .int (nI 0)]) (rest := []) rfl rfl rfl rfl rfl rfl rfl (Nat.le_of_ble_eq_true rfl) ?_
      refine c_m_laid (by omega) hB w3 hw (by decide) (K3 (by omega)).1 (fun r17 hr17 ok17 iv17 => ?_)
      obtain ⟨x17a, x17b, x17c, x17d⟩ := id ok17
      show am_G _ M_X10_starts _ 219 [some (.ref 0), some (.int (nI (60 * j + i))), some (.int (nI w)), some (.int (nI 0)), some (.int (oI (p 1 i))), some (.int (nI 2))] [.int (nI (eM r17))] σ
      refine am_reti rfl rfl ?_
      have e : anB p (an p 61) i ST true E.1 E.2 = r17 := by
        refine (anB_63 h_10).trans ?_
        first | rfl | (simp only [*, if_true, if_false, ne_eq, not_false_eq_true, not_true_eq_false, true_or, false_or, or_false, or_true, or_self, and_true, true_and, and_false, false_and, and_self, Bool.false_eq_true, Bool.true_eq_false, reduceIte, Bool.and_true, Bool.and_false, Bool.true_and, Bool.false_and]; done) | (simp only [*, if_true, if_false, ne_eq, not_false_eq_true, not_true_eq_false, true_or, false_or, or_false, or_true, or_self, and_true, true_and, and_false, false_and, and_self, Bool.false_eq_true, Bool.true_eq_false, reduceIte, Bool.and_true, Bool.and_false, Bool.true_and, Bool.false_and]; rfl) | (simp only [*, if_true, if_false, ne_eq, not_false_eq_true, not_true_eq_false, true_or, false_or, or_false, or_true, or_self, and_true, true_and, and_false, false_and, and_self, Bool.false_eq_true, Bool.true_eq_false, reduceIte, Bool.and_true, Bool.and_false, Bool.true_and, Bool.false_and]; exact abt_or _) | (simp only [*, r_weakP, r_weakU, if_true, if_false, ne_eq, not_false_eq_true, not_true_eq_false, true_or, false_or, or_false, or_true, or_self, and_true, true_and, and_false, false_and, and_self, Bool.false_eq_true, Bool.true_eq_false, reduceIte, Bool.and_true, Bool.and_false, Bool.true_and, Bool.false_and]; rfl)
      rw [e] at hq
      exact hq
    · show am_G _ M_X10_starts _ 157 [some (.ref 0), some (.int (nI (60 * j + i))), some (.int (nI w)), some (.int (nI 0)), some (.int (oI (p 1 i))), none] [.int (nI 0)] σ
      refine am_run 2 (pc' := 161) (ls' := [some (.ref 0), some (.int (nI (60 * j + i))), some (.int (nI w)), some (.int (nI 0)), some (.int (oI (p 1 i))), some (.int (nI 0))]) (st' := [.int (nI 0)]) (σ' := σ) rfl ?_
      refine am_if (ty := 164) (tn := 192) rfl (by decide) rfl rfl (fun (h_18 : nI 0 = 0) => ?_) (fun (h_18 : ¬ (nI 0 = 0)) => ?_)
      rotate_left
      · exact absurd (by decide) h_18
      refine am_run 4 (pc' := 170) (ls' := [some (.ref 0), some (.int (nI (60 * j + i))), some (.int (nI w)), some (.int (nI 0)), some (.int (oI (p 1 i))), some (.int (nI 0))]) (st' := [.int (nI (60 * j + i)), .ref 7, .ref 0]) (σ' := σ) rfl ?_
      refine am_ialdN (n := 180) (v := oI (p 2 i)) rfl rfl rfl (by omega) m2 (by decide) ?_
      refine am_run 2 (pc' := 173) (ls' := [some (.ref 0), some (.int (nI (60 * j + i))), some (.int (nI w)), some (.int (nI 0)), some (.int (oI (p 1 i))), some (.int (nI 0))]) (st' := [.int (nI 1), .int (nI w), .int (oI (p 2 i)), .ref 0]) (σ' := σ) rfl ?_
      refine am_invv (y := 190) (b := 0) (as := [.int (oI (p 2 i)), .int (nI w), .int (nI 1)]) (rest := []) rfl rfl rfl rfl rfl rfl rfl (Nat.le_of_ble_eq_true rfl) ?_
      refine c_m_laid (by omega) hB w2 hw (by decide) (K2 (by omega)).2 (fun r19 hr19 ok19 iv19 => ?_)
      obtain ⟨x19a, x19b, x19c, x19d⟩ := id ok19
      show am_G _ M_X10_starts _ 176 [some (.ref 0), some (.int (nI (60 * j + i))), some (.int (nI w)), some (.int (nI 0)), some (.int (oI (p 1 i))), some (.int (nI 0))] [.int (nI (eM r19))] σ
      refine am_run 4 (pc' := 182) (ls' := [some (.ref 0), some (.int (nI (60 * j + i))), some (.int (nI w)), some (.int (nI 0)), some (.int (oI (p 1 i))), some (.int (nI 0))]) (st' := [.int (nI (60 * j + i)), .ref 8, .ref 0, .int (nI (eM r19))]) (σ' := σ) rfl ?_
      refine am_ialdN (n := 180) (v := oI (p 3 i)) rfl rfl rfl (by omega) m3 (by decide) ?_
      refine am_run 2 (pc' := 185) (ls' := [some (.ref 0), some (.int (nI (60 * j + i))), some (.int (nI w)), some (.int (nI 0)), some (.int (oI (p 1 i))), some (.int (nI 0))]) (st' := [.int (nI 1), .int (nI w), .int (oI (p 3 i)), .ref 0, .int (nI (eM r19))]) (σ' := σ) rfl ?_
      refine am_invv (y := 190) (b := 0) (as := [.int (oI (p 3 i)), .int (nI w), .int (nI 1)]) (rest := [.int (nI (eM r19))]) rfl rfl rfl rfl rfl rfl rfl (Nat.le_of_ble_eq_true rfl) ?_
      refine c_m_laid (by omega) hB w3 hw (by decide) (K3 (by omega)).2 (fun r20 hr20 ok20 iv20 => ?_)
      obtain ⟨x20a, x20b, x20c, x20d⟩ := id ok20
      show am_G _ M_X10_starts _ 188 [some (.ref 0), some (.int (nI (60 * j + i))), some (.int (nI w)), some (.int (nI 0)), some (.int (oI (p 1 i))), some (.int (nI 0))] [.int (nI (eM r20)), .int (nI (eM r19))] σ
      refine am_invs (y := 199) (as := [.int (nI (eM r19)), .int (nI (eM r20))]) (rest := []) rfl rfl rfl rfl rfl rfl (Nat.le_of_ble_eq_true rfl) ?_
      refine c_m_perhapsOf (by omega) (a := r19) (b := r20) ok19 ok20 ?_
      show am_G _ M_X10_starts _ 191 [some (.ref 0), some (.int (nI (60 * j + i))), some (.int (nI w)), some (.int (nI 0)), some (.int (oI (p 1 i))), some (.int (nI 0))] [.int (nI (eM (r_or r19 r20)))] σ
      refine am_reti rfl rfl ?_
      have e : anB p (an p 61) i ST true E.1 E.2 = (r_or r19 r20) := by
        refine (anB_63 h_10).trans ?_
        first | rfl | (simp only [*, if_true, if_false, ne_eq, not_false_eq_true, not_true_eq_false, true_or, false_or, or_false, or_true, or_self, and_true, true_and, and_false, false_and, and_self, Bool.false_eq_true, Bool.true_eq_false, reduceIte, Bool.and_true, Bool.and_false, Bool.true_and, Bool.false_and]; done) | (simp only [*, if_true, if_false, ne_eq, not_false_eq_true, not_true_eq_false, true_or, false_or, or_false, or_true, or_self, and_true, true_and, and_false, false_and, and_self, Bool.false_eq_true, Bool.true_eq_false, reduceIte, Bool.and_true, Bool.and_false, Bool.true_and, Bool.false_and]; rfl) | (simp only [*, if_true, if_false, ne_eq, not_false_eq_true, not_true_eq_false, true_or, false_or, or_false, or_true, or_self, and_true, true_and, and_false, false_and, and_self, Bool.false_eq_true, Bool.true_eq_false, reduceIte, Bool.and_true, Bool.and_false, Bool.true_and, Bool.false_and]; exact abt_or _) | (simp only [*, r_weakP, r_weakU, if_true, if_false, ne_eq, not_false_eq_true, not_true_eq_false, true_or, false_or, or_false, or_true, or_self, and_true, true_and, and_false, false_and, and_self, Bool.false_eq_true, Bool.true_eq_false, reduceIte, Bool.and_true, Bool.and_false, Bool.true_and, Bool.false_and]; rfl)
      rw [e] at hq
      exact hq
  have h_10 : ¬ (p 0 i = 63) := fun z => h_10 ((nI_eq (by omega) (by omega)).mpr z)
  refine am_sw1 (k := nI 64) (tgt := 297) rfl (by decide) (by decide) rfl (fun (h_21 : nI (p 0 i) = nI 64) => ?_) (fun (h_21 : ¬ (nI (p 0 i) = nI 64)) => ?_)
  · have h_21 : p 0 i = 64 := (nI_eq (by omega) (by omega)).mp h_21
    have hg1 : 1 ≤ p 1 i := w5 (by rw [h_21]; decide)
    refine am_run 4 (pc' := 303) (ls' := [some (.ref 0), some (.int (nI (60 * j + i))), some (.int (nI w)), some (.int (nI 0)), some (.int (oI (p 1 i))), none]) (st' := [.int (nI (60 * j + i)), .ref 7, .ref 0]) (σ' := σ) rfl ?_
    refine am_ialdN (n := 180) (v := oI (p 2 i)) rfl rfl rfl (by omega) m2 (by decide) ?_
    refine am_run 2 (pc' := 306) (ls' := [some (.ref 0), some (.int (nI (60 * j + i))), some (.int (nI w)), some (.int (nI 0)), some (.int (oI (p 1 i))), none]) (st' := [.int (nI 0), .int (nI w), .int (oI (p 2 i)), .ref 0]) (σ' := σ) rfl ?_
    refine am_invv (y := 190) (b := 0) (as := [.int (oI (p 2 i)), .int (nI w), .int (nI 0)]) (rest := []) rfl rfl rfl rfl rfl rfl rfl (Nat.le_of_ble_eq_true rfl) ?_
    refine c_m_laid (by omega) hB w2 hw (by decide) (K2 (by omega)).1 (fun r22 hr22 ok22 iv22 => ?_)
    obtain ⟨x22a, x22b, x22c, x22d⟩ := id ok22
    show am_G _ M_X10_starts _ 309 [some (.ref 0), some (.int (nI (60 * j + i))), some (.int (nI w)), some (.int (nI 0)), some (.int (oI (p 1 i))), none] [.int (nI (eM r22))] σ
    refine am_reti rfl rfl ?_
    have e : anB p (an p 61) i ST true E.1 E.2 = r22 := by
      refine (anB_64 h_21).trans ?_
      first | rfl | (simp only [*, if_true, if_false, ne_eq, not_false_eq_true, not_true_eq_false, true_or, false_or, or_false, or_true, or_self, and_true, true_and, and_false, false_and, and_self, Bool.false_eq_true, Bool.true_eq_false, reduceIte, Bool.and_true, Bool.and_false, Bool.true_and, Bool.false_and]; done) | (simp only [*, if_true, if_false, ne_eq, not_false_eq_true, not_true_eq_false, true_or, false_or, or_false, or_true, or_self, and_true, true_and, and_false, false_and, and_self, Bool.false_eq_true, Bool.true_eq_false, reduceIte, Bool.and_true, Bool.and_false, Bool.true_and, Bool.false_and]; rfl) | (simp only [*, if_true, if_false, ne_eq, not_false_eq_true, not_true_eq_false, true_or, false_or, or_false, or_true, or_self, and_true, true_and, and_false, false_and, and_self, Bool.false_eq_true, Bool.true_eq_false, reduceIte, Bool.and_true, Bool.and_false, Bool.true_and, Bool.false_and]; exact abt_or _) | (simp only [*, r_weakP, r_weakU, if_true, if_false, ne_eq, not_false_eq_true, not_true_eq_false, true_or, false_or, or_false, or_true, or_self, and_true, true_and, and_false, false_and, and_self, Bool.false_eq_true, Bool.true_eq_false, reduceIte, Bool.and_true, Bool.and_false, Bool.true_and, Bool.false_and]; rfl)
    rw [e] at hq
    exact hq
  have h_21 : ¬ (p 0 i = 64) := fun z => h_21 ((nI_eq (by omega) (by omega)).mpr z)
  refine am_sw1 (k := nI 94) (tgt := 281) rfl (by decide) (by decide) rfl (fun (h_23 : nI (p 0 i) = nI 94) => ?_) (fun (h_23 : ¬ (nI (p 0 i) = nI 94)) => ?_)
  · have h_23 : p 0 i = 94 := (nI_eq (by omega) (by omega)).mp h_23
    refine am_run 4 (pc' := 287) (ls' := [some (.ref 0), some (.int (nI (60 * j + i))), some (.int (nI w)), some (.int (nI 0)), some (.int (oI (p 1 i))), none]) (st' := [.int (nI (60 * j + i)), .ref 7, .ref 0]) (σ' := σ) rfl ?_
    refine am_ialdN (n := 180) (v := oI (p 2 i)) rfl rfl rfl (by omega) m2 (by decide) ?_
    refine am_run 2 (pc' := 290) (ls' := [some (.ref 0), some (.int (nI (60 * j + i))), some (.int (nI w)), some (.int (nI 0)), some (.int (oI (p 1 i))), none]) (st' := [.int (nI 0), .int (nI w), .int (oI (p 2 i)), .ref 0]) (σ' := σ) rfl ?_
    refine am_invv (y := 190) (b := 0) (as := [.int (oI (p 2 i)), .int (nI w), .int (nI 0)]) (rest := []) rfl rfl rfl rfl rfl rfl rfl (Nat.le_of_ble_eq_true rfl) ?_
    refine c_m_laid (by omega) hB w2 hw (by decide) (K2 (by omega)).1 (fun r24 hr24 ok24 iv24 => ?_)
    obtain ⟨x24a, x24b, x24c, x24d⟩ := id ok24
    show am_G _ M_X10_starts _ 293 [some (.ref 0), some (.int (nI (60 * j + i))), some (.int (nI w)), some (.int (nI 0)), some (.int (oI (p 1 i))), none] [.int (nI (eM r24))] σ
    refine am_invs (y := 204) (as := [.int (nI (eM r24))]) (rest := []) rfl rfl rfl rfl rfl rfl (Nat.le_of_ble_eq_true rfl) ?_
    refine c_m_trapped (by omega) (a := r24) ok24 ?_
    show am_G _ M_X10_starts _ 296 [some (.ref 0), some (.int (nI (60 * j + i))), some (.int (nI w)), some (.int (nI 0)), some (.int (oI (p 1 i))), none] [.int (nI (eM (r_trap r24)))] σ
    refine am_reti rfl rfl ?_
    have e : anB p (an p 61) i ST true E.1 E.2 = (r_trap r24) := by
      refine (anB_94 h_23).trans ?_
      first | rfl | (simp only [*, if_true, if_false, ne_eq, not_false_eq_true, not_true_eq_false, true_or, false_or, or_false, or_true, or_self, and_true, true_and, and_false, false_and, and_self, Bool.false_eq_true, Bool.true_eq_false, reduceIte, Bool.and_true, Bool.and_false, Bool.true_and, Bool.false_and]; done) | (simp only [*, if_true, if_false, ne_eq, not_false_eq_true, not_true_eq_false, true_or, false_or, or_false, or_true, or_self, and_true, true_and, and_false, false_and, and_self, Bool.false_eq_true, Bool.true_eq_false, reduceIte, Bool.and_true, Bool.and_false, Bool.true_and, Bool.false_and]; rfl) | (simp only [*, if_true, if_false, ne_eq, not_false_eq_true, not_true_eq_false, true_or, false_or, or_false, or_true, or_self, and_true, true_and, and_false, false_and, and_self, Bool.false_eq_true, Bool.true_eq_false, reduceIte, Bool.and_true, Bool.and_false, Bool.true_and, Bool.false_and]; exact abt_or _) | (simp only [*, r_weakP, r_weakU, if_true, if_false, ne_eq, not_false_eq_true, not_true_eq_false, true_or, false_or, or_false, or_true, or_self, and_true, true_and, and_false, false_and, and_self, Bool.false_eq_true, Bool.true_eq_false, reduceIte, Bool.and_true, Bool.and_false, Bool.true_and, Bool.false_and]; rfl)
    rw [e] at hq
    exact hq
  have h_23 : ¬ (p 0 i = 94) := fun z => h_23 ((nI_eq (by omega) (by omega)).mpr z)
  refine am_sw1 (k := nI 120) (tgt := 139) rfl (by decide) (by decide) rfl (fun (h_25 : nI (p 0 i) = nI 120) => ?_) (fun (h_25 : ¬ (nI (p 0 i) = nI 120)) => ?_)
  · have h_25 : p 0 i = 120 := (nI_eq (by omega) (by omega)).mp h_25
    have hg1 := w6 h_25
    have hg2 : 2 ^ (p 1 i - 1) ≤ 2 ^ 4 := Nat.pow_le_pow_right (by decide) (by omega)
    refine am_run 2 (pc' := 142) (ls' := [some (.ref 0), some (.int (nI (60 * j + i))), some (.int (nI w)), some (.int (nI 0)), some (.int (oI (p 1 i))), none]) (st' := [.int (oI (p 1 i)), .int (nI 1)]) (σ' := σ) rfl ?_
    refine am_top (v' := nI (p 1 i - 1)) (oI_p (by omega)) ?_
    refine am_run 2 (pc' := 144) (ls' := [some (.ref 0), some (.int (nI (60 * j + i))), some (.int (nI w)), some (.int (nI 0)), some (.int (oI (p 1 i))), none]) (st' := [.int (nI (p 1 i - 1) + nI 2), .int (nI 1)]) (σ' := σ) rfl ?_
    refine am_top (v' := nI (p 1 i - 1 + 2)) (nI_add _ _) ?_
    refine am_run 1 (pc' := 145) (ls' := [some (.ref 0), some (.int (nI (60 * j + i))), some (.int (nI w)), some (.int (nI 0)), some (.int (oI (p 1 i))), none]) (st' := [.int ((nI 1) <<< ((nI (p 1 i - 1 + 2)) &&& 31))]) (σ' := σ) rfl ?_
    refine am_top (v' := nI (4 * 2 ^ (p 1 i - 1))) (by rw [nx_shl 1 (by omega), Nat.one_mul, Nat.pow_add]; congr 1; exact Nat.mul_comm _ _) ?_
    refine am_invs (y := 191) (as := [.int (nI (4 * 2 ^ (p 1 i - 1)))]) (rest := []) rfl rfl rfl rfl rfl rfl (Nat.le_of_ble_eq_true rfl) ?_
    refine c_m_code (by omega) (k := 4 * 2 ^ (p 1 i - 1)) (by first | omega | decide | exact pow_lt_256 (by omega) | exact or_lt8 (by omega) (by omega) | exact or_lt7 (by omega) (by omega) | exact mx_lt (by omega) (by omega) | exact ct_lt (by omega) | exact or_lt7 (cl_lt (by omega)) (by omega) | exact cl_lt (by omega) | exact or_lt7 (cl_lt (by omega)) (tb_lt _)) ?_
    show am_G _ M_X10_starts _ 148 [some (.ref 0), some (.int (nI (60 * j + i))), some (.int (nI w)), some (.int (nI 0)), some (.int (oI (p 1 i))), none] [.int (nI (eM (r_cd (4 * 2 ^ (p 1 i - 1)))))] σ
    refine am_reti rfl rfl ?_
    have e : anB p (an p 61) i ST true E.1 E.2 = (r_cd (4 * 2 ^ (p 1 i - 1))) := by
      refine (anB_120 h_25).trans ?_
      first | rfl | (simp only [*, if_true, if_false, ne_eq, not_false_eq_true, not_true_eq_false, true_or, false_or, or_false, or_true, or_self, and_true, true_and, and_false, false_and, and_self, Bool.false_eq_true, Bool.true_eq_false, reduceIte, Bool.and_true, Bool.and_false, Bool.true_and, Bool.false_and]; done) | (simp only [*, if_true, if_false, ne_eq, not_false_eq_true, not_true_eq_false, true_or, false_or, or_false, or_true, or_self, and_true, true_and, and_false, false_and, and_self, Bool.false_eq_true, Bool.true_eq_false, reduceIte, Bool.and_true, Bool.and_false, Bool.true_and, Bool.false_and]; rfl) | (simp only [*, if_true, if_false, ne_eq, not_false_eq_true, not_true_eq_false, true_or, false_or, or_false, or_true, or_self, and_true, true_and, and_false, false_and, and_self, Bool.false_eq_true, Bool.true_eq_false, reduceIte, Bool.and_true, Bool.and_false, Bool.true_and, Bool.false_and]; exact abt_or _) | (simp only [*, r_weakP, r_weakU, if_true, if_false, ne_eq, not_false_eq_true, not_true_eq_false, true_or, false_or, or_false, or_true, or_self, and_true, true_and, and_false, false_and, and_self, Bool.false_eq_true, Bool.true_eq_false, reduceIte, Bool.and_true, Bool.and_false, Bool.true_and, Bool.false_and]; rfl)
    rw [e] at hq
    exact hq
  have h_25 : ¬ (p 0 i = 120) := fun z => h_25 ((nI_eq (by omega) (by omega)).mpr z)
  refine am_sw1 (k := nI 124) (tgt := 253) rfl (by decide) (by decide) rfl (fun (h_26 : nI (p 0 i) = nI 124) => ?_) (fun (h_26 : ¬ (nI (p 0 i) = nI 124)) => ?_)
  · have h_26 : p 0 i = 124 := (nI_eq (by omega) (by omega)).mp h_26
    refine am_run 4 (pc' := 259) (ls' := [some (.ref 0), some (.int (nI (60 * j + i))), some (.int (nI w)), some (.int (nI 0)), some (.int (oI (p 1 i))), none]) (st' := [.int (nI (60 * j + i)), .ref 7, .ref 0]) (σ' := σ) rfl ?_
    refine am_ialdN (n := 180) (v := oI (p 2 i)) rfl rfl rfl (by omega) m2 (by decide) ?_
    refine am_run 2 (pc' := 262) (ls' := [some (.ref 0), some (.int (nI (60 * j + i))), some (.int (nI w)), some (.int (nI 0)), some (.int (oI (p 1 i))), none]) (st' := [.int (nI 0), .int (nI w), .int (oI (p 2 i)), .ref 0]) (σ' := σ) rfl ?_
    refine am_invv (y := 190) (b := 0) (as := [.int (oI (p 2 i)), .int (nI w), .int (nI 0)]) (rest := []) rfl rfl rfl rfl rfl rfl rfl (Nat.le_of_ble_eq_true rfl) ?_
    refine c_m_laid (by omega) hB w2 hw (by decide) (K2 (by omega)).1 (fun r27 hr27 ok27 iv27 => ?_)
    obtain ⟨x27a, x27b, x27c, x27d⟩ := id ok27
    show am_G _ M_X10_starts _ 265 [some (.ref 0), some (.int (nI (60 * j + i))), some (.int (nI w)), some (.int (nI 0)), some (.int (oI (p 1 i))), none] [.int (nI (eM r27))] σ
    refine am_run 4 (pc' := 271) (ls' := [some (.ref 0), some (.int (nI (60 * j + i))), some (.int (nI w)), some (.int (nI 0)), some (.int (oI (p 1 i))), none]) (st' := [.int (nI (60 * j + i)), .ref 8, .ref 0, .int (nI (eM r27))]) (σ' := σ) rfl ?_
    refine am_ialdN (n := 180) (v := oI (p 3 i)) rfl rfl rfl (by omega) m3 (by decide) ?_
    refine am_run 2 (pc' := 274) (ls' := [some (.ref 0), some (.int (nI (60 * j + i))), some (.int (nI w)), some (.int (nI 0)), some (.int (oI (p 1 i))), none]) (st' := [.int (nI 0), .int (nI w), .int (oI (p 3 i)), .ref 0, .int (nI (eM r27))]) (σ' := σ) rfl ?_
    refine am_invv (y := 190) (b := 0) (as := [.int (oI (p 3 i)), .int (nI w), .int (nI 0)]) (rest := [.int (nI (eM r27))]) rfl rfl rfl rfl rfl rfl rfl (Nat.le_of_ble_eq_true rfl) ?_
    refine c_m_laid (by omega) hB w3 hw (by decide) (K3 (by omega)).1 (fun r28 hr28 ok28 iv28 => ?_)
    obtain ⟨x28a, x28b, x28c, x28d⟩ := id ok28
    show am_G _ M_X10_starts _ 277 [some (.ref 0), some (.int (nI (60 * j + i))), some (.int (nI w)), some (.int (nI 0)), some (.int (oI (p 1 i))), none] [.int (nI (eM r28)), .int (nI (eM r27))] σ
    refine am_invs (y := 197) (as := [.int (nI (eM r27)), .int (nI (eM r28))]) (rest := []) rfl rfl rfl rfl rfl rfl (Nat.le_of_ble_eq_true rfl) ?_
    refine c_m_beside (by omega) (a := r27) (b := r28) ok27 ok28 ?_
    show am_G _ M_X10_starts _ 280 [some (.ref 0), some (.int (nI (60 * j + i))), some (.int (nI w)), some (.int (nI 0)), some (.int (oI (p 1 i))), none] [.int (nI (eM (r_par r27 r28)))] σ
    refine am_reti rfl rfl ?_
    have e : anB p (an p 61) i ST true E.1 E.2 = (r_par r27 r28) := by
      refine (anB_124 h_26).trans ?_
      first | rfl | (simp only [*, if_true, if_false, ne_eq, not_false_eq_true, not_true_eq_false, true_or, false_or, or_false, or_true, or_self, and_true, true_and, and_false, false_and, and_self, Bool.false_eq_true, Bool.true_eq_false, reduceIte, Bool.and_true, Bool.and_false, Bool.true_and, Bool.false_and]; done) | (simp only [*, if_true, if_false, ne_eq, not_false_eq_true, not_true_eq_false, true_or, false_or, or_false, or_true, or_self, and_true, true_and, and_false, false_and, and_self, Bool.false_eq_true, Bool.true_eq_false, reduceIte, Bool.and_true, Bool.and_false, Bool.true_and, Bool.false_and]; rfl) | (simp only [*, if_true, if_false, ne_eq, not_false_eq_true, not_true_eq_false, true_or, false_or, or_false, or_true, or_self, and_true, true_and, and_false, false_and, and_self, Bool.false_eq_true, Bool.true_eq_false, reduceIte, Bool.and_true, Bool.and_false, Bool.true_and, Bool.false_and]; exact abt_or _) | (simp only [*, r_weakP, r_weakU, if_true, if_false, ne_eq, not_false_eq_true, not_true_eq_false, true_or, false_or, or_false, or_true, or_self, and_true, true_and, and_false, false_and, and_self, Bool.false_eq_true, Bool.true_eq_false, reduceIte, Bool.and_true, Bool.and_false, Bool.true_and, Bool.false_and]; rfl)
    rw [e] at hq
    exact hq
  have h_26 : ¬ (p 0 i = 124) := fun z => h_26 ((nI_eq (by omega) (by omega)).mpr z)
  refine am_sw1 (k := nI 126) (tgt := 297) rfl (by decide) (by decide) rfl (fun (h_29 : nI (p 0 i) = nI 126) => ?_) (fun (h_29 : ¬ (nI (p 0 i) = nI 126)) => ?_)
  · have h_29 : p 0 i = 126 := (nI_eq (by omega) (by omega)).mp h_29
    have hg1 : 1 ≤ p 1 i := w5 (by rw [h_29]; decide)
    refine am_run 4 (pc' := 303) (ls' := [some (.ref 0), some (.int (nI (60 * j + i))), some (.int (nI w)), some (.int (nI 0)), some (.int (oI (p 1 i))), none]) (st' := [.int (nI (60 * j + i)), .ref 7, .ref 0]) (σ' := σ) rfl ?_
    refine am_ialdN (n := 180) (v := oI (p 2 i)) rfl rfl rfl (by omega) m2 (by decide) ?_
    refine am_run 2 (pc' := 306) (ls' := [some (.ref 0), some (.int (nI (60 * j + i))), some (.int (nI w)), some (.int (nI 0)), some (.int (oI (p 1 i))), none]) (st' := [.int (nI 0), .int (nI w), .int (oI (p 2 i)), .ref 0]) (σ' := σ) rfl ?_
    refine am_invv (y := 190) (b := 0) (as := [.int (oI (p 2 i)), .int (nI w), .int (nI 0)]) (rest := []) rfl rfl rfl rfl rfl rfl rfl (Nat.le_of_ble_eq_true rfl) ?_
    refine c_m_laid (by omega) hB w2 hw (by decide) (K2 (by omega)).1 (fun r30 hr30 ok30 iv30 => ?_)
    obtain ⟨x30a, x30b, x30c, x30d⟩ := id ok30
    show am_G _ M_X10_starts _ 309 [some (.ref 0), some (.int (nI (60 * j + i))), some (.int (nI w)), some (.int (nI 0)), some (.int (oI (p 1 i))), none] [.int (nI (eM r30))] σ
    refine am_reti rfl rfl ?_
    have e : anB p (an p 61) i ST true E.1 E.2 = r30 := by
      refine (anB_126 h_29).trans ?_
      first | rfl | (simp only [*, if_true, if_false, ne_eq, not_false_eq_true, not_true_eq_false, true_or, false_or, or_false, or_true, or_self, and_true, true_and, and_false, false_and, and_self, Bool.false_eq_true, Bool.true_eq_false, reduceIte, Bool.and_true, Bool.and_false, Bool.true_and, Bool.false_and]; done) | (simp only [*, if_true, if_false, ne_eq, not_false_eq_true, not_true_eq_false, true_or, false_or, or_false, or_true, or_self, and_true, true_and, and_false, false_and, and_self, Bool.false_eq_true, Bool.true_eq_false, reduceIte, Bool.and_true, Bool.and_false, Bool.true_and, Bool.false_and]; rfl) | (simp only [*, if_true, if_false, ne_eq, not_false_eq_true, not_true_eq_false, true_or, false_or, or_false, or_true, or_self, and_true, true_and, and_false, false_and, and_self, Bool.false_eq_true, Bool.true_eq_false, reduceIte, Bool.and_true, Bool.and_false, Bool.true_and, Bool.false_and]; exact abt_or _) | (simp only [*, r_weakP, r_weakU, if_true, if_false, ne_eq, not_false_eq_true, not_true_eq_false, true_or, false_or, or_false, or_true, or_self, and_true, true_and, and_false, false_and, and_self, Bool.false_eq_true, Bool.true_eq_false, reduceIte, Bool.and_true, Bool.and_false, Bool.true_and, Bool.false_and]; rfl)
    rw [e] at hq
    exact hq
  have h_29 : ¬ (p 0 i = 126) := fun z => h_29 ((nI_eq (by omega) (by omega)).mpr z)
  refine am_sw0 (tgt := 318) (by decide) rfl ?_
  refine am_run 1 (pc' := 319) (ls' := [some (.ref 0), some (.int (nI (60 * j + i))), some (.int (nI w)), some (.int (nI 0)), some (.int (oI (p 1 i))), none]) (st' := [.int (nI 1)]) (σ' := σ) rfl ?_
  refine am_invs (y := 191) (as := [.int (nI 1)]) (rest := []) rfl rfl rfl rfl rfl rfl (Nat.le_of_ble_eq_true rfl) ?_
  refine c_m_code (by omega) (k := 1) (by first | omega | decide | exact pow_lt_256 (by omega) | exact or_lt8 (by omega) (by omega) | exact or_lt7 (by omega) (by omega) | exact mx_lt (by omega) (by omega) | exact ct_lt (by omega) | exact or_lt7 (cl_lt (by omega)) (by omega) | exact cl_lt (by omega) | exact or_lt7 (cl_lt (by omega)) (tb_lt _)) ?_
  show am_G _ M_X10_starts _ 322 [some (.ref 0), some (.int (nI (60 * j + i))), some (.int (nI w)), some (.int (nI 0)), some (.int (oI (p 1 i))), none] [.int (nI (eM (r_cd 1)))] σ
  refine am_reti rfl rfl ?_
  have e : anB p (an p 61) i ST true E.1 E.2 = (r_cd 1) := by
    refine (anB_z (by omega) (by omega) (by omega) (by omega) (by omega) (by omega) (by omega) (by omega) (by omega) (by omega) (by omega) (by omega)).trans ?_
    first | rfl | (simp only [*, if_true, if_false, ne_eq, not_false_eq_true, not_true_eq_false, true_or, false_or, or_false, or_true, or_self, and_true, true_and, and_false, false_and, and_self, Bool.false_eq_true, Bool.true_eq_false, reduceIte, Bool.and_true, Bool.and_false, Bool.true_and, Bool.false_and]; done) | (simp only [*, if_true, if_false, ne_eq, not_false_eq_true, not_true_eq_false, true_or, false_or, or_false, or_true, or_self, and_true, true_and, and_false, false_and, and_self, Bool.false_eq_true, Bool.true_eq_false, reduceIte, Bool.and_true, Bool.and_false, Bool.true_and, Bool.false_and]; rfl) | (simp only [*, if_true, if_false, ne_eq, not_false_eq_true, not_true_eq_false, true_or, false_or, or_false, or_true, or_self, and_true, true_and, and_false, false_and, and_self, Bool.false_eq_true, Bool.true_eq_false, reduceIte, Bool.and_true, Bool.and_false, Bool.true_and, Bool.false_and]; exact abt_or _) | (simp only [*, r_weakP, r_weakU, if_true, if_false, ne_eq, not_false_eq_true, not_true_eq_false, true_or, false_or, or_false, or_true, or_self, and_true, true_and, and_false, false_and, and_self, Bool.false_eq_true, Bool.true_eq_false, reduceIte, Bool.and_true, Bool.and_false, Bool.true_and, Bool.false_and]; rfl)
  rw [e] at hq
  exact hq
set_option maxRecDepth 10000 in
set_option maxHeartbeats 2000000 in
theorem c_m_starts1 {d : Nat} (hd : 8 ≤ d) {σ : am_M} {j s P A n : Nat} {p : Pg} {dp : Nat → Nat} {ow : Nat → Nat → Nat} (hB : MB σ j s P A p n dp ow) {i w : Nat} {E : Nat × Nat} (hi : i < n) (hw3 : w < 3 ^ dp i) (hE : evn (ow i) w P A (dp i) = E) (K2 : ¬ p 0 i = 36 → KD σ p (p 2 i) w 0 ST true E ∧ KD σ p (p 2 i) w 1 ST false E) (K3 : ¬ p 0 i = 36 → KD σ p (p 3 i) w 0 ST true E ∧ KD σ p (p 3 i) w 1 ST false E) (D36 : p 0 i = 36 → dp i ≤ 2) (K36 : p 0 i = 36 → ∀ h, h < 3 → KD σ p (p 2 i) (w + h * 3 ^ dp i) 1 ST false (up3 E (p 1 i - 1) h)) {Q : am_Q} (hq : Q (some (.int (nI (eM (anB p (an p 61) i ST false E.1 E.2))))) σ) : am_C d 203 [.ref 0, .int (nI (60 * j + i)), .int (nI w), .int (nI 1)] σ Q := by
  obtain ⟨hj, hS, hW, hs, hN, hdj, hP, hA⟩ := id hB
  obtain ⟨hS1, hS2, hS3, hS4⟩ := id hS
  obtain ⟨⟨m0, m1, m2, m3, m4, m5, m6⟩, hdp, how⟩ := hN i hi
  obtain ⟨w0, w1, w2, w3, w4, w5, w6⟩ := hW.2 i hi
  have hn60 := hW.1
  have hw := wy0 hdp hw3
  refine am_enter' (M := M_X10_starts) rfl rfl rfl (by omega) (ls := [some (.ref 0), some (.int (nI (60 * j + i))), some (.int (nI w)), some (.int (nI 1)), none, none]) rfl (fun d' hd' => ?_)
  refine am_run 3 (pc' := 5) (ls' := [some (.ref 0), some (.int (nI (60 * j + i))), some (.int (nI w)), some (.int (nI 1)), none, none]) (st' := [.int (nI (60 * j + i)), .ref 6]) (σ' := σ) rfl ?_
  refine am_ialdN (n := 180) (v := oI (p 1 i)) rfl rfl rfl (by omega) m1 (by decide) ?_
  refine am_run 4 (pc' := 13) (ls' := [some (.ref 0), some (.int (nI (60 * j + i))), some (.int (nI w)), some (.int (nI 1)), some (.int (oI (p 1 i))), none]) (st' := [.int (nI (60 * j + i)), .ref 5]) (σ' := σ) rfl ?_
  refine am_ialdN (n := 180) (v := nI (p 0 i)) rfl rfl rfl (by omega) m0 (by decide) ?_
  refine am_lsw rfl rfl (L := [(33, 106), (36, 296), (38, 120), (42, 283), (46, 120), (59, 206), (63, 135), (64, 283), (94, 267), (120, 125), (124, 239), (126, 283)]) rfl ?_
  refine am_sw1 (k := nI 33) (tgt := 120) rfl (by decide) (by decide) rfl (fun (h_1 : nI (p 0 i) = nI 33) => ?_) (fun (h_1 : ¬ (nI (p 0 i) = nI 33)) => ?_)
  · have h_1 : p 0 i = 33 := (nI_eq (by omega) (by omega)).mp h_1
    have hg1 : 1 ≤ p 1 i := w5 (by rw [h_1]; decide)
    refine am_run 2 (pc' := 123) (ls' := [some (.ref 0), some (.int (nI (60 * j + i))), some (.int (nI w)), some (.int (nI 1)), some (.int (oI (p 1 i))), none]) (st' := [.int (oI (p 1 i)), .int (nI 1)]) (σ' := σ) rfl ?_
    refine am_top (v' := nI (p 1 i - 1)) (oI_p (by omega)) ?_
    refine am_run 1 (pc' := 124) (ls' := [some (.ref 0), some (.int (nI (60 * j + i))), some (.int (nI w)), some (.int (nI 1)), some (.int (oI (p 1 i))), none]) (st' := [.int ((nI 1) <<< ((nI (p 1 i - 1)) &&& 31))]) (σ' := σ) rfl ?_
    refine am_top (v' := nI (2 ^ (p 1 i - 1))) (by rw [nx_shl 1 (by omega), Nat.one_mul]) ?_
    refine am_run 2 (pc' := 127) (ls' := [some (.ref 0), some (.int (nI (60 * j + i))), some (.int (nI w)), some (.int (nI 1)), some (.int (oI (p 1 i))), none]) (st' := [.int (oI (p 1 i)), .int (nI 1), .int (nI (2 ^ (p 1 i - 1)))]) (σ' := σ) rfl ?_
    refine am_top (v' := nI (p 1 i - 1)) (oI_p (by omega)) ?_
    refine am_run 1 (pc' := 128) (ls' := [some (.ref 0), some (.int (nI (60 * j + i))), some (.int (nI w)), some (.int (nI 1)), some (.int (oI (p 1 i))), none]) (st' := [.int ((nI 1) <<< ((nI (p 1 i - 1)) &&& 31)), .int (nI (2 ^ (p 1 i - 1)))]) (σ' := σ) rfl ?_
    refine am_top (v' := nI (2 ^ (p 1 i - 1))) (by rw [nx_shl 1 (by omega), Nat.one_mul]) ?_
    refine am_run 2 (pc' := 130) (ls' := [some (.ref 0), some (.int (nI (60 * j + i))), some (.int (nI w)), some (.int (nI 1)), some (.int (oI (p 1 i))), none]) (st' := [.int (nI 1), .int (nI 1), .int (nI (2 ^ (p 1 i - 1))), .int (nI (2 ^ (p 1 i - 1)))]) (σ' := σ) rfl ?_
    refine am_invs (y := 184) (as := [.int (nI (2 ^ (p 1 i - 1))), .int (nI (2 ^ (p 1 i - 1))), .int (nI 1), .int (nI 1)]) (rest := []) rfl rfl rfl rfl rfl rfl (Nat.le_of_ble_eq_true rfl) ?_
    refine c_m_packed (by omega) (m := 2 ^ (p 1 i - 1)) (c := 2 ^ (p 1 i - 1)) (k := 1) (q := 1) (by first | omega | decide | exact pow_lt_256 (by omega) | exact or_lt8 (by omega) (by omega) | exact or_lt7 (by omega) (by omega) | exact mx_lt (by omega) (by omega) | exact ct_lt (by omega) | exact or_lt7 (cl_lt (by omega)) (by omega) | exact cl_lt (by omega) | exact or_lt7 (cl_lt (by omega)) (tb_lt _)) (by first | omega | decide | exact pow_lt_256 (by omega) | exact or_lt8 (by omega) (by omega) | exact or_lt7 (by omega) (by omega) | exact mx_lt (by omega) (by omega) | exact ct_lt (by omega) | exact or_lt7 (cl_lt (by omega)) (by omega) | exact cl_lt (by omega) | exact or_lt7 (cl_lt (by omega)) (tb_lt _)) (by first | omega | decide | exact pow_lt_256 (by omega) | exact or_lt8 (by omega) (by omega) | exact or_lt7 (by omega) (by omega) | exact mx_lt (by omega) (by omega) | exact ct_lt (by omega) | exact or_lt7 (cl_lt (by omega)) (by omega) | exact cl_lt (by omega) | exact or_lt7 (cl_lt (by omega)) (tb_lt _)) (by first | omega | decide | exact pow_lt_256 (by omega) | exact or_lt8 (by omega) (by omega) | exact or_lt7 (by omega) (by omega) | exact mx_lt (by omega) (by omega) | exact ct_lt (by omega) | exact or_lt7 (cl_lt (by omega)) (by omega) | exact cl_lt (by omega) | exact or_lt7 (cl_lt (by omega)) (tb_lt _)) ?_
    show am_G _ M_X10_starts _ 133 [some (.ref 0), some (.int (nI (60 * j + i))), some (.int (nI w)), some (.int (nI 1)), some (.int (oI (p 1 i))), none] [.int (nI (eM (2 ^ (p 1 i - 1), 2 ^ (p 1 i - 1), 1, 1)))] σ
    refine am_reti rfl rfl ?_
    have e : anB p (an p 61) i ST false E.1 E.2 = (2 ^ (p 1 i - 1), 2 ^ (p 1 i - 1), 1, 1) := by
      refine (anB_33 h_1).trans ?_
      first | rfl | (simp only [*, if_true, if_false, ne_eq, not_false_eq_true, not_true_eq_false, true_or, false_or, or_false, or_true, or_self, and_true, true_and, and_false, false_and, and_self, Bool.false_eq_true, Bool.true_eq_false, reduceIte, Bool.and_true, Bool.and_false, Bool.true_and, Bool.false_and]; done) | (simp only [*, if_true, if_false, ne_eq, not_false_eq_true, not_true_eq_false, true_or, false_or, or_false, or_true, or_self, and_true, true_and, and_false, false_and, and_self, Bool.false_eq_true, Bool.true_eq_false, reduceIte, Bool.and_true, Bool.and_false, Bool.true_and, Bool.false_and]; rfl) | (simp only [*, if_true, if_false, ne_eq, not_false_eq_true, not_true_eq_false, true_or, false_or, or_false, or_true, or_self, and_true, true_and, and_false, false_and, and_self, Bool.false_eq_true, Bool.true_eq_false, reduceIte, Bool.and_true, Bool.and_false, Bool.true_and, Bool.false_and]; exact abt_or _) | (simp only [*, r_weakP, r_weakU, if_true, if_false, ne_eq, not_false_eq_true, not_true_eq_false, true_or, false_or, or_false, or_true, or_self, and_true, true_and, and_false, false_and, and_self, Bool.false_eq_true, Bool.true_eq_false, reduceIte, Bool.and_true, Bool.and_false, Bool.true_and, Bool.false_and]; rfl)
    rw [e] at hq
    exact hq
  have h_1 : ¬ (p 0 i = 33) := fun z => h_1 ((nI_eq (by omega) (by omega)).mpr z)
  refine am_sw1 (k := nI 36) (tgt := 310) rfl (by decide) (by decide) rfl (fun (h_2 : nI (p 0 i) = nI 36) => ?_) (fun (h_2 : ¬ (nI (p 0 i) = nI 36)) => ?_)
  · have h_2 : p 0 i = 36 := (nI_eq (by omega) (by omega)).mp h_2
    have hg1 : 1 ≤ p 1 i := w5 (by rw [h_2]; decide)
    refine am_run 4 (pc' := 314) (ls' := [some (.ref 0), some (.int (nI (60 * j + i))), some (.int (nI w)), some (.int (nI 1)), some (.int (oI (p 1 i))), none]) (st' := [.int (nI 1), .int (nI w), .int (nI (60 * j + i)), .ref 0]) (σ' := σ) rfl ?_
    refine am_invv (y := 202) (b := 0) (as := [.int (nI (60 * j + i)), .int (nI w), .int (nI 1)]) (rest := []) rfl rfl rfl rfl rfl rfl rfl (Nat.le_of_ble_eq_true rfl) ?_
    refine c_m_newLaid1 (by omega) hB hi hw3 hE (by first | exact h_2 | omega) (D36 (by omega)) (K36 (by omega)) ?_
    show am_G _ M_X10_starts _ 317 [some (.ref 0), some (.int (nI (60 * j + i))), some (.int (nI w)), some (.int (nI 1)), some (.int (oI (p 1 i))), none] [.int (nI (eM (anB p (an p 61) i ST false E.1 E.2)))] σ
    refine am_reti rfl rfl ?_
    exact hq
  have h_2 : ¬ (p 0 i = 36) := fun z => h_2 ((nI_eq (by omega) (by omega)).mpr z)
  refine am_sw1 (k := nI 38) (tgt := 134) rfl (by decide) (by decide) rfl (fun (h_3 : nI (p 0 i) = nI 38) => ?_) (fun (h_3 : ¬ (nI (p 0 i) = nI 38)) => ?_)
  · have h_3 : p 0 i = 38 := (nI_eq (by omega) (by omega)).mp h_3
    have hg1 : 1 ≤ p 1 i := w5 (by rw [h_3]; decide)
    refine am_run 1 (pc' := 135) (ls' := [some (.ref 0), some (.int (nI (60 * j + i))), some (.int (nI w)), some (.int (nI 1)), some (.int (oI (p 1 i))), none]) (st' := [.int (nI 2)]) (σ' := σ) rfl ?_
    refine am_invs (y := 191) (as := [.int (nI 2)]) (rest := []) rfl rfl rfl rfl rfl rfl (Nat.le_of_ble_eq_true rfl) ?_
    refine c_m_code (by omega) (k := 2) (by first | omega | decide | exact pow_lt_256 (by omega) | exact or_lt8 (by omega) (by omega) | exact or_lt7 (by omega) (by omega) | exact mx_lt (by omega) (by omega) | exact ct_lt (by omega) | exact or_lt7 (cl_lt (by omega)) (by omega) | exact cl_lt (by omega) | exact or_lt7 (cl_lt (by omega)) (tb_lt _)) ?_
    show am_G _ M_X10_starts _ 138 [some (.ref 0), some (.int (nI (60 * j + i))), some (.int (nI w)), some (.int (nI 1)), some (.int (oI (p 1 i))), none] [.int (nI (eM (r_cd 2)))] σ
    refine am_reti rfl rfl ?_
    have e : anB p (an p 61) i ST false E.1 E.2 = (r_cd 2) := by
      refine (anB_38 h_3).trans ?_
      first | rfl | (simp only [*, if_true, if_false, ne_eq, not_false_eq_true, not_true_eq_false, true_or, false_or, or_false, or_true, or_self, and_true, true_and, and_false, false_and, and_self, Bool.false_eq_true, Bool.true_eq_false, reduceIte, Bool.and_true, Bool.and_false, Bool.true_and, Bool.false_and]; done) | (simp only [*, if_true, if_false, ne_eq, not_false_eq_true, not_true_eq_false, true_or, false_or, or_false, or_true, or_self, and_true, true_and, and_false, false_and, and_self, Bool.false_eq_true, Bool.true_eq_false, reduceIte, Bool.and_true, Bool.and_false, Bool.true_and, Bool.false_and]; rfl) | (simp only [*, if_true, if_false, ne_eq, not_false_eq_true, not_true_eq_false, true_or, false_or, or_false, or_true, or_self, and_true, true_and, and_false, false_and, and_self, Bool.false_eq_true, Bool.true_eq_false, reduceIte, Bool.and_true, Bool.and_false, Bool.true_and, Bool.false_and]; exact abt_or _) | (simp only [*, r_weakP, r_weakU, if_true, if_false, ne_eq, not_false_eq_true, not_true_eq_false, true_or, false_or, or_false, or_true, or_self, and_true, true_and, and_false, false_and, and_self, Bool.false_eq_true, Bool.true_eq_false, reduceIte, Bool.and_true, Bool.and_false, Bool.true_and, Bool.false_and]; rfl)
    rw [e] at hq
    exact hq
  have h_3 : ¬ (p 0 i = 38) := fun z => h_3 ((nI_eq (by omega) (by omega)).mpr z)
  refine am_sw1 (k := nI 42) (tgt := 297) rfl (by decide) (by decide) rfl (fun (h_4 : nI (p 0 i) = nI 42) => ?_) (fun (h_4 : ¬ (nI (p 0 i) = nI 42)) => ?_)
  · have h_4 : p 0 i = 42 := (nI_eq (by omega) (by omega)).mp h_4
    refine am_run 4 (pc' := 303) (ls' := [some (.ref 0), some (.int (nI (60 * j + i))), some (.int (nI w)), some (.int (nI 1)), some (.int (oI (p 1 i))), none]) (st' := [.int (nI (60 * j + i)), .ref 7, .ref 0]) (σ' := σ) rfl ?_
    refine am_ialdN (n := 180) (v := oI (p 2 i)) rfl rfl rfl (by omega) m2 (by decide) ?_
    refine am_run 2 (pc' := 306) (ls' := [some (.ref 0), some (.int (nI (60 * j + i))), some (.int (nI w)), some (.int (nI 1)), some (.int (oI (p 1 i))), none]) (st' := [.int (nI 1), .int (nI w), .int (oI (p 2 i)), .ref 0]) (σ' := σ) rfl ?_
    refine am_invv (y := 190) (b := 0) (as := [.int (oI (p 2 i)), .int (nI w), .int (nI 1)]) (rest := []) rfl rfl rfl rfl rfl rfl rfl (Nat.le_of_ble_eq_true rfl) ?_
    refine c_m_laid (by omega) hB w2 hw (by decide) (K2 (by omega)).2 (fun r5 hr5 ok5 iv5 => ?_)
    obtain ⟨x5a, x5b, x5c, x5d⟩ := id ok5
    show am_G _ M_X10_starts _ 309 [some (.ref 0), some (.int (nI (60 * j + i))), some (.int (nI w)), some (.int (nI 1)), some (.int (oI (p 1 i))), none] [.int (nI (eM r5))] σ
    refine am_reti rfl rfl ?_
    have e : anB p (an p 61) i ST false E.1 E.2 = r5 := by
      refine (anB_42 h_4).trans ?_
      first | rfl | (simp only [*, if_true, if_false, ne_eq, not_false_eq_true, not_true_eq_false, true_or, false_or, or_false, or_true, or_self, and_true, true_and, and_false, false_and, and_self, Bool.false_eq_true, Bool.true_eq_false, reduceIte, Bool.and_true, Bool.and_false, Bool.true_and, Bool.false_and]; done) | (simp only [*, if_true, if_false, ne_eq, not_false_eq_true, not_true_eq_false, true_or, false_or, or_false, or_true, or_self, and_true, true_and, and_false, false_and, and_self, Bool.false_eq_true, Bool.true_eq_false, reduceIte, Bool.and_true, Bool.and_false, Bool.true_and, Bool.false_and]; rfl) | (simp only [*, if_true, if_false, ne_eq, not_false_eq_true, not_true_eq_false, true_or, false_or, or_false, or_true, or_self, and_true, true_and, and_false, false_and, and_self, Bool.false_eq_true, Bool.true_eq_false, reduceIte, Bool.and_true, Bool.and_false, Bool.true_and, Bool.false_and]; exact abt_or _) | (simp only [*, r_weakP, r_weakU, if_true, if_false, ne_eq, not_false_eq_true, not_true_eq_false, true_or, false_or, or_false, or_true, or_self, and_true, true_and, and_false, false_and, and_self, Bool.false_eq_true, Bool.true_eq_false, reduceIte, Bool.and_true, Bool.and_false, Bool.true_and, Bool.false_and]; rfl)
    rw [e] at hq
    exact hq
  have h_4 : ¬ (p 0 i = 42) := fun z => h_4 ((nI_eq (by omega) (by omega)).mpr z)
  refine am_sw1 (k := nI 46) (tgt := 134) rfl (by decide) (by decide) rfl (fun (h_6 : nI (p 0 i) = nI 46) => ?_) (fun (h_6 : ¬ (nI (p 0 i) = nI 46)) => ?_)
  · have h_6 : p 0 i = 46 := (nI_eq (by omega) (by omega)).mp h_6
    refine am_run 1 (pc' := 135) (ls' := [some (.ref 0), some (.int (nI (60 * j + i))), some (.int (nI w)), some (.int (nI 1)), some (.int (oI (p 1 i))), none]) (st' := [.int (nI 2)]) (σ' := σ) rfl ?_
    refine am_invs (y := 191) (as := [.int (nI 2)]) (rest := []) rfl rfl rfl rfl rfl rfl (Nat.le_of_ble_eq_true rfl) ?_
    refine c_m_code (by omega) (k := 2) (by first | omega | decide | exact pow_lt_256 (by omega) | exact or_lt8 (by omega) (by omega) | exact or_lt7 (by omega) (by omega) | exact mx_lt (by omega) (by omega) | exact ct_lt (by omega) | exact or_lt7 (cl_lt (by omega)) (by omega) | exact cl_lt (by omega) | exact or_lt7 (cl_lt (by omega)) (tb_lt _)) ?_
    show am_G _ M_X10_starts _ 138 [some (.ref 0), some (.int (nI (60 * j + i))), some (.int (nI w)), some (.int (nI 1)), some (.int (oI (p 1 i))), none] [.int (nI (eM (r_cd 2)))] σ
    refine am_reti rfl rfl ?_
    have e : anB p (an p 61) i ST false E.1 E.2 = (r_cd 2) := by
      refine (anB_46 h_6).trans ?_
      first | rfl | (simp only [*, if_true, if_false, ne_eq, not_false_eq_true, not_true_eq_false, true_or, false_or, or_false, or_true, or_self, and_true, true_and, and_false, false_and, and_self, Bool.false_eq_true, Bool.true_eq_false, reduceIte, Bool.and_true, Bool.and_false, Bool.true_and, Bool.false_and]; done) | (simp only [*, if_true, if_false, ne_eq, not_false_eq_true, not_true_eq_false, true_or, false_or, or_false, or_true, or_self, and_true, true_and, and_false, false_and, and_self, Bool.false_eq_true, Bool.true_eq_false, reduceIte, Bool.and_true, Bool.and_false, Bool.true_and, Bool.false_and]; rfl) | (simp only [*, if_true, if_false, ne_eq, not_false_eq_true, not_true_eq_false, true_or, false_or, or_false, or_true, or_self, and_true, true_and, and_false, false_and, and_self, Bool.false_eq_true, Bool.true_eq_false, reduceIte, Bool.and_true, Bool.and_false, Bool.true_and, Bool.false_and]; exact abt_or _) | (simp only [*, r_weakP, r_weakU, if_true, if_false, ne_eq, not_false_eq_true, not_true_eq_false, true_or, false_or, or_false, or_true, or_self, and_true, true_and, and_false, false_and, and_self, Bool.false_eq_true, Bool.true_eq_false, reduceIte, Bool.and_true, Bool.and_false, Bool.true_and, Bool.false_and]; rfl)
    rw [e] at hq
    exact hq
  have h_6 : ¬ (p 0 i = 46) := fun z => h_6 ((nI_eq (by omega) (by omega)).mpr z)
  refine am_sw1 (k := nI 59) (tgt := 220) rfl (by decide) (by decide) rfl (fun (h_7 : nI (p 0 i) = nI 59) => ?_) (fun (h_7 : ¬ (nI (p 0 i) = nI 59)) => ?_)
  · have h_7 : p 0 i = 59 := (nI_eq (by omega) (by omega)).mp h_7
    refine am_run 5 (pc' := 227) (ls' := [some (.ref 0), some (.int (nI (60 * j + i))), some (.int (nI w)), some (.int (nI 1)), some (.int (oI (p 1 i))), none]) (st' := [.int (nI (60 * j + i)), .ref 7, .ref 0, .ref 0]) (σ' := σ) rfl ?_
    refine am_ialdN (n := 180) (v := oI (p 2 i)) rfl rfl rfl (by omega) m2 (by decide) ?_
    refine am_run 2 (pc' := 230) (ls' := [some (.ref 0), some (.int (nI (60 * j + i))), some (.int (nI w)), some (.int (nI 1)), some (.int (oI (p 1 i))), none]) (st' := [.int (nI 1), .int (nI w), .int (oI (p 2 i)), .ref 0, .ref 0]) (σ' := σ) rfl ?_
    refine am_invv (y := 190) (b := 0) (as := [.int (oI (p 2 i)), .int (nI w), .int (nI 1)]) (rest := [.ref 0]) rfl rfl rfl rfl rfl rfl rfl (Nat.le_of_ble_eq_true rfl) ?_
    refine c_m_laid (by omega) hB w2 hw (by decide) (K2 (by omega)).2 (fun r8 hr8 ok8 iv8 => ?_)
    obtain ⟨x8a, x8b, x8c, x8d⟩ := id ok8
    show am_G _ M_X10_starts _ 233 [some (.ref 0), some (.int (nI (60 * j + i))), some (.int (nI w)), some (.int (nI 1)), some (.int (oI (p 1 i))), none] [.int (nI (eM r8)), .ref 0] σ
    refine am_run 3 (pc' := 238) (ls' := [some (.ref 0), some (.int (nI (60 * j + i))), some (.int (nI w)), some (.int (nI 1)), some (.int (oI (p 1 i))), none]) (st' := [.int (nI (60 * j + i)), .ref 8, .int (nI (eM r8)), .ref 0]) (σ' := σ) rfl ?_
    refine am_ialdN (n := 180) (v := oI (p 3 i)) rfl rfl rfl (by omega) m3 (by decide) ?_
    refine am_run 2 (pc' := 241) (ls' := [some (.ref 0), some (.int (nI (60 * j + i))), some (.int (nI w)), some (.int (nI 1)), some (.int (oI (p 1 i))), none]) (st' := [.int (nI 1), .int (nI w), .int (oI (p 3 i)), .int (nI (eM r8)), .ref 0]) (σ' := σ) rfl ?_
    refine am_if (ty := 244) (tn := 248) rfl (by decide) rfl rfl (fun (h_9 : nI 1 = 0) => ?_) (fun (h_9 : ¬ (nI 1 = 0)) => ?_)
    · exact absurd h_9 (by decide)
    refine am_run 1 (pc' := 249) (ls' := [some (.ref 0), some (.int (nI (60 * j + i))), some (.int (nI w)), some (.int (nI 1)), some (.int (oI (p 1 i))), none]) (st' := [.int (nI 0), .int (nI w), .int (oI (p 3 i)), .int (nI (eM r8)), .ref 0]) (σ' := σ) rfl ?_
    refine am_invv (y := 195) (b := 0) (as := [.int (nI (eM r8)), .int (oI (p 3 i)), .int (nI w), .int (nI 0)]) (rest := []) rfl rfl rfl rfl rfl rfl rfl (Nat.le_of_ble_eq_true rfl) ?_
    refine c_m_behind_false (by omega) hB ok8 iv8 w3 hw (K3 (by omega)).1 (K3 (by omega)).2 ?_
    show am_G _ M_X10_starts _ 252 [some (.ref 0), some (.int (nI (60 * j + i))), some (.int (nI w)), some (.int (nI 1)), some (.int (oI (p 1 i))), none] [.int (nI (eM (r_flw r8 (an p 61 (p 3 i) ST (false && me r8) E.1 E.2))))] σ
    refine am_reti rfl rfl ?_
    have e : anB p (an p 61) i ST false E.1 E.2 = (r_flw r8 (an p 61 (p 3 i) ST (false && me r8) E.1 E.2)) := by
      refine (anB_59 h_7).trans ?_
      first | rfl | (simp only [*, if_true, if_false, ne_eq, not_false_eq_true, not_true_eq_false, true_or, false_or, or_false, or_true, or_self, and_true, true_and, and_false, false_and, and_self, Bool.false_eq_true, Bool.true_eq_false, reduceIte, Bool.and_true, Bool.and_false, Bool.true_and, Bool.false_and]; done) | (simp only [*, if_true, if_false, ne_eq, not_false_eq_true, not_true_eq_false, true_or, false_or, or_false, or_true, or_self, and_true, true_and, and_false, false_and, and_self, Bool.false_eq_true, Bool.true_eq_false, reduceIte, Bool.and_true, Bool.and_false, Bool.true_and, Bool.false_and]; rfl) | (simp only [*, if_true, if_false, ne_eq, not_false_eq_true, not_true_eq_false, true_or, false_or, or_false, or_true, or_self, and_true, true_and, and_false, false_and, and_self, Bool.false_eq_true, Bool.true_eq_false, reduceIte, Bool.and_true, Bool.and_false, Bool.true_and, Bool.false_and]; exact abt_or _) | (simp only [*, r_weakP, r_weakU, if_true, if_false, ne_eq, not_false_eq_true, not_true_eq_false, true_or, false_or, or_false, or_true, or_self, and_true, true_and, and_false, false_and, and_self, Bool.false_eq_true, Bool.true_eq_false, reduceIte, Bool.and_true, Bool.and_false, Bool.true_and, Bool.false_and]; rfl)
    rw [e] at hq
    exact hq
  have h_7 : ¬ (p 0 i = 59) := fun z => h_7 ((nI_eq (by omega) (by omega)).mpr z)
  refine am_sw1 (k := nI 63) (tgt := 149) rfl (by decide) (by decide) rfl (fun (h_10 : nI (p 0 i) = nI 63) => ?_) (fun (h_10 : ¬ (nI (p 0 i) = nI 63)) => ?_)
  · have h_10 : p 0 i = 63 := (nI_eq (by omega) (by omega)).mp h_10
    have hg1 : 1 ≤ p 1 i := w5 (by rw [h_10]; decide)
    refine am_run 4 (pc' := 154) (ls' := [some (.ref 0), some (.int (nI (60 * j + i))), some (.int (nI w)), some (.int (nI 1)), some (.int (oI (p 1 i))), none]) (st' := [.int (oI (p 1 i)), .int (nI w), .int (nI (60 * j + i)), .ref 0]) (σ' := σ) rfl ?_
    refine am_top (v' := nI (p 1 i - 1)) (oI_p (by omega)) ?_
    refine am_invv (y := 192) (b := 0) (as := [.int (nI (60 * j + i)), .int (nI w), .int (nI (p 1 i - 1))]) (rest := []) rfl rfl rfl rfl rfl rfl rfl (Nat.le_of_ble_eq_true rfl) ?_
    refine c_m_isAt3 (by omega) hB (g := p 1 i - 1) hi hw (by omega) hE (fun ha_11 hb_11 => ?_) (fun ha_11 hb_11 => ?_) (fun ha_11 hb_11 => ?_)
    · show am_G _ M_X10_starts _ 157 [some (.ref 0), some (.int (nI (60 * j + i))), some (.int (nI w)), some (.int (nI 1)), some (.int (oI (p 1 i))), none] [.int (nI 1)] σ
      refine am_run 2 (pc' := 161) (ls' := [some (.ref 0), some (.int (nI (60 * j + i))), some (.int (nI w)), some (.int (nI 1)), some (.int (oI (p 1 i))), some (.int (nI 1))]) (st' := [.int (nI 1)]) (σ' := σ) rfl ?_
      refine am_if (ty := 164) (tn := 192) rfl (by decide) rfl rfl (fun (h_12 : nI 1 = 0) => ?_) (fun (h_12 : ¬ (nI 1 = 0)) => ?_)
      · exact absurd h_12 (by decide)
      refine am_run 3 (pc' := 196) (ls' := [some (.ref 0), some (.int (nI (60 * j + i))), some (.int (nI w)), some (.int (nI 1)), some (.int (oI (p 1 i))), some (.int (nI 1))]) (st' := [.int (nI 1), .int (nI 1), .ref 0]) (σ' := σ) rfl ?_
      refine am_ic (ty := 199) (tn := 208) rfl (by decide) rfl rfl (fun (h_13 : nI 1 = nI 1) => ?_) (fun (h_13 : ¬ (nI 1 = nI 1)) => ?_)
      rotate_left
      · exact absurd (by decide) h_13
      refine am_run 3 (pc' := 204) (ls' := [some (.ref 0), some (.int (nI (60 * j + i))), some (.int (nI w)), some (.int (nI 1)), some (.int (oI (p 1 i))), some (.int (nI 1))]) (st' := [.int (nI (60 * j + i)), .ref 7, .ref 0]) (σ' := σ) rfl ?_
      refine am_ialdN (n := 180) (v := oI (p 2 i)) rfl rfl rfl (by omega) m2 (by decide) ?_
      refine am_run 3 (pc' := 216) (ls' := [some (.ref 0), some (.int (nI (60 * j + i))), some (.int (nI w)), some (.int (nI 1)), some (.int (oI (p 1 i))), some (.int (nI 1))]) (st' := [.int (nI 1), .int (nI w), .int (oI (p 2 i)), .ref 0]) (σ' := σ) rfl ?_
      refine am_invv (y := 190) (b := 0) (as := [.int (oI (p 2 i)), .int (nI w), .int (nI 1)]) (rest := []) rfl rfl rfl rfl rfl rfl rfl (Nat.le_of_ble_eq_true rfl) ?_
      refine c_m_laid (by omega) hB w2 hw (by decide) (K2 (by omega)).2 (fun r14 hr14 ok14 iv14 => ?_)
      obtain ⟨x14a, x14b, x14c, x14d⟩ := id ok14
      show am_G _ M_X10_starts _ 219 [some (.ref 0), some (.int (nI (60 * j + i))), some (.int (nI w)), some (.int (nI 1)), some (.int (oI (p 1 i))), some (.int (nI 1))] [.int (nI (eM r14))] σ
      refine am_reti rfl rfl ?_
      have e : anB p (an p 61) i ST false E.1 E.2 = r14 := by
        refine (anB_63 h_10).trans ?_
        first | rfl | (simp only [*, if_true, if_false, ne_eq, not_false_eq_true, not_true_eq_false, true_or, false_or, or_false, or_true, or_self, and_true, true_and, and_false, false_and, and_self, Bool.false_eq_true, Bool.true_eq_false, reduceIte, Bool.and_true, Bool.and_false, Bool.true_and, Bool.false_and]; done) | (simp only [*, if_true, if_false, ne_eq, not_false_eq_true, not_true_eq_false, true_or, false_or, or_false, or_true, or_self, and_true, true_and, and_false, false_and, and_self, Bool.false_eq_true, Bool.true_eq_false, reduceIte, Bool.and_true, Bool.and_false, Bool.true_and, Bool.false_and]; rfl) | (simp only [*, if_true, if_false, ne_eq, not_false_eq_true, not_true_eq_false, true_or, false_or, or_false, or_true, or_self, and_true, true_and, and_false, false_and, and_self, Bool.false_eq_true, Bool.true_eq_false, reduceIte, Bool.and_true, Bool.and_false, Bool.true_and, Bool.false_and]; exact abt_or _) | (simp only [*, r_weakP, r_weakU, if_true, if_false, ne_eq, not_false_eq_true, not_true_eq_false, true_or, false_or, or_false, or_true, or_self, and_true, true_and, and_false, false_and, and_self, Bool.false_eq_true, Bool.true_eq_false, reduceIte, Bool.and_true, Bool.and_false, Bool.true_and, Bool.false_and]; rfl)
      rw [e] at hq
      exact hq
    · show am_G _ M_X10_starts _ 157 [some (.ref 0), some (.int (nI (60 * j + i))), some (.int (nI w)), some (.int (nI 1)), some (.int (oI (p 1 i))), none] [.int (nI 2)] σ
      refine am_run 2 (pc' := 161) (ls' := [some (.ref 0), some (.int (nI (60 * j + i))), some (.int (nI w)), some (.int (nI 1)), some (.int (oI (p 1 i))), some (.int (nI 2))]) (st' := [.int (nI 2)]) (σ' := σ) rfl ?_
      refine am_if (ty := 164) (tn := 192) rfl (by decide) rfl rfl (fun (h_15 : nI 2 = 0) => ?_) (fun (h_15 : ¬ (nI 2 = 0)) => ?_)
      · exact absurd h_15 (by decide)
      refine am_run 3 (pc' := 196) (ls' := [some (.ref 0), some (.int (nI (60 * j + i))), some (.int (nI w)), some (.int (nI 1)), some (.int (oI (p 1 i))), some (.int (nI 2))]) (st' := [.int (nI 1), .int (nI 2), .ref 0]) (σ' := σ) rfl ?_
      refine am_ic (ty := 199) (tn := 208) rfl (by decide) rfl rfl (fun (h_16 : nI 2 = nI 1) => ?_) (fun (h_16 : ¬ (nI 2 = nI 1)) => ?_)
      · exact absurd h_16 (by decide)
      refine am_run 3 (pc' := 213) (ls' := [some (.ref 0), some (.int (nI (60 * j + i))), some (.int (nI w)), some (.int (nI 1)), some (.int (oI (p 1 i))), some (.int (nI 2))]) (st' := [.int (nI (60 * j + i)), .ref 8, .ref 0]) (σ' := σ) rfl ?_
      refine am_ialdN (n := 180) (v := oI (p 3 i)) rfl rfl rfl (by omega) m3 (by decide) ?_
      refine am_run 2 (pc' := 216) (ls' := [some (.ref 0), some (.int (nI (60 * j + i))), some (.int (nI w)), some (.int (nI 1)), some (.int (oI (p 1 i))), some (.int (nI 2))]) (st' := [.int (nI 1), .int (nI w), .int (oI (p 3 i)), .ref 0]) (σ' := σ) rfl ?_
      refine am_invv (y := 190) (b := 0) (as := [.int (oI (p 3 i)), .int (nI w), .int (nI 1)]) (rest := []) rfl rfl rfl rfl rfl rfl rfl (Nat.le_of_ble_eq_true rfl) ?_
      refine c_m_laid (by omega) hB w3 hw (by decide) (K3 (by omega)).2 (fun r17 hr17 ok17 iv17 => ?_)
      obtain ⟨x17a, x17b, x17c, x17d⟩ := id ok17
      show am_G _ M_X10_starts _ 219 [some (.ref 0), some (.int (nI (60 * j + i))), some (.int (nI w)), some (.int (nI 1)), some (.int (oI (p 1 i))), some (.int (nI 2))] [.int (nI (eM r17))] σ
      refine am_reti rfl rfl ?_
      have e : anB p (an p 61) i ST false E.1 E.2 = r17 := by
        refine (anB_63 h_10).trans ?_
        first | rfl | (simp only [*, if_true, if_false, ne_eq, not_false_eq_true, not_true_eq_false, true_or, false_or, or_false, or_true, or_self, and_true, true_and, and_false, false_and, and_self, Bool.false_eq_true, Bool.true_eq_false, reduceIte, Bool.and_true, Bool.and_false, Bool.true_and, Bool.false_and]; done) | (simp only [*, if_true, if_false, ne_eq, not_false_eq_true, not_true_eq_false, true_or, false_or, or_false, or_true, or_self, and_true, true_and, and_false, false_and, and_self, Bool.false_eq_true, Bool.true_eq_false, reduceIte, Bool.and_true, Bool.and_false, Bool.true_and, Bool.false_and]; rfl) | (simp only [*, if_true, if_false, ne_eq, not_false_eq_true, not_true_eq_false, true_or, false_or, or_false, or_true, or_self, and_true, true_and, and_false, false_and, and_self, Bool.false_eq_true, Bool.true_eq_false, reduceIte, Bool.and_true, Bool.and_false, Bool.true_and, Bool.false_and]; exact abt_or _) | (simp only [*, r_weakP, r_weakU, if_true, if_false, ne_eq, not_false_eq_true, not_true_eq_false, true_or, false_or, or_false, or_true, or_self, and_true, true_and, and_false, false_and, and_self, Bool.false_eq_true, Bool.true_eq_false, reduceIte, Bool.and_true, Bool.and_false, Bool.true_and, Bool.false_and]; rfl)
      rw [e] at hq
      exact hq
    · show am_G _ M_X10_starts _ 157 [some (.ref 0), some (.int (nI (60 * j + i))), some (.int (nI w)), some (.int (nI 1)), some (.int (oI (p 1 i))), none] [.int (nI 0)] σ
      refine am_run 2 (pc' := 161) (ls' := [some (.ref 0), some (.int (nI (60 * j + i))), some (.int (nI w)), some (.int (nI 1)), some (.int (oI (p 1 i))), some (.int (nI 0))]) (st' := [.int (nI 0)]) (σ' := σ) rfl ?_
      refine am_if (ty := 164) (tn := 192) rfl (by decide) rfl rfl (fun (h_18 : nI 0 = 0) => ?_) (fun (h_18 : ¬ (nI 0 = 0)) => ?_)
      rotate_left
      · exact absurd (by decide) h_18
      refine am_run 4 (pc' := 170) (ls' := [some (.ref 0), some (.int (nI (60 * j + i))), some (.int (nI w)), some (.int (nI 1)), some (.int (oI (p 1 i))), some (.int (nI 0))]) (st' := [.int (nI (60 * j + i)), .ref 7, .ref 0]) (σ' := σ) rfl ?_
      refine am_ialdN (n := 180) (v := oI (p 2 i)) rfl rfl rfl (by omega) m2 (by decide) ?_
      refine am_run 2 (pc' := 173) (ls' := [some (.ref 0), some (.int (nI (60 * j + i))), some (.int (nI w)), some (.int (nI 1)), some (.int (oI (p 1 i))), some (.int (nI 0))]) (st' := [.int (nI 1), .int (nI w), .int (oI (p 2 i)), .ref 0]) (σ' := σ) rfl ?_
      refine am_invv (y := 190) (b := 0) (as := [.int (oI (p 2 i)), .int (nI w), .int (nI 1)]) (rest := []) rfl rfl rfl rfl rfl rfl rfl (Nat.le_of_ble_eq_true rfl) ?_
      refine c_m_laid (by omega) hB w2 hw (by decide) (K2 (by omega)).2 (fun r19 hr19 ok19 iv19 => ?_)
      obtain ⟨x19a, x19b, x19c, x19d⟩ := id ok19
      show am_G _ M_X10_starts _ 176 [some (.ref 0), some (.int (nI (60 * j + i))), some (.int (nI w)), some (.int (nI 1)), some (.int (oI (p 1 i))), some (.int (nI 0))] [.int (nI (eM r19))] σ
      refine am_run 4 (pc' := 182) (ls' := [some (.ref 0), some (.int (nI (60 * j + i))), some (.int (nI w)), some (.int (nI 1)), some (.int (oI (p 1 i))), some (.int (nI 0))]) (st' := [.int (nI (60 * j + i)), .ref 8, .ref 0, .int (nI (eM r19))]) (σ' := σ) rfl ?_
      refine am_ialdN (n := 180) (v := oI (p 3 i)) rfl rfl rfl (by omega) m3 (by decide) ?_
      refine am_run 2 (pc' := 185) (ls' := [some (.ref 0), some (.int (nI (60 * j + i))), some (.int (nI w)), some (.int (nI 1)), some (.int (oI (p 1 i))), some (.int (nI 0))]) (st' := [.int (nI 1), .int (nI w), .int (oI (p 3 i)), .ref 0, .int (nI (eM r19))]) (σ' := σ) rfl ?_
      refine am_invv (y := 190) (b := 0) (as := [.int (oI (p 3 i)), .int (nI w), .int (nI 1)]) (rest := [.int (nI (eM r19))]) rfl rfl rfl rfl rfl rfl rfl (Nat.le_of_ble_eq_true rfl) ?_
      refine c_m_laid (by omega) hB w3 hw (by decide) (K3 (by omega)).2 (fun r20 hr20 ok20 iv20 => ?_)
      obtain ⟨x20a, x20b, x20c, x20d⟩ := id ok20
      show am_G _ M_X10_starts _ 188 [some (.ref 0), some (.int (nI (60 * j + i))), some (.int (nI w)), some (.int (nI 1)), some (.int (oI (p 1 i))), some (.int (nI 0))] [.int (nI (eM r20)), .int (nI (eM r19))] σ
      refine am_invs (y := 199) (as := [.int (nI (eM r19)), .int (nI (eM r20))]) (rest := []) rfl rfl rfl rfl rfl rfl (Nat.le_of_ble_eq_true rfl) ?_
      refine c_m_perhapsOf (by omega) (a := r19) (b := r20) ok19 ok20 ?_
      show am_G _ M_X10_starts _ 191 [some (.ref 0), some (.int (nI (60 * j + i))), some (.int (nI w)), some (.int (nI 1)), some (.int (oI (p 1 i))), some (.int (nI 0))] [.int (nI (eM (r_or r19 r20)))] σ
      refine am_reti rfl rfl ?_
      have e : anB p (an p 61) i ST false E.1 E.2 = (r_or r19 r20) := by
        refine (anB_63 h_10).trans ?_
        first | rfl | (simp only [*, if_true, if_false, ne_eq, not_false_eq_true, not_true_eq_false, true_or, false_or, or_false, or_true, or_self, and_true, true_and, and_false, false_and, and_self, Bool.false_eq_true, Bool.true_eq_false, reduceIte, Bool.and_true, Bool.and_false, Bool.true_and, Bool.false_and]; done) | (simp only [*, if_true, if_false, ne_eq, not_false_eq_true, not_true_eq_false, true_or, false_or, or_false, or_true, or_self, and_true, true_and, and_false, false_and, and_self, Bool.false_eq_true, Bool.true_eq_false, reduceIte, Bool.and_true, Bool.and_false, Bool.true_and, Bool.false_and]; rfl) | (simp only [*, if_true, if_false, ne_eq, not_false_eq_true, not_true_eq_false, true_or, false_or, or_false, or_true, or_self, and_true, true_and, and_false, false_and, and_self, Bool.false_eq_true, Bool.true_eq_false, reduceIte, Bool.and_true, Bool.and_false, Bool.true_and, Bool.false_and]; exact abt_or _) | (simp only [*, r_weakP, r_weakU, if_true, if_false, ne_eq, not_false_eq_true, not_true_eq_false, true_or, false_or, or_false, or_true, or_self, and_true, true_and, and_false, false_and, and_self, Bool.false_eq_true, Bool.true_eq_false, reduceIte, Bool.and_true, Bool.and_false, Bool.true_and, Bool.false_and]; rfl)
      rw [e] at hq
      exact hq
  have h_10 : ¬ (p 0 i = 63) := fun z => h_10 ((nI_eq (by omega) (by omega)).mpr z)
  refine am_sw1 (k := nI 64) (tgt := 297) rfl (by decide) (by decide) rfl (fun (h_21 : nI (p 0 i) = nI 64) => ?_) (fun (h_21 : ¬ (nI (p 0 i) = nI 64)) => ?_)
  · have h_21 : p 0 i = 64 := (nI_eq (by omega) (by omega)).mp h_21
    have hg1 : 1 ≤ p 1 i := w5 (by rw [h_21]; decide)
    refine am_run 4 (pc' := 303) (ls' := [some (.ref 0), some (.int (nI (60 * j + i))), some (.int (nI w)), some (.int (nI 1)), some (.int (oI (p 1 i))), none]) (st' := [.int (nI (60 * j + i)), .ref 7, .ref 0]) (σ' := σ) rfl ?_
    refine am_ialdN (n := 180) (v := oI (p 2 i)) rfl rfl rfl (by omega) m2 (by decide) ?_
    refine am_run 2 (pc' := 306) (ls' := [some (.ref 0), some (.int (nI (60 * j + i))), some (.int (nI w)), some (.int (nI 1)), some (.int (oI (p 1 i))), none]) (st' := [.int (nI 1), .int (nI w), .int (oI (p 2 i)), .ref 0]) (σ' := σ) rfl ?_
    refine am_invv (y := 190) (b := 0) (as := [.int (oI (p 2 i)), .int (nI w), .int (nI 1)]) (rest := []) rfl rfl rfl rfl rfl rfl rfl (Nat.le_of_ble_eq_true rfl) ?_
    refine c_m_laid (by omega) hB w2 hw (by decide) (K2 (by omega)).2 (fun r22 hr22 ok22 iv22 => ?_)
    obtain ⟨x22a, x22b, x22c, x22d⟩ := id ok22
    show am_G _ M_X10_starts _ 309 [some (.ref 0), some (.int (nI (60 * j + i))), some (.int (nI w)), some (.int (nI 1)), some (.int (oI (p 1 i))), none] [.int (nI (eM r22))] σ
    refine am_reti rfl rfl ?_
    have e : anB p (an p 61) i ST false E.1 E.2 = r22 := by
      refine (anB_64 h_21).trans ?_
      first | rfl | (simp only [*, if_true, if_false, ne_eq, not_false_eq_true, not_true_eq_false, true_or, false_or, or_false, or_true, or_self, and_true, true_and, and_false, false_and, and_self, Bool.false_eq_true, Bool.true_eq_false, reduceIte, Bool.and_true, Bool.and_false, Bool.true_and, Bool.false_and]; done) | (simp only [*, if_true, if_false, ne_eq, not_false_eq_true, not_true_eq_false, true_or, false_or, or_false, or_true, or_self, and_true, true_and, and_false, false_and, and_self, Bool.false_eq_true, Bool.true_eq_false, reduceIte, Bool.and_true, Bool.and_false, Bool.true_and, Bool.false_and]; rfl) | (simp only [*, if_true, if_false, ne_eq, not_false_eq_true, not_true_eq_false, true_or, false_or, or_false, or_true, or_self, and_true, true_and, and_false, false_and, and_self, Bool.false_eq_true, Bool.true_eq_false, reduceIte, Bool.and_true, Bool.and_false, Bool.true_and, Bool.false_and]; exact abt_or _) | (simp only [*, r_weakP, r_weakU, if_true, if_false, ne_eq, not_false_eq_true, not_true_eq_false, true_or, false_or, or_false, or_true, or_self, and_true, true_and, and_false, false_and, and_self, Bool.false_eq_true, Bool.true_eq_false, reduceIte, Bool.and_true, Bool.and_false, Bool.true_and, Bool.false_and]; rfl)
    rw [e] at hq
    exact hq
  have h_21 : ¬ (p 0 i = 64) := fun z => h_21 ((nI_eq (by omega) (by omega)).mpr z)
  refine am_sw1 (k := nI 94) (tgt := 281) rfl (by decide) (by decide) rfl (fun (h_23 : nI (p 0 i) = nI 94) => ?_) (fun (h_23 : ¬ (nI (p 0 i) = nI 94)) => ?_)
  · have h_23 : p 0 i = 94 := (nI_eq (by omega) (by omega)).mp h_23
    refine am_run 4 (pc' := 287) (ls' := [some (.ref 0), some (.int (nI (60 * j + i))), some (.int (nI w)), some (.int (nI 1)), some (.int (oI (p 1 i))), none]) (st' := [.int (nI (60 * j + i)), .ref 7, .ref 0]) (σ' := σ) rfl ?_
    refine am_ialdN (n := 180) (v := oI (p 2 i)) rfl rfl rfl (by omega) m2 (by decide) ?_
    refine am_run 2 (pc' := 290) (ls' := [some (.ref 0), some (.int (nI (60 * j + i))), some (.int (nI w)), some (.int (nI 1)), some (.int (oI (p 1 i))), none]) (st' := [.int (nI 1), .int (nI w), .int (oI (p 2 i)), .ref 0]) (σ' := σ) rfl ?_
    refine am_invv (y := 190) (b := 0) (as := [.int (oI (p 2 i)), .int (nI w), .int (nI 1)]) (rest := []) rfl rfl rfl rfl rfl rfl rfl (Nat.le_of_ble_eq_true rfl) ?_
    refine c_m_laid (by omega) hB w2 hw (by decide) (K2 (by omega)).2 (fun r24 hr24 ok24 iv24 => ?_)
    obtain ⟨x24a, x24b, x24c, x24d⟩ := id ok24
    show am_G _ M_X10_starts _ 293 [some (.ref 0), some (.int (nI (60 * j + i))), some (.int (nI w)), some (.int (nI 1)), some (.int (oI (p 1 i))), none] [.int (nI (eM r24))] σ
    refine am_invs (y := 204) (as := [.int (nI (eM r24))]) (rest := []) rfl rfl rfl rfl rfl rfl (Nat.le_of_ble_eq_true rfl) ?_
    refine c_m_trapped (by omega) (a := r24) ok24 ?_
    show am_G _ M_X10_starts _ 296 [some (.ref 0), some (.int (nI (60 * j + i))), some (.int (nI w)), some (.int (nI 1)), some (.int (oI (p 1 i))), none] [.int (nI (eM (r_trap r24)))] σ
    refine am_reti rfl rfl ?_
    have e : anB p (an p 61) i ST false E.1 E.2 = (r_trap r24) := by
      refine (anB_94 h_23).trans ?_
      first | rfl | (simp only [*, if_true, if_false, ne_eq, not_false_eq_true, not_true_eq_false, true_or, false_or, or_false, or_true, or_self, and_true, true_and, and_false, false_and, and_self, Bool.false_eq_true, Bool.true_eq_false, reduceIte, Bool.and_true, Bool.and_false, Bool.true_and, Bool.false_and]; done) | (simp only [*, if_true, if_false, ne_eq, not_false_eq_true, not_true_eq_false, true_or, false_or, or_false, or_true, or_self, and_true, true_and, and_false, false_and, and_self, Bool.false_eq_true, Bool.true_eq_false, reduceIte, Bool.and_true, Bool.and_false, Bool.true_and, Bool.false_and]; rfl) | (simp only [*, if_true, if_false, ne_eq, not_false_eq_true, not_true_eq_false, true_or, false_or, or_false, or_true, or_self, and_true, true_and, and_false, false_and, and_self, Bool.false_eq_true, Bool.true_eq_false, reduceIte, Bool.and_true, Bool.and_false, Bool.true_and, Bool.false_and]; exact abt_or _) | (simp only [*, r_weakP, r_weakU, if_true, if_false, ne_eq, not_false_eq_true, not_true_eq_false, true_or, false_or, or_false, or_true, or_self, and_true, true_and, and_false, false_and, and_self, Bool.false_eq_true, Bool.true_eq_false, reduceIte, Bool.and_true, Bool.and_false, Bool.true_and, Bool.false_and]; rfl)
    rw [e] at hq
    exact hq
  have h_23 : ¬ (p 0 i = 94) := fun z => h_23 ((nI_eq (by omega) (by omega)).mpr z)
  refine am_sw1 (k := nI 120) (tgt := 139) rfl (by decide) (by decide) rfl (fun (h_25 : nI (p 0 i) = nI 120) => ?_) (fun (h_25 : ¬ (nI (p 0 i) = nI 120)) => ?_)
  · have h_25 : p 0 i = 120 := (nI_eq (by omega) (by omega)).mp h_25
    have hg1 := w6 h_25
    have hg2 : 2 ^ (p 1 i - 1) ≤ 2 ^ 4 := Nat.pow_le_pow_right (by decide) (by omega)
    refine am_run 2 (pc' := 142) (ls' := [some (.ref 0), some (.int (nI (60 * j + i))), some (.int (nI w)), some (.int (nI 1)), some (.int (oI (p 1 i))), none]) (st' := [.int (oI (p 1 i)), .int (nI 1)]) (σ' := σ) rfl ?_
    refine am_top (v' := nI (p 1 i - 1)) (oI_p (by omega)) ?_
    refine am_run 2 (pc' := 144) (ls' := [some (.ref 0), some (.int (nI (60 * j + i))), some (.int (nI w)), some (.int (nI 1)), some (.int (oI (p 1 i))), none]) (st' := [.int (nI (p 1 i - 1) + nI 2), .int (nI 1)]) (σ' := σ) rfl ?_
    refine am_top (v' := nI (p 1 i - 1 + 2)) (nI_add _ _) ?_
    refine am_run 1 (pc' := 145) (ls' := [some (.ref 0), some (.int (nI (60 * j + i))), some (.int (nI w)), some (.int (nI 1)), some (.int (oI (p 1 i))), none]) (st' := [.int ((nI 1) <<< ((nI (p 1 i - 1 + 2)) &&& 31))]) (σ' := σ) rfl ?_
    refine am_top (v' := nI (4 * 2 ^ (p 1 i - 1))) (by rw [nx_shl 1 (by omega), Nat.one_mul, Nat.pow_add]; congr 1; exact Nat.mul_comm _ _) ?_
    refine am_invs (y := 191) (as := [.int (nI (4 * 2 ^ (p 1 i - 1)))]) (rest := []) rfl rfl rfl rfl rfl rfl (Nat.le_of_ble_eq_true rfl) ?_
    refine c_m_code (by omega) (k := 4 * 2 ^ (p 1 i - 1)) (by first | omega | decide | exact pow_lt_256 (by omega) | exact or_lt8 (by omega) (by omega) | exact or_lt7 (by omega) (by omega) | exact mx_lt (by omega) (by omega) | exact ct_lt (by omega) | exact or_lt7 (cl_lt (by omega)) (by omega) | exact cl_lt (by omega) | exact or_lt7 (cl_lt (by omega)) (tb_lt _)) ?_
    show am_G _ M_X10_starts _ 148 [some (.ref 0), some (.int (nI (60 * j + i))), some (.int (nI w)), some (.int (nI 1)), some (.int (oI (p 1 i))), none] [.int (nI (eM (r_cd (4 * 2 ^ (p 1 i - 1)))))] σ
    refine am_reti rfl rfl ?_
    have e : anB p (an p 61) i ST false E.1 E.2 = (r_cd (4 * 2 ^ (p 1 i - 1))) := by
      refine (anB_120 h_25).trans ?_
      first | rfl | (simp only [*, if_true, if_false, ne_eq, not_false_eq_true, not_true_eq_false, true_or, false_or, or_false, or_true, or_self, and_true, true_and, and_false, false_and, and_self, Bool.false_eq_true, Bool.true_eq_false, reduceIte, Bool.and_true, Bool.and_false, Bool.true_and, Bool.false_and]; done) | (simp only [*, if_true, if_false, ne_eq, not_false_eq_true, not_true_eq_false, true_or, false_or, or_false, or_true, or_self, and_true, true_and, and_false, false_and, and_self, Bool.false_eq_true, Bool.true_eq_false, reduceIte, Bool.and_true, Bool.and_false, Bool.true_and, Bool.false_and]; rfl) | (simp only [*, if_true, if_false, ne_eq, not_false_eq_true, not_true_eq_false, true_or, false_or, or_false, or_true, or_self, and_true, true_and, and_false, false_and, and_self, Bool.false_eq_true, Bool.true_eq_false, reduceIte, Bool.and_true, Bool.and_false, Bool.true_and, Bool.false_and]; exact abt_or _) | (simp only [*, r_weakP, r_weakU, if_true, if_false, ne_eq, not_false_eq_true, not_true_eq_false, true_or, false_or, or_false, or_true, or_self, and_true, true_and, and_false, false_and, and_self, Bool.false_eq_true, Bool.true_eq_false, reduceIte, Bool.and_true, Bool.and_false, Bool.true_and, Bool.false_and]; rfl)
    rw [e] at hq
    exact hq
  have h_25 : ¬ (p 0 i = 120) := fun z => h_25 ((nI_eq (by omega) (by omega)).mpr z)
  refine am_sw1 (k := nI 124) (tgt := 253) rfl (by decide) (by decide) rfl (fun (h_26 : nI (p 0 i) = nI 124) => ?_) (fun (h_26 : ¬ (nI (p 0 i) = nI 124)) => ?_)
  · have h_26 : p 0 i = 124 := (nI_eq (by omega) (by omega)).mp h_26
    refine am_run 4 (pc' := 259) (ls' := [some (.ref 0), some (.int (nI (60 * j + i))), some (.int (nI w)), some (.int (nI 1)), some (.int (oI (p 1 i))), none]) (st' := [.int (nI (60 * j + i)), .ref 7, .ref 0]) (σ' := σ) rfl ?_
    refine am_ialdN (n := 180) (v := oI (p 2 i)) rfl rfl rfl (by omega) m2 (by decide) ?_
    refine am_run 2 (pc' := 262) (ls' := [some (.ref 0), some (.int (nI (60 * j + i))), some (.int (nI w)), some (.int (nI 1)), some (.int (oI (p 1 i))), none]) (st' := [.int (nI 1), .int (nI w), .int (oI (p 2 i)), .ref 0]) (σ' := σ) rfl ?_
    refine am_invv (y := 190) (b := 0) (as := [.int (oI (p 2 i)), .int (nI w), .int (nI 1)]) (rest := []) rfl rfl rfl rfl rfl rfl rfl (Nat.le_of_ble_eq_true rfl) ?_
    refine c_m_laid (by omega) hB w2 hw (by decide) (K2 (by omega)).2 (fun r27 hr27 ok27 iv27 => ?_)
    obtain ⟨x27a, x27b, x27c, x27d⟩ := id ok27
    show am_G _ M_X10_starts _ 265 [some (.ref 0), some (.int (nI (60 * j + i))), some (.int (nI w)), some (.int (nI 1)), some (.int (oI (p 1 i))), none] [.int (nI (eM r27))] σ
    refine am_run 4 (pc' := 271) (ls' := [some (.ref 0), some (.int (nI (60 * j + i))), some (.int (nI w)), some (.int (nI 1)), some (.int (oI (p 1 i))), none]) (st' := [.int (nI (60 * j + i)), .ref 8, .ref 0, .int (nI (eM r27))]) (σ' := σ) rfl ?_
    refine am_ialdN (n := 180) (v := oI (p 3 i)) rfl rfl rfl (by omega) m3 (by decide) ?_
    refine am_run 2 (pc' := 274) (ls' := [some (.ref 0), some (.int (nI (60 * j + i))), some (.int (nI w)), some (.int (nI 1)), some (.int (oI (p 1 i))), none]) (st' := [.int (nI 1), .int (nI w), .int (oI (p 3 i)), .ref 0, .int (nI (eM r27))]) (σ' := σ) rfl ?_
    refine am_invv (y := 190) (b := 0) (as := [.int (oI (p 3 i)), .int (nI w), .int (nI 1)]) (rest := [.int (nI (eM r27))]) rfl rfl rfl rfl rfl rfl rfl (Nat.le_of_ble_eq_true rfl) ?_
    refine c_m_laid (by omega) hB w3 hw (by decide) (K3 (by omega)).2 (fun r28 hr28 ok28 iv28 => ?_)
    obtain ⟨x28a, x28b, x28c, x28d⟩ := id ok28
    show am_G _ M_X10_starts _ 277 [some (.ref 0), some (.int (nI (60 * j + i))), some (.int (nI w)), some (.int (nI 1)), some (.int (oI (p 1 i))), none] [.int (nI (eM r28)), .int (nI (eM r27))] σ
    refine am_invs (y := 197) (as := [.int (nI (eM r27)), .int (nI (eM r28))]) (rest := []) rfl rfl rfl rfl rfl rfl (Nat.le_of_ble_eq_true rfl) ?_
    refine c_m_beside (by omega) (a := r27) (b := r28) ok27 ok28 ?_
    show am_G _ M_X10_starts _ 280 [some (.ref 0), some (.int (nI (60 * j + i))), some (.int (nI w)), some (.int (nI 1)), some (.int (oI (p 1 i))), none] [.int (nI (eM (r_par r27 r28)))] σ
    refine am_reti rfl rfl ?_
    have e : anB p (an p 61) i ST false E.1 E.2 = (r_par r27 r28) := by
      refine (anB_124 h_26).trans ?_
      first | rfl | (simp only [*, if_true, if_false, ne_eq, not_false_eq_true, not_true_eq_false, true_or, false_or, or_false, or_true, or_self, and_true, true_and, and_false, false_and, and_self, Bool.false_eq_true, Bool.true_eq_false, reduceIte, Bool.and_true, Bool.and_false, Bool.true_and, Bool.false_and]; done) | (simp only [*, if_true, if_false, ne_eq, not_false_eq_true, not_true_eq_false, true_or, false_or, or_false, or_true, or_self, and_true, true_and, and_false, false_and, and_self, Bool.false_eq_true, Bool.true_eq_false, reduceIte, Bool.and_true, Bool.and_false, Bool.true_and, Bool.false_and]; rfl) | (simp only [*, if_true, if_false, ne_eq, not_false_eq_true, not_true_eq_false, true_or, false_or, or_false, or_true, or_self, and_true, true_and, and_false, false_and, and_self, Bool.false_eq_true, Bool.true_eq_false, reduceIte, Bool.and_true, Bool.and_false, Bool.true_and, Bool.false_and]; exact abt_or _) | (simp only [*, r_weakP, r_weakU, if_true, if_false, ne_eq, not_false_eq_true, not_true_eq_false, true_or, false_or, or_false, or_true, or_self, and_true, true_and, and_false, false_and, and_self, Bool.false_eq_true, Bool.true_eq_false, reduceIte, Bool.and_true, Bool.and_false, Bool.true_and, Bool.false_and]; rfl)
    rw [e] at hq
    exact hq
  have h_26 : ¬ (p 0 i = 124) := fun z => h_26 ((nI_eq (by omega) (by omega)).mpr z)
  refine am_sw1 (k := nI 126) (tgt := 297) rfl (by decide) (by decide) rfl (fun (h_29 : nI (p 0 i) = nI 126) => ?_) (fun (h_29 : ¬ (nI (p 0 i) = nI 126)) => ?_)
  · have h_29 : p 0 i = 126 := (nI_eq (by omega) (by omega)).mp h_29
    have hg1 : 1 ≤ p 1 i := w5 (by rw [h_29]; decide)
    refine am_run 4 (pc' := 303) (ls' := [some (.ref 0), some (.int (nI (60 * j + i))), some (.int (nI w)), some (.int (nI 1)), some (.int (oI (p 1 i))), none]) (st' := [.int (nI (60 * j + i)), .ref 7, .ref 0]) (σ' := σ) rfl ?_
    refine am_ialdN (n := 180) (v := oI (p 2 i)) rfl rfl rfl (by omega) m2 (by decide) ?_
    refine am_run 2 (pc' := 306) (ls' := [some (.ref 0), some (.int (nI (60 * j + i))), some (.int (nI w)), some (.int (nI 1)), some (.int (oI (p 1 i))), none]) (st' := [.int (nI 1), .int (nI w), .int (oI (p 2 i)), .ref 0]) (σ' := σ) rfl ?_
    refine am_invv (y := 190) (b := 0) (as := [.int (oI (p 2 i)), .int (nI w), .int (nI 1)]) (rest := []) rfl rfl rfl rfl rfl rfl rfl (Nat.le_of_ble_eq_true rfl) ?_
    refine c_m_laid (by omega) hB w2 hw (by decide) (K2 (by omega)).2 (fun r30 hr30 ok30 iv30 => ?_)
    obtain ⟨x30a, x30b, x30c, x30d⟩ := id ok30
    show am_G _ M_X10_starts _ 309 [some (.ref 0), some (.int (nI (60 * j + i))), some (.int (nI w)), some (.int (nI 1)), some (.int (oI (p 1 i))), none] [.int (nI (eM r30))] σ
    refine am_reti rfl rfl ?_
    have e : anB p (an p 61) i ST false E.1 E.2 = r30 := by
      refine (anB_126 h_29).trans ?_
      first | rfl | (simp only [*, if_true, if_false, ne_eq, not_false_eq_true, not_true_eq_false, true_or, false_or, or_false, or_true, or_self, and_true, true_and, and_false, false_and, and_self, Bool.false_eq_true, Bool.true_eq_false, reduceIte, Bool.and_true, Bool.and_false, Bool.true_and, Bool.false_and]; done) | (simp only [*, if_true, if_false, ne_eq, not_false_eq_true, not_true_eq_false, true_or, false_or, or_false, or_true, or_self, and_true, true_and, and_false, false_and, and_self, Bool.false_eq_true, Bool.true_eq_false, reduceIte, Bool.and_true, Bool.and_false, Bool.true_and, Bool.false_and]; rfl) | (simp only [*, if_true, if_false, ne_eq, not_false_eq_true, not_true_eq_false, true_or, false_or, or_false, or_true, or_self, and_true, true_and, and_false, false_and, and_self, Bool.false_eq_true, Bool.true_eq_false, reduceIte, Bool.and_true, Bool.and_false, Bool.true_and, Bool.false_and]; exact abt_or _) | (simp only [*, r_weakP, r_weakU, if_true, if_false, ne_eq, not_false_eq_true, not_true_eq_false, true_or, false_or, or_false, or_true, or_self, and_true, true_and, and_false, false_and, and_self, Bool.false_eq_true, Bool.true_eq_false, reduceIte, Bool.and_true, Bool.and_false, Bool.true_and, Bool.false_and]; rfl)
    rw [e] at hq
    exact hq
  have h_29 : ¬ (p 0 i = 126) := fun z => h_29 ((nI_eq (by omega) (by omega)).mpr z)
  refine am_sw0 (tgt := 318) (by decide) rfl ?_
  refine am_run 1 (pc' := 319) (ls' := [some (.ref 0), some (.int (nI (60 * j + i))), some (.int (nI w)), some (.int (nI 1)), some (.int (oI (p 1 i))), none]) (st' := [.int (nI 1)]) (σ' := σ) rfl ?_
  refine am_invs (y := 191) (as := [.int (nI 1)]) (rest := []) rfl rfl rfl rfl rfl rfl (Nat.le_of_ble_eq_true rfl) ?_
  refine c_m_code (by omega) (k := 1) (by first | omega | decide | exact pow_lt_256 (by omega) | exact or_lt8 (by omega) (by omega) | exact or_lt7 (by omega) (by omega) | exact mx_lt (by omega) (by omega) | exact ct_lt (by omega) | exact or_lt7 (cl_lt (by omega)) (by omega) | exact cl_lt (by omega) | exact or_lt7 (cl_lt (by omega)) (tb_lt _)) ?_
  show am_G _ M_X10_starts _ 322 [some (.ref 0), some (.int (nI (60 * j + i))), some (.int (nI w)), some (.int (nI 1)), some (.int (oI (p 1 i))), none] [.int (nI (eM (r_cd 1)))] σ
  refine am_reti rfl rfl ?_
  have e : anB p (an p 61) i ST false E.1 E.2 = (r_cd 1) := by
    refine (anB_z (by omega) (by omega) (by omega) (by omega) (by omega) (by omega) (by omega) (by omega) (by omega) (by omega) (by omega) (by omega)).trans ?_
    first | rfl | (simp only [*, if_true, if_false, ne_eq, not_false_eq_true, not_true_eq_false, true_or, false_or, or_false, or_true, or_self, and_true, true_and, and_false, false_and, and_self, Bool.false_eq_true, Bool.true_eq_false, reduceIte, Bool.and_true, Bool.and_false, Bool.true_and, Bool.false_and]; done) | (simp only [*, if_true, if_false, ne_eq, not_false_eq_true, not_true_eq_false, true_or, false_or, or_false, or_true, or_self, and_true, true_and, and_false, false_and, and_self, Bool.false_eq_true, Bool.true_eq_false, reduceIte, Bool.and_true, Bool.and_false, Bool.true_and, Bool.false_and]; rfl) | (simp only [*, if_true, if_false, ne_eq, not_false_eq_true, not_true_eq_false, true_or, false_or, or_false, or_true, or_self, and_true, true_and, and_false, false_and, and_self, Bool.false_eq_true, Bool.true_eq_false, reduceIte, Bool.and_true, Bool.and_false, Bool.true_and, Bool.false_and]; exact abt_or _) | (simp only [*, r_weakP, r_weakU, if_true, if_false, ne_eq, not_false_eq_true, not_true_eq_false, true_or, false_or, or_false, or_true, or_self, and_true, true_and, and_false, false_and, and_self, Bool.false_eq_true, Bool.true_eq_false, reduceIte, Bool.and_true, Bool.and_false, Bool.true_and, Bool.false_and]; rfl)
  rw [e] at hq
  exact hq
set_option maxRecDepth 10000 in
set_option maxHeartbeats 2000000 in
theorem c_m_goesOn2 {d : Nat} (hd : 8 ≤ d) {σ : am_M} {j s P A n : Nat} {p : Pg} {dp : Nat → Nat} {ow : Nat → Nat → Nat} (hB : MB σ j s P A p n dp ow) {i w : Nat} {E : Nat × Nat} (hi : i < n) (hw3 : w < 3 ^ dp i) (hE : evn (ow i) w P A (dp i) = E) (hs1 : ¬ s = 1048576) (K2 : ¬ p 0 i = 36 → KD σ p (p 2 i) w 0 ST true E ∧ KD σ p (p 2 i) w 1 ST false E) (K3 : ¬ p 0 i = 36 → KD σ p (p 3 i) w 0 ST true E ∧ KD σ p (p 3 i) w 1 ST false E) (L2 : ¬ p 0 i = 36 → lv p (p 2 i) s = true → KD σ p (p 2 i) w 2 s true E ∧ KD σ p (p 2 i) w 3 s false E) (L3 : ¬ p 0 i = 36 → lv p (p 3 i) s = true → KD σ p (p 3 i) w 2 s true E ∧ KD σ p (p 3 i) w 3 s false E) (V2 : p 0 i = 42 ∨ p 0 i = 94 ∨ p 0 i = 64 ∨ p 0 i = 126 → lv p (p 2 i) s = true) (V3 : p 0 i = 63 ∨ p 0 i = 59 → lv p (p 2 i) s = false → lv p (p 3 i) s = true) (T0 : p 0 i = 36 ∨ p 0 i = 38 ∨ p 0 i = 42 ∨ p 0 i = 46 ∨ p 0 i = 59 ∨ p 0 i = 63 ∨ p 0 i = 64 ∨ p 0 i = 94 ∨ p 0 i = 124 ∨ p 0 i = 126) (D36 : p 0 i = 36 → dp i ≤ 2) (K36 : p 0 i = 36 → ∀ h, h < 3 → KD σ p (p 2 i) (w + h * 3 ^ dp i) 2 s true (up3 E (p 1 i - 1) h)) {Q : am_Q} (hq : Q (some (.int (nI (eM (anB p (an p 61) i s true E.1 E.2))))) σ) : am_C d 208 [.ref 0, .int (nI (60 * j + i)), .int (nI w), .int (nI 2)] σ Q := by
  obtain ⟨hj, hS, hW, hs, hN, hdj, hP, hA⟩ := id hB
  obtain ⟨hS1, hS2, hS3, hS4⟩ := id hS
  obtain ⟨⟨m0, m1, m2, m3, m4, m5, m6⟩, hdp, how⟩ := hN i hi
  obtain ⟨w0, w1, w2, w3, w4, w5, w6⟩ := hW.2 i hi
  have hn60 := hW.1
  have hw := wy0 hdp hw3
  refine am_enter' (M := M_X10_goesOn) rfl rfl rfl (by omega) (ls := [some (.ref 0), some (.int (nI (60 * j + i))), some (.int (nI w)), some (.int (nI 2)), none]) rfl (fun d' hd' => ?_)
  refine am_run 3 (pc' := 5) (ls' := [some (.ref 0), some (.int (nI (60 * j + i))), some (.int (nI w)), some (.int (nI 2)), none]) (st' := [.int (nI (60 * j + i)), .ref 5]) (σ' := σ) rfl ?_
  refine am_ialdN (n := 180) (v := nI (p 0 i)) rfl rfl rfl (by omega) m0 (by decide) ?_
  refine am_lsw rfl rfl (L := [(38, 87), (42, 258), (46, 82), (59, 170), (63, 135), (64, 308), (94, 292), (124, 230), (126, 316)]) rfl ?_
  refine am_sw1 (k := nI 38) (tgt := 93) rfl (by decide) (by decide) rfl (fun (h_1 : nI (p 0 i) = nI 38) => ?_) (fun (h_1 : ¬ (nI (p 0 i) = nI 38)) => ?_)
  · have h_1 : p 0 i = 38 := (nI_eq (by omega) (by omega)).mp h_1
    have hg1 : 1 ≤ p 1 i := w5 (by rw [h_1]; decide)
    refine am_run 6 (pc' := 101) (ls' := [some (.ref 0), some (.int (nI (60 * j + i))), some (.int (nI w)), some (.int (nI 2)), none]) (st' := [.int (nI (60 * j + i)), .ref 6, .int (nI w), .int (nI (60 * j + i)), .ref 0]) (σ' := σ) rfl ?_
    refine am_ialdN (n := 180) (v := oI (p 1 i)) rfl rfl rfl (by omega) m1 (by decide) ?_
    refine am_top (v' := nI (p 1 i - 1)) (oI_p (by omega)) ?_
    refine am_invv (y := 192) (b := 0) (as := [.int (nI (60 * j + i)), .int (nI w), .int (nI (p 1 i - 1))]) (rest := []) rfl rfl rfl rfl rfl rfl rfl (Nat.le_of_ble_eq_true rfl) ?_
    refine c_m_isAt3 (by omega) hB (g := p 1 i - 1) hi hw (by omega) hE (fun ha_2 hb_2 => ?_) (fun ha_2 hb_2 => ?_) (fun ha_2 hb_2 => ?_)
    · show am_G _ M_X10_goesOn _ 105 [some (.ref 0), some (.int (nI (60 * j + i))), some (.int (nI w)), some (.int (nI 2)), none] [.int (nI 1)] σ
      refine am_run 3 (pc' := 110) (ls' := [some (.ref 0), some (.int (nI (60 * j + i))), some (.int (nI w)), some (.int (nI 2)), some (.int (nI 1))]) (st' := [.int (nI 1), .int (nI 1)]) (σ' := σ) rfl ?_
      refine am_ic (ty := 113) (tn := 120) rfl (by decide) rfl rfl (fun (h_3 : nI 1 = nI 1) => ?_) (fun (h_3 : ¬ (nI 1 = nI 1)) => ?_)
      rotate_left
      · exact absurd (by decide) h_3
      refine am_run 1 (pc' := 114) (ls' := [some (.ref 0), some (.int (nI (60 * j + i))), some (.int (nI w)), some (.int (nI 2)), some (.int (nI 1))]) (st' := [.int (nI 1)]) (σ' := σ) rfl ?_
      refine am_invs (y := 191) (as := [.int (nI 1)]) (rest := []) rfl rfl rfl rfl rfl rfl (Nat.le_of_ble_eq_true rfl) ?_
      refine c_m_code (by omega) (k := 1) (by first | omega | decide | exact pow_lt_256 (by omega) | exact or_lt8 (by omega) (by omega) | exact or_lt7 (by omega) (by omega) | exact mx_lt (by omega) (by omega) | exact ct_lt (by omega) | exact or_lt7 (cl_lt (by omega)) (by omega) | exact cl_lt (by omega) | exact or_lt7 (cl_lt (by omega)) (tb_lt _)) ?_
      show am_G _ M_X10_goesOn _ 117 [some (.ref 0), some (.int (nI (60 * j + i))), some (.int (nI w)), some (.int (nI 2)), some (.int (nI 1))] [.int (nI (eM (r_cd 1)))] σ
      refine am_run 1 (pc' := 140) (ls' := [some (.ref 0), some (.int (nI (60 * j + i))), some (.int (nI w)), some (.int (nI 2)), some (.int (nI 1))]) (st' := [.int (nI (eM (r_cd 1)))]) (σ' := σ) rfl ?_
      refine am_reti rfl rfl ?_
      have e : anB p (an p 61) i s true E.1 E.2 = (r_cd 1) := by
        refine (anB_38 h_1).trans ?_
        first | rfl | (simp only [*, if_true, if_false, ne_eq, not_false_eq_true, not_true_eq_false, true_or, false_or, or_false, or_true, or_self, and_true, true_and, and_false, false_and, and_self, Bool.false_eq_true, Bool.true_eq_false, reduceIte, Bool.and_true, Bool.and_false, Bool.true_and, Bool.false_and]; done) | (simp only [*, if_true, if_false, ne_eq, not_false_eq_true, not_true_eq_false, true_or, false_or, or_false, or_true, or_self, and_true, true_and, and_false, false_and, and_self, Bool.false_eq_true, Bool.true_eq_false, reduceIte, Bool.and_true, Bool.and_false, Bool.true_and, Bool.false_and]; rfl) | (simp only [*, if_true, if_false, ne_eq, not_false_eq_true, not_true_eq_false, true_or, false_or, or_false, or_true, or_self, and_true, true_and, and_false, false_and, and_self, Bool.false_eq_true, Bool.true_eq_false, reduceIte, Bool.and_true, Bool.and_false, Bool.true_and, Bool.false_and]; exact abt_or _) | (simp only [*, r_weakP, r_weakU, if_true, if_false, ne_eq, not_false_eq_true, not_true_eq_false, true_or, false_or, or_false, or_true, or_self, and_true, true_and, and_false, false_and, and_self, Bool.false_eq_true, Bool.true_eq_false, reduceIte, Bool.and_true, Bool.and_false, Bool.true_and, Bool.false_and]; rfl)
      rw [e] at hq
      exact hq
    · show am_G _ M_X10_goesOn _ 105 [some (.ref 0), some (.int (nI (60 * j + i))), some (.int (nI w)), some (.int (nI 2)), none] [.int (nI 2)] σ
      refine am_run 3 (pc' := 110) (ls' := [some (.ref 0), some (.int (nI (60 * j + i))), some (.int (nI w)), some (.int (nI 2)), some (.int (nI 2))]) (st' := [.int (nI 1), .int (nI 2)]) (σ' := σ) rfl ?_
      refine am_ic (ty := 113) (tn := 120) rfl (by decide) rfl rfl (fun (h_4 : nI 2 = nI 1) => ?_) (fun (h_4 : ¬ (nI 2 = nI 1)) => ?_)
      · exact absurd h_4 (by decide)
      refine am_run 2 (pc' := 123) (ls' := [some (.ref 0), some (.int (nI (60 * j + i))), some (.int (nI w)), some (.int (nI 2)), some (.int (nI 2))]) (st' := [.int (nI 2), .int (nI 2)]) (σ' := σ) rfl ?_
      refine am_ic (ty := 126) (tn := 133) rfl (by decide) rfl rfl (fun (h_5 : nI 2 = nI 2) => ?_) (fun (h_5 : ¬ (nI 2 = nI 2)) => ?_)
      rotate_left
      · exact absurd (by decide) h_5
      refine am_run 1 (pc' := 127) (ls' := [some (.ref 0), some (.int (nI (60 * j + i))), some (.int (nI w)), some (.int (nI 2)), some (.int (nI 2))]) (st' := [.int (nI 2)]) (σ' := σ) rfl ?_
      refine am_invs (y := 191) (as := [.int (nI 2)]) (rest := []) rfl rfl rfl rfl rfl rfl (Nat.le_of_ble_eq_true rfl) ?_
      refine c_m_code (by omega) (k := 2) (by first | omega | decide | exact pow_lt_256 (by omega) | exact or_lt8 (by omega) (by omega) | exact or_lt7 (by omega) (by omega) | exact mx_lt (by omega) (by omega) | exact ct_lt (by omega) | exact or_lt7 (cl_lt (by omega)) (by omega) | exact cl_lt (by omega) | exact or_lt7 (cl_lt (by omega)) (tb_lt _)) ?_
      show am_G _ M_X10_goesOn _ 130 [some (.ref 0), some (.int (nI (60 * j + i))), some (.int (nI w)), some (.int (nI 2)), some (.int (nI 2))] [.int (nI (eM (r_cd 2)))] σ
      refine am_run 1 (pc' := 140) (ls' := [some (.ref 0), some (.int (nI (60 * j + i))), some (.int (nI w)), some (.int (nI 2)), some (.int (nI 2))]) (st' := [.int (nI (eM (r_cd 2)))]) (σ' := σ) rfl ?_
      refine am_reti rfl rfl ?_
      have e : anB p (an p 61) i s true E.1 E.2 = (r_cd 2) := by
        refine (anB_38 h_1).trans ?_
        first | rfl | (simp only [*, if_true, if_false, ne_eq, not_false_eq_true, not_true_eq_false, true_or, false_or, or_false, or_true, or_self, and_true, true_and, and_false, false_and, and_self, Bool.false_eq_true, Bool.true_eq_false, reduceIte, Bool.and_true, Bool.and_false, Bool.true_and, Bool.false_and]; done) | (simp only [*, if_true, if_false, ne_eq, not_false_eq_true, not_true_eq_false, true_or, false_or, or_false, or_true, or_self, and_true, true_and, and_false, false_and, and_self, Bool.false_eq_true, Bool.true_eq_false, reduceIte, Bool.and_true, Bool.and_false, Bool.true_and, Bool.false_and]; rfl) | (simp only [*, if_true, if_false, ne_eq, not_false_eq_true, not_true_eq_false, true_or, false_or, or_false, or_true, or_self, and_true, true_and, and_false, false_and, and_self, Bool.false_eq_true, Bool.true_eq_false, reduceIte, Bool.and_true, Bool.and_false, Bool.true_and, Bool.false_and]; exact abt_or _) | (simp only [*, r_weakP, r_weakU, if_true, if_false, ne_eq, not_false_eq_true, not_true_eq_false, true_or, false_or, or_false, or_true, or_self, and_true, true_and, and_false, false_and, and_self, Bool.false_eq_true, Bool.true_eq_false, reduceIte, Bool.and_true, Bool.and_false, Bool.true_and, Bool.false_and]; rfl)
      rw [e] at hq
      exact hq
    · show am_G _ M_X10_goesOn _ 105 [some (.ref 0), some (.int (nI (60 * j + i))), some (.int (nI w)), some (.int (nI 2)), none] [.int (nI 0)] σ
      refine am_run 3 (pc' := 110) (ls' := [some (.ref 0), some (.int (nI (60 * j + i))), some (.int (nI w)), some (.int (nI 2)), some (.int (nI 0))]) (st' := [.int (nI 1), .int (nI 0)]) (σ' := σ) rfl ?_
      refine am_ic (ty := 113) (tn := 120) rfl (by decide) rfl rfl (fun (h_6 : nI 0 = nI 1) => ?_) (fun (h_6 : ¬ (nI 0 = nI 1)) => ?_)
      · exact absurd h_6 (by decide)
      refine am_run 2 (pc' := 123) (ls' := [some (.ref 0), some (.int (nI (60 * j + i))), some (.int (nI w)), some (.int (nI 2)), some (.int (nI 0))]) (st' := [.int (nI 2), .int (nI 0)]) (σ' := σ) rfl ?_
      refine am_ic (ty := 126) (tn := 133) rfl (by decide) rfl rfl (fun (h_7 : nI 0 = nI 2) => ?_) (fun (h_7 : ¬ (nI 0 = nI 2)) => ?_)
      · exact absurd h_7 (by decide)
      refine am_run 4 (pc' := 137) (ls' := [some (.ref 0), some (.int (nI (60 * j + i))), some (.int (nI w)), some (.int (nI 2)), some (.int (nI 0))]) (st' := [.int (nI 3), .int (nI 0), .int (nI 0), .int (nI 0)]) (σ' := σ) rfl ?_
      refine am_invs (y := 184) (as := [.int (nI 0), .int (nI 0), .int (nI 0), .int (nI 3)]) (rest := []) rfl rfl rfl rfl rfl rfl (Nat.le_of_ble_eq_true rfl) ?_
      refine c_m_packed (by omega) (m := 0) (c := 0) (k := 0) (q := 3) (by first | omega | decide | exact pow_lt_256 (by omega) | exact or_lt8 (by omega) (by omega) | exact or_lt7 (by omega) (by omega) | exact mx_lt (by omega) (by omega) | exact ct_lt (by omega) | exact or_lt7 (cl_lt (by omega)) (by omega) | exact cl_lt (by omega) | exact or_lt7 (cl_lt (by omega)) (tb_lt _)) (by first | omega | decide | exact pow_lt_256 (by omega) | exact or_lt8 (by omega) (by omega) | exact or_lt7 (by omega) (by omega) | exact mx_lt (by omega) (by omega) | exact ct_lt (by omega) | exact or_lt7 (cl_lt (by omega)) (by omega) | exact cl_lt (by omega) | exact or_lt7 (cl_lt (by omega)) (tb_lt _)) (by first | omega | decide | exact pow_lt_256 (by omega) | exact or_lt8 (by omega) (by omega) | exact or_lt7 (by omega) (by omega) | exact mx_lt (by omega) (by omega) | exact ct_lt (by omega) | exact or_lt7 (cl_lt (by omega)) (by omega) | exact cl_lt (by omega) | exact or_lt7 (cl_lt (by omega)) (tb_lt _)) (by first | omega | decide | exact pow_lt_256 (by omega) | exact or_lt8 (by omega) (by omega) | exact or_lt7 (by omega) (by omega) | exact mx_lt (by omega) (by omega) | exact ct_lt (by omega) | exact or_lt7 (cl_lt (by omega)) (by omega) | exact cl_lt (by omega) | exact or_lt7 (cl_lt (by omega)) (tb_lt _)) ?_
      show am_G _ M_X10_goesOn _ 140 [some (.ref 0), some (.int (nI (60 * j + i))), some (.int (nI w)), some (.int (nI 2)), some (.int (nI 0))] [.int (nI (eM (0, 0, 0, 3)))] σ
      refine am_reti rfl rfl ?_
      have e : anB p (an p 61) i s true E.1 E.2 = (0, 0, 0, 3) := by
        refine (anB_38 h_1).trans ?_
        first | rfl | (simp only [*, if_true, if_false, ne_eq, not_false_eq_true, not_true_eq_false, true_or, false_or, or_false, or_true, or_self, and_true, true_and, and_false, false_and, and_self, Bool.false_eq_true, Bool.true_eq_false, reduceIte, Bool.and_true, Bool.and_false, Bool.true_and, Bool.false_and]; done) | (simp only [*, if_true, if_false, ne_eq, not_false_eq_true, not_true_eq_false, true_or, false_or, or_false, or_true, or_self, and_true, true_and, and_false, false_and, and_self, Bool.false_eq_true, Bool.true_eq_false, reduceIte, Bool.and_true, Bool.and_false, Bool.true_and, Bool.false_and]; rfl) | (simp only [*, if_true, if_false, ne_eq, not_false_eq_true, not_true_eq_false, true_or, false_or, or_false, or_true, or_self, and_true, true_and, and_false, false_and, and_self, Bool.false_eq_true, Bool.true_eq_false, reduceIte, Bool.and_true, Bool.and_false, Bool.true_and, Bool.false_and]; exact abt_or _) | (simp only [*, r_weakP, r_weakU, if_true, if_false, ne_eq, not_false_eq_true, not_true_eq_false, true_or, false_or, or_false, or_true, or_self, and_true, true_and, and_false, false_and, and_self, Bool.false_eq_true, Bool.true_eq_false, reduceIte, Bool.and_true, Bool.and_false, Bool.true_and, Bool.false_and]; rfl)
      rw [e] at hq
      exact hq
  have h_1 : ¬ (p 0 i = 38) := fun z => h_1 ((nI_eq (by omega) (by omega)).mpr z)
  refine am_sw1 (k := nI 42) (tgt := 264) rfl (by decide) (by decide) rfl (fun (h_8 : nI (p 0 i) = nI 42) => ?_) (fun (h_8 : ¬ (nI (p 0 i) = nI 42)) => ?_)
  · have h_8 : p 0 i = 42 := (nI_eq (by omega) (by omega)).mp h_8
    refine am_run 5 (pc' := 271) (ls' := [some (.ref 0), some (.int (nI (60 * j + i))), some (.int (nI w)), some (.int (nI 2)), none]) (st' := [.int (nI (60 * j + i)), .ref 7, .ref 0, .ref 0]) (σ' := σ) rfl ?_
    refine am_ialdN (n := 180) (v := oI (p 2 i)) rfl rfl rfl (by omega) m2 (by decide) ?_
    refine am_run 2 (pc' := 274) (ls' := [some (.ref 0), some (.int (nI (60 * j + i))), some (.int (nI w)), some (.int (nI 2)), none]) (st' := [.int (nI 2), .int (nI w), .int (oI (p 2 i)), .ref 0, .ref 0]) (σ' := σ) rfl ?_
    refine am_invv (y := 190) (b := 0) (as := [.int (oI (p 2 i)), .int (nI w), .int (nI 2)]) (rest := [.ref 0]) rfl rfl rfl rfl rfl rfl rfl (Nat.le_of_ble_eq_true rfl) ?_
    refine c_m_laid (by omega) hB w2 hw (by decide) (L2 (by omega) (by first | assumption | exact V2 (by omega) | exact V3 (by omega) (by assumption))).1 (fun r9 hr9 ok9 iv9 => ?_)
    obtain ⟨x9a, x9b, x9c, x9d⟩ := id ok9
    show am_G _ M_X10_goesOn _ 277 [some (.ref 0), some (.int (nI (60 * j + i))), some (.int (nI w)), some (.int (nI 2)), none] [.int (nI (eM r9)), .ref 0] σ
    refine am_run 3 (pc' := 282) (ls' := [some (.ref 0), some (.int (nI (60 * j + i))), some (.int (nI w)), some (.int (nI 2)), none]) (st' := [.int (nI (60 * j + i)), .ref 7, .int (nI (eM r9)), .ref 0]) (σ' := σ) rfl ?_
    refine am_ialdN (n := 180) (v := oI (p 2 i)) rfl rfl rfl (by omega) m2 (by decide) ?_
    refine am_run 3 (pc' := 286) (ls' := [some (.ref 0), some (.int (nI (60 * j + i))), some (.int (nI w)), some (.int (nI 2)), none]) (st' := [.int (nI 2), .int (nI 2), .int (nI w), .int (oI (p 2 i)), .int (nI (eM r9)), .ref 0]) (σ' := σ) rfl ?_
    refine am_ic (ty := 289) (tn := 293) rfl (by decide) rfl rfl (fun (h_10 : nI 2 = nI 2) => ?_) (fun (h_10 : ¬ (nI 2 = nI 2)) => ?_)
    rotate_left
    · exact absurd (by decide) h_10
    refine am_run 2 (pc' := 294) (ls' := [some (.ref 0), some (.int (nI (60 * j + i))), some (.int (nI w)), some (.int (nI 2)), none]) (st' := [.int (nI 1), .int (nI w), .int (oI (p 2 i)), .int (nI (eM r9)), .ref 0]) (σ' := σ) rfl ?_
    refine am_invv (y := 195) (b := 0) (as := [.int (nI (eM r9)), .int (oI (p 2 i)), .int (nI w), .int (nI 1)]) (rest := []) rfl rfl rfl rfl rfl rfl rfl (Nat.le_of_ble_eq_true rfl) ?_
    refine c_m_behind_true (by omega) hB ok9 iv9 w2 hw (K2 (by omega)).1 (K2 (by omega)).2 ?_
    show am_G _ M_X10_goesOn _ 297 [some (.ref 0), some (.int (nI (60 * j + i))), some (.int (nI w)), some (.int (nI 2)), none] [.int (nI (eM (r_flw r9 (an p 61 (p 2 i) ST (true && me r9) E.1 E.2))))] σ
    refine am_reti rfl rfl ?_
    have e : anB p (an p 61) i s true E.1 E.2 = (r_flw r9 (an p 61 (p 2 i) ST (true && me r9) E.1 E.2)) := by
      refine (anB_42 h_8).trans ?_
      first | rfl | (simp only [*, if_true, if_false, ne_eq, not_false_eq_true, not_true_eq_false, true_or, false_or, or_false, or_true, or_self, and_true, true_and, and_false, false_and, and_self, Bool.false_eq_true, Bool.true_eq_false, reduceIte, Bool.and_true, Bool.and_false, Bool.true_and, Bool.false_and]; done) | (simp only [*, if_true, if_false, ne_eq, not_false_eq_true, not_true_eq_false, true_or, false_or, or_false, or_true, or_self, and_true, true_and, and_false, false_and, and_self, Bool.false_eq_true, Bool.true_eq_false, reduceIte, Bool.and_true, Bool.and_false, Bool.true_and, Bool.false_and]; rfl) | (simp only [*, if_true, if_false, ne_eq, not_false_eq_true, not_true_eq_false, true_or, false_or, or_false, or_true, or_self, and_true, true_and, and_false, false_and, and_self, Bool.false_eq_true, Bool.true_eq_false, reduceIte, Bool.and_true, Bool.and_false, Bool.true_and, Bool.false_and]; exact abt_or _) | (simp only [*, r_weakP, r_weakU, if_true, if_false, ne_eq, not_false_eq_true, not_true_eq_false, true_or, false_or, or_false, or_true, or_self, and_true, true_and, and_false, false_and, and_self, Bool.false_eq_true, Bool.true_eq_false, reduceIte, Bool.and_true, Bool.and_false, Bool.true_and, Bool.false_and]; rfl)
    rw [e] at hq
    exact hq
  have h_8 : ¬ (p 0 i = 42) := fun z => h_8 ((nI_eq (by omega) (by omega)).mpr z)
  refine am_sw1 (k := nI 46) (tgt := 88) rfl (by decide) (by decide) rfl (fun (h_11 : nI (p 0 i) = nI 46) => ?_) (fun (h_11 : ¬ (nI (p 0 i) = nI 46)) => ?_)
  · have h_11 : p 0 i = 46 := (nI_eq (by omega) (by omega)).mp h_11
    refine am_run 1 (pc' := 89) (ls' := [some (.ref 0), some (.int (nI (60 * j + i))), some (.int (nI w)), some (.int (nI 2)), none]) (st' := [.int (nI 1)]) (σ' := σ) rfl ?_
    refine am_invs (y := 191) (as := [.int (nI 1)]) (rest := []) rfl rfl rfl rfl rfl rfl (Nat.le_of_ble_eq_true rfl) ?_
    refine c_m_code (by omega) (k := 1) (by first | omega | decide | exact pow_lt_256 (by omega) | exact or_lt8 (by omega) (by omega) | exact or_lt7 (by omega) (by omega) | exact mx_lt (by omega) (by omega) | exact ct_lt (by omega) | exact or_lt7 (cl_lt (by omega)) (by omega) | exact cl_lt (by omega) | exact or_lt7 (cl_lt (by omega)) (tb_lt _)) ?_
    show am_G _ M_X10_goesOn _ 92 [some (.ref 0), some (.int (nI (60 * j + i))), some (.int (nI w)), some (.int (nI 2)), none] [.int (nI (eM (r_cd 1)))] σ
    refine am_reti rfl rfl ?_
    have e : anB p (an p 61) i s true E.1 E.2 = (r_cd 1) := by
      refine (anB_46 h_11).trans ?_
      first | rfl | (simp only [*, if_true, if_false, ne_eq, not_false_eq_true, not_true_eq_false, true_or, false_or, or_false, or_true, or_self, and_true, true_and, and_false, false_and, and_self, Bool.false_eq_true, Bool.true_eq_false, reduceIte, Bool.and_true, Bool.and_false, Bool.true_and, Bool.false_and]; done) | (simp only [*, if_true, if_false, ne_eq, not_false_eq_true, not_true_eq_false, true_or, false_or, or_false, or_true, or_self, and_true, true_and, and_false, false_and, and_self, Bool.false_eq_true, Bool.true_eq_false, reduceIte, Bool.and_true, Bool.and_false, Bool.true_and, Bool.false_and]; rfl) | (simp only [*, if_true, if_false, ne_eq, not_false_eq_true, not_true_eq_false, true_or, false_or, or_false, or_true, or_self, and_true, true_and, and_false, false_and, and_self, Bool.false_eq_true, Bool.true_eq_false, reduceIte, Bool.and_true, Bool.and_false, Bool.true_and, Bool.false_and]; exact abt_or _) | (simp only [*, r_weakP, r_weakU, if_true, if_false, ne_eq, not_false_eq_true, not_true_eq_false, true_or, false_or, or_false, or_true, or_self, and_true, true_and, and_false, false_and, and_self, Bool.false_eq_true, Bool.true_eq_false, reduceIte, Bool.and_true, Bool.and_false, Bool.true_and, Bool.false_and]; rfl)
    rw [e] at hq
    exact hq
  have h_11 : ¬ (p 0 i = 46) := fun z => h_11 ((nI_eq (by omega) (by omega)).mpr z)
  refine am_sw1 (k := nI 59) (tgt := 176) rfl (by decide) (by decide) rfl (fun (h_12 : nI (p 0 i) = nI 59) => ?_) (fun (h_12 : ¬ (nI (p 0 i) = nI 59)) => ?_)
  · have h_12 : p 0 i = 59 := (nI_eq (by omega) (by omega)).mp h_12
    refine am_run 4 (pc' := 182) (ls' := [some (.ref 0), some (.int (nI (60 * j + i))), some (.int (nI w)), some (.int (nI 2)), none]) (st' := [.int (nI (60 * j + i)), .ref 7, .ref 0]) (σ' := σ) rfl ?_
    refine am_ialdN (n := 180) (v := oI (p 2 i)) rfl rfl rfl (by omega) m2 (by decide) ?_
    refine am_invv (y := 194) (b := 0) (as := [.int (oI (p 2 i))]) (rest := []) rfl rfl rfl rfl rfl rfl rfl (Nat.le_of_ble_eq_true rfl) ?_
    refine c_m_isLive (by omega) hB w2 (fun hl_13 => ?_) (fun hl_13 => ?_)
    · show am_G _ M_X10_goesOn _ 186 [some (.ref 0), some (.int (nI (60 * j + i))), some (.int (nI w)), some (.int (nI 2)), none] [.int (nI 1)] σ
      refine am_if (ty := 223) (tn := 189) rfl (by decide) rfl rfl (fun (h_14 : nI 1 = 0) => ?_) (fun (h_14 : ¬ (nI 1 = 0)) => ?_)
      · exact absurd h_14 (by decide)
      refine am_run 5 (pc' := 196) (ls' := [some (.ref 0), some (.int (nI (60 * j + i))), some (.int (nI w)), some (.int (nI 2)), none]) (st' := [.int (nI (60 * j + i)), .ref 7, .ref 0, .ref 0]) (σ' := σ) rfl ?_
      refine am_ialdN (n := 180) (v := oI (p 2 i)) rfl rfl rfl (by omega) m2 (by decide) ?_
      refine am_run 2 (pc' := 199) (ls' := [some (.ref 0), some (.int (nI (60 * j + i))), some (.int (nI w)), some (.int (nI 2)), none]) (st' := [.int (nI 2), .int (nI w), .int (oI (p 2 i)), .ref 0, .ref 0]) (σ' := σ) rfl ?_
      refine am_invv (y := 190) (b := 0) (as := [.int (oI (p 2 i)), .int (nI w), .int (nI 2)]) (rest := [.ref 0]) rfl rfl rfl rfl rfl rfl rfl (Nat.le_of_ble_eq_true rfl) ?_
      refine c_m_laid (by omega) hB w2 hw (by decide) (L2 (by omega) (by first | assumption | exact V2 (by omega) | exact V3 (by omega) (by assumption))).1 (fun r15 hr15 ok15 iv15 => ?_)
      obtain ⟨x15a, x15b, x15c, x15d⟩ := id ok15
      show am_G _ M_X10_goesOn _ 202 [some (.ref 0), some (.int (nI (60 * j + i))), some (.int (nI w)), some (.int (nI 2)), none] [.int (nI (eM r15)), .ref 0] σ
      refine am_run 3 (pc' := 207) (ls' := [some (.ref 0), some (.int (nI (60 * j + i))), some (.int (nI w)), some (.int (nI 2)), none]) (st' := [.int (nI (60 * j + i)), .ref 8, .int (nI (eM r15)), .ref 0]) (σ' := σ) rfl ?_
      refine am_ialdN (n := 180) (v := oI (p 3 i)) rfl rfl rfl (by omega) m3 (by decide) ?_
      refine am_run 3 (pc' := 211) (ls' := [some (.ref 0), some (.int (nI (60 * j + i))), some (.int (nI w)), some (.int (nI 2)), none]) (st' := [.int (nI 2), .int (nI 2), .int (nI w), .int (oI (p 3 i)), .int (nI (eM r15)), .ref 0]) (σ' := σ) rfl ?_
      refine am_ic (ty := 214) (tn := 218) rfl (by decide) rfl rfl (fun (h_16 : nI 2 = nI 2) => ?_) (fun (h_16 : ¬ (nI 2 = nI 2)) => ?_)
      rotate_left
      · exact absurd (by decide) h_16
      refine am_run 2 (pc' := 219) (ls' := [some (.ref 0), some (.int (nI (60 * j + i))), some (.int (nI w)), some (.int (nI 2)), none]) (st' := [.int (nI 1), .int (nI w), .int (oI (p 3 i)), .int (nI (eM r15)), .ref 0]) (σ' := σ) rfl ?_
      refine am_invv (y := 195) (b := 0) (as := [.int (nI (eM r15)), .int (oI (p 3 i)), .int (nI w), .int (nI 1)]) (rest := []) rfl rfl rfl rfl rfl rfl rfl (Nat.le_of_ble_eq_true rfl) ?_
      refine c_m_behind_true (by omega) hB ok15 iv15 w3 hw (K3 (by omega)).1 (K3 (by omega)).2 ?_
      show am_G _ M_X10_goesOn _ 222 [some (.ref 0), some (.int (nI (60 * j + i))), some (.int (nI w)), some (.int (nI 2)), none] [.int (nI (eM (r_flw r15 (an p 61 (p 3 i) ST (true && me r15) E.1 E.2))))] σ
      refine am_reti rfl rfl ?_
      have e : anB p (an p 61) i s true E.1 E.2 = (r_flw r15 (an p 61 (p 3 i) ST (true && me r15) E.1 E.2)) := by
        refine (anB_59 h_12).trans ?_
        first | rfl | (simp only [*, if_true, if_false, ne_eq, not_false_eq_true, not_true_eq_false, true_or, false_or, or_false, or_true, or_self, and_true, true_and, and_false, false_and, and_self, Bool.false_eq_true, Bool.true_eq_false, reduceIte, Bool.and_true, Bool.and_false, Bool.true_and, Bool.false_and]; done) | (simp only [*, if_true, if_false, ne_eq, not_false_eq_true, not_true_eq_false, true_or, false_or, or_false, or_true, or_self, and_true, true_and, and_false, false_and, and_self, Bool.false_eq_true, Bool.true_eq_false, reduceIte, Bool.and_true, Bool.and_false, Bool.true_and, Bool.false_and]; rfl) | (simp only [*, if_true, if_false, ne_eq, not_false_eq_true, not_true_eq_false, true_or, false_or, or_false, or_true, or_self, and_true, true_and, and_false, false_and, and_self, Bool.false_eq_true, Bool.true_eq_false, reduceIte, Bool.and_true, Bool.and_false, Bool.true_and, Bool.false_and]; exact abt_or _) | (simp only [*, r_weakP, r_weakU, if_true, if_false, ne_eq, not_false_eq_true, not_true_eq_false, true_or, false_or, or_false, or_true, or_self, and_true, true_and, and_false, false_and, and_self, Bool.false_eq_true, Bool.true_eq_false, reduceIte, Bool.and_true, Bool.and_false, Bool.true_and, Bool.false_and]; rfl)
      rw [e] at hq
      exact hq
    · show am_G _ M_X10_goesOn _ 186 [some (.ref 0), some (.int (nI (60 * j + i))), some (.int (nI w)), some (.int (nI 2)), none] [.int (nI 0)] σ
      refine am_if (ty := 223) (tn := 189) rfl (by decide) rfl rfl (fun (h_17 : nI 0 = 0) => ?_) (fun (h_17 : ¬ (nI 0 = 0)) => ?_)
      rotate_left
      · exact absurd (by decide) h_17
      refine am_run 4 (pc' := 229) (ls' := [some (.ref 0), some (.int (nI (60 * j + i))), some (.int (nI w)), some (.int (nI 2)), none]) (st' := [.int (nI (60 * j + i)), .ref 8, .ref 0]) (σ' := σ) rfl ?_
      refine am_ialdN (n := 180) (v := oI (p 3 i)) rfl rfl rfl (by omega) m3 (by decide) ?_
      refine am_run 2 (pc' := 232) (ls' := [some (.ref 0), some (.int (nI (60 * j + i))), some (.int (nI w)), some (.int (nI 2)), none]) (st' := [.int (nI 2), .int (nI w), .int (oI (p 3 i)), .ref 0]) (σ' := σ) rfl ?_
      refine am_invv (y := 190) (b := 0) (as := [.int (oI (p 3 i)), .int (nI w), .int (nI 2)]) (rest := []) rfl rfl rfl rfl rfl rfl rfl (Nat.le_of_ble_eq_true rfl) ?_
      refine c_m_laid (by omega) hB w3 hw (by decide) (L3 (by omega) (by first | assumption | exact V2 (by omega) | exact V3 (by omega) (by assumption))).1 (fun r18 hr18 ok18 iv18 => ?_)
      obtain ⟨x18a, x18b, x18c, x18d⟩ := id ok18
      show am_G _ M_X10_goesOn _ 235 [some (.ref 0), some (.int (nI (60 * j + i))), some (.int (nI w)), some (.int (nI 2)), none] [.int (nI (eM r18))] σ
      refine am_reti rfl rfl ?_
      have e : anB p (an p 61) i s true E.1 E.2 = r18 := by
        refine (anB_59 h_12).trans ?_
        first | rfl | (simp only [*, if_true, if_false, ne_eq, not_false_eq_true, not_true_eq_false, true_or, false_or, or_false, or_true, or_self, and_true, true_and, and_false, false_and, and_self, Bool.false_eq_true, Bool.true_eq_false, reduceIte, Bool.and_true, Bool.and_false, Bool.true_and, Bool.false_and]; done) | (simp only [*, if_true, if_false, ne_eq, not_false_eq_true, not_true_eq_false, true_or, false_or, or_false, or_true, or_self, and_true, true_and, and_false, false_and, and_self, Bool.false_eq_true, Bool.true_eq_false, reduceIte, Bool.and_true, Bool.and_false, Bool.true_and, Bool.false_and]; rfl) | (simp only [*, if_true, if_false, ne_eq, not_false_eq_true, not_true_eq_false, true_or, false_or, or_false, or_true, or_self, and_true, true_and, and_false, false_and, and_self, Bool.false_eq_true, Bool.true_eq_false, reduceIte, Bool.and_true, Bool.and_false, Bool.true_and, Bool.false_and]; exact abt_or _) | (simp only [*, r_weakP, r_weakU, if_true, if_false, ne_eq, not_false_eq_true, not_true_eq_false, true_or, false_or, or_false, or_true, or_self, and_true, true_and, and_false, false_and, and_self, Bool.false_eq_true, Bool.true_eq_false, reduceIte, Bool.and_true, Bool.and_false, Bool.true_and, Bool.false_and]; rfl)
      rw [e] at hq
      exact hq
  have h_12 : ¬ (p 0 i = 59) := fun z => h_12 ((nI_eq (by omega) (by omega)).mpr z)
  refine am_sw1 (k := nI 63) (tgt := 141) rfl (by decide) (by decide) rfl (fun (h_19 : nI (p 0 i) = nI 63) => ?_) (fun (h_19 : ¬ (nI (p 0 i) = nI 63)) => ?_)
  · have h_19 : p 0 i = 63 := (nI_eq (by omega) (by omega)).mp h_19
    have hg1 : 1 ≤ p 1 i := w5 (by rw [h_19]; decide)
    refine am_run 5 (pc' := 148) (ls' := [some (.ref 0), some (.int (nI (60 * j + i))), some (.int (nI w)), some (.int (nI 2)), none]) (st' := [.int (nI (60 * j + i)), .ref 7, .ref 0, .ref 0]) (σ' := σ) rfl ?_
    refine am_ialdN (n := 180) (v := oI (p 2 i)) rfl rfl rfl (by omega) m2 (by decide) ?_
    refine am_invv (y := 194) (b := 0) (as := [.int (oI (p 2 i))]) (rest := [.ref 0]) rfl rfl rfl rfl rfl rfl rfl (Nat.le_of_ble_eq_true rfl) ?_
    refine c_m_isLive (by omega) hB w2 (fun hl_20 => ?_) (fun hl_20 => ?_)
    · show am_G _ M_X10_goesOn _ 152 [some (.ref 0), some (.int (nI (60 * j + i))), some (.int (nI w)), some (.int (nI 2)), none] [.int (nI 1), .ref 0] σ
      refine am_if (ty := 164) (tn := 155) rfl (by decide) rfl rfl (fun (h_21 : nI 1 = 0) => ?_) (fun (h_21 : ¬ (nI 1 = 0)) => ?_)
      · exact absurd h_21 (by decide)
      refine am_run 3 (pc' := 160) (ls' := [some (.ref 0), some (.int (nI (60 * j + i))), some (.int (nI w)), some (.int (nI 2)), none]) (st' := [.int (nI (60 * j + i)), .ref 7, .ref 0]) (σ' := σ) rfl ?_
      refine am_ialdN (n := 180) (v := oI (p 2 i)) rfl rfl rfl (by omega) m2 (by decide) ?_
      refine am_run 3 (pc' := 172) (ls' := [some (.ref 0), some (.int (nI (60 * j + i))), some (.int (nI w)), some (.int (nI 2)), none]) (st' := [.int (nI 2), .int (nI w), .int (oI (p 2 i)), .ref 0]) (σ' := σ) rfl ?_
      refine am_invv (y := 190) (b := 0) (as := [.int (oI (p 2 i)), .int (nI w), .int (nI 2)]) (rest := []) rfl rfl rfl rfl rfl rfl rfl (Nat.le_of_ble_eq_true rfl) ?_
      refine c_m_laid (by omega) hB w2 hw (by decide) (L2 (by omega) (by first | assumption | exact V2 (by omega) | exact V3 (by omega) (by assumption))).1 (fun r22 hr22 ok22 iv22 => ?_)
      obtain ⟨x22a, x22b, x22c, x22d⟩ := id ok22
      show am_G _ M_X10_goesOn _ 175 [some (.ref 0), some (.int (nI (60 * j + i))), some (.int (nI w)), some (.int (nI 2)), none] [.int (nI (eM r22))] σ
      refine am_reti rfl rfl ?_
      have e : anB p (an p 61) i s true E.1 E.2 = r22 := by
        refine (anB_63 h_19).trans ?_
        first | rfl | (simp only [*, if_true, if_false, ne_eq, not_false_eq_true, not_true_eq_false, true_or, false_or, or_false, or_true, or_self, and_true, true_and, and_false, false_and, and_self, Bool.false_eq_true, Bool.true_eq_false, reduceIte, Bool.and_true, Bool.and_false, Bool.true_and, Bool.false_and]; done) | (simp only [*, if_true, if_false, ne_eq, not_false_eq_true, not_true_eq_false, true_or, false_or, or_false, or_true, or_self, and_true, true_and, and_false, false_and, and_self, Bool.false_eq_true, Bool.true_eq_false, reduceIte, Bool.and_true, Bool.and_false, Bool.true_and, Bool.false_and]; rfl) | (simp only [*, if_true, if_false, ne_eq, not_false_eq_true, not_true_eq_false, true_or, false_or, or_false, or_true, or_self, and_true, true_and, and_false, false_and, and_self, Bool.false_eq_true, Bool.true_eq_false, reduceIte, Bool.and_true, Bool.and_false, Bool.true_and, Bool.false_and]; exact abt_or _) | (simp only [*, r_weakP, r_weakU, if_true, if_false, ne_eq, not_false_eq_true, not_true_eq_false, true_or, false_or, or_false, or_true, or_self, and_true, true_and, and_false, false_and, and_self, Bool.false_eq_true, Bool.true_eq_false, reduceIte, Bool.and_true, Bool.and_false, Bool.true_and, Bool.false_and]; rfl)
      rw [e] at hq
      exact hq
    · show am_G _ M_X10_goesOn _ 152 [some (.ref 0), some (.int (nI (60 * j + i))), some (.int (nI w)), some (.int (nI 2)), none] [.int (nI 0), .ref 0] σ
      refine am_if (ty := 164) (tn := 155) rfl (by decide) rfl rfl (fun (h_23 : nI 0 = 0) => ?_) (fun (h_23 : ¬ (nI 0 = 0)) => ?_)
      rotate_left
      · exact absurd (by decide) h_23
      refine am_run 3 (pc' := 169) (ls' := [some (.ref 0), some (.int (nI (60 * j + i))), some (.int (nI w)), some (.int (nI 2)), none]) (st' := [.int (nI (60 * j + i)), .ref 8, .ref 0]) (σ' := σ) rfl ?_
      refine am_ialdN (n := 180) (v := oI (p 3 i)) rfl rfl rfl (by omega) m3 (by decide) ?_
      refine am_run 2 (pc' := 172) (ls' := [some (.ref 0), some (.int (nI (60 * j + i))), some (.int (nI w)), some (.int (nI 2)), none]) (st' := [.int (nI 2), .int (nI w), .int (oI (p 3 i)), .ref 0]) (σ' := σ) rfl ?_
      refine am_invv (y := 190) (b := 0) (as := [.int (oI (p 3 i)), .int (nI w), .int (nI 2)]) (rest := []) rfl rfl rfl rfl rfl rfl rfl (Nat.le_of_ble_eq_true rfl) ?_
      refine c_m_laid (by omega) hB w3 hw (by decide) (L3 (by omega) (by first | assumption | exact V2 (by omega) | exact V3 (by omega) (by assumption))).1 (fun r24 hr24 ok24 iv24 => ?_)
      obtain ⟨x24a, x24b, x24c, x24d⟩ := id ok24
      show am_G _ M_X10_goesOn _ 175 [some (.ref 0), some (.int (nI (60 * j + i))), some (.int (nI w)), some (.int (nI 2)), none] [.int (nI (eM r24))] σ
      refine am_reti rfl rfl ?_
      have e : anB p (an p 61) i s true E.1 E.2 = r24 := by
        refine (anB_63 h_19).trans ?_
        first | rfl | (simp only [*, if_true, if_false, ne_eq, not_false_eq_true, not_true_eq_false, true_or, false_or, or_false, or_true, or_self, and_true, true_and, and_false, false_and, and_self, Bool.false_eq_true, Bool.true_eq_false, reduceIte, Bool.and_true, Bool.and_false, Bool.true_and, Bool.false_and]; done) | (simp only [*, if_true, if_false, ne_eq, not_false_eq_true, not_true_eq_false, true_or, false_or, or_false, or_true, or_self, and_true, true_and, and_false, false_and, and_self, Bool.false_eq_true, Bool.true_eq_false, reduceIte, Bool.and_true, Bool.and_false, Bool.true_and, Bool.false_and]; rfl) | (simp only [*, if_true, if_false, ne_eq, not_false_eq_true, not_true_eq_false, true_or, false_or, or_false, or_true, or_self, and_true, true_and, and_false, false_and, and_self, Bool.false_eq_true, Bool.true_eq_false, reduceIte, Bool.and_true, Bool.and_false, Bool.true_and, Bool.false_and]; exact abt_or _) | (simp only [*, r_weakP, r_weakU, if_true, if_false, ne_eq, not_false_eq_true, not_true_eq_false, true_or, false_or, or_false, or_true, or_self, and_true, true_and, and_false, false_and, and_self, Bool.false_eq_true, Bool.true_eq_false, reduceIte, Bool.and_true, Bool.and_false, Bool.true_and, Bool.false_and]; rfl)
      rw [e] at hq
      exact hq
  have h_19 : ¬ (p 0 i = 63) := fun z => h_19 ((nI_eq (by omega) (by omega)).mpr z)
  refine am_sw1 (k := nI 64) (tgt := 314) rfl (by decide) (by decide) rfl (fun (h_25 : nI (p 0 i) = nI 64) => ?_) (fun (h_25 : ¬ (nI (p 0 i) = nI 64)) => ?_)
  · have h_25 : p 0 i = 64 := (nI_eq (by omega) (by omega)).mp h_25
    have hg1 : 1 ≤ p 1 i := w5 (by rw [h_25]; decide)
    refine am_run 4 (pc' := 318) (ls' := [some (.ref 0), some (.int (nI (60 * j + i))), some (.int (nI w)), some (.int (nI 2)), none]) (st' := [.int (nI 2), .int (nI w), .int (nI (60 * j + i)), .ref 0]) (σ' := σ) rfl ?_
    refine am_invv (y := 206) (b := 0) (as := [.int (nI (60 * j + i)), .int (nI w), .int (nI 2)]) (rest := []) rfl rfl rfl rfl rfl rfl rfl (Nat.le_of_ble_eq_true rfl) ?_
    refine c_m_broken2 (by omega) hB hi hw3 hE hs1 h_25 L2 L3 V2 V3 ?_
    show am_G _ M_X10_goesOn _ 321 [some (.ref 0), some (.int (nI (60 * j + i))), some (.int (nI w)), some (.int (nI 2)), none] [.int (nI (eM (anB p (an p 61) i s true E.1 E.2)))] σ
    refine am_reti rfl rfl ?_
    exact hq
  have h_25 : ¬ (p 0 i = 64) := fun z => h_25 ((nI_eq (by omega) (by omega)).mpr z)
  refine am_sw1 (k := nI 94) (tgt := 298) rfl (by decide) (by decide) rfl (fun (h_26 : nI (p 0 i) = nI 94) => ?_) (fun (h_26 : ¬ (nI (p 0 i) = nI 94)) => ?_)
  · have h_26 : p 0 i = 94 := (nI_eq (by omega) (by omega)).mp h_26
    refine am_run 4 (pc' := 304) (ls' := [some (.ref 0), some (.int (nI (60 * j + i))), some (.int (nI w)), some (.int (nI 2)), none]) (st' := [.int (nI (60 * j + i)), .ref 7, .ref 0]) (σ' := σ) rfl ?_
    refine am_ialdN (n := 180) (v := oI (p 2 i)) rfl rfl rfl (by omega) m2 (by decide) ?_
    refine am_run 2 (pc' := 307) (ls' := [some (.ref 0), some (.int (nI (60 * j + i))), some (.int (nI w)), some (.int (nI 2)), none]) (st' := [.int (nI 2), .int (nI w), .int (oI (p 2 i)), .ref 0]) (σ' := σ) rfl ?_
    refine am_invv (y := 190) (b := 0) (as := [.int (oI (p 2 i)), .int (nI w), .int (nI 2)]) (rest := []) rfl rfl rfl rfl rfl rfl rfl (Nat.le_of_ble_eq_true rfl) ?_
    refine c_m_laid (by omega) hB w2 hw (by decide) (L2 (by omega) (by first | assumption | exact V2 (by omega) | exact V3 (by omega) (by assumption))).1 (fun r27 hr27 ok27 iv27 => ?_)
    obtain ⟨x27a, x27b, x27c, x27d⟩ := id ok27
    show am_G _ M_X10_goesOn _ 310 [some (.ref 0), some (.int (nI (60 * j + i))), some (.int (nI w)), some (.int (nI 2)), none] [.int (nI (eM r27))] σ
    refine am_invs (y := 204) (as := [.int (nI (eM r27))]) (rest := []) rfl rfl rfl rfl rfl rfl (Nat.le_of_ble_eq_true rfl) ?_
    refine c_m_trapped (by omega) (a := r27) ok27 ?_
    show am_G _ M_X10_goesOn _ 313 [some (.ref 0), some (.int (nI (60 * j + i))), some (.int (nI w)), some (.int (nI 2)), none] [.int (nI (eM (r_trap r27)))] σ
    refine am_reti rfl rfl ?_
    have e : anB p (an p 61) i s true E.1 E.2 = (r_trap r27) := by
      refine (anB_94 h_26).trans ?_
      first | rfl | (simp only [*, if_true, if_false, ne_eq, not_false_eq_true, not_true_eq_false, true_or, false_or, or_false, or_true, or_self, and_true, true_and, and_false, false_and, and_self, Bool.false_eq_true, Bool.true_eq_false, reduceIte, Bool.and_true, Bool.and_false, Bool.true_and, Bool.false_and]; done) | (simp only [*, if_true, if_false, ne_eq, not_false_eq_true, not_true_eq_false, true_or, false_or, or_false, or_true, or_self, and_true, true_and, and_false, false_and, and_self, Bool.false_eq_true, Bool.true_eq_false, reduceIte, Bool.and_true, Bool.and_false, Bool.true_and, Bool.false_and]; rfl) | (simp only [*, if_true, if_false, ne_eq, not_false_eq_true, not_true_eq_false, true_or, false_or, or_false, or_true, or_self, and_true, true_and, and_false, false_and, and_self, Bool.false_eq_true, Bool.true_eq_false, reduceIte, Bool.and_true, Bool.and_false, Bool.true_and, Bool.false_and]; exact abt_or _) | (simp only [*, r_weakP, r_weakU, if_true, if_false, ne_eq, not_false_eq_true, not_true_eq_false, true_or, false_or, or_false, or_true, or_self, and_true, true_and, and_false, false_and, and_self, Bool.false_eq_true, Bool.true_eq_false, reduceIte, Bool.and_true, Bool.and_false, Bool.true_and, Bool.false_and]; rfl)
    rw [e] at hq
    exact hq
  have h_26 : ¬ (p 0 i = 94) := fun z => h_26 ((nI_eq (by omega) (by omega)).mpr z)
  refine am_sw1 (k := nI 124) (tgt := 236) rfl (by decide) (by decide) rfl (fun (h_28 : nI (p 0 i) = nI 124) => ?_) (fun (h_28 : ¬ (nI (p 0 i) = nI 124)) => ?_)
  · have h_28 : p 0 i = 124 := (nI_eq (by omega) (by omega)).mp h_28
    refine am_run 4 (pc' := 242) (ls' := [some (.ref 0), some (.int (nI (60 * j + i))), some (.int (nI w)), some (.int (nI 2)), none]) (st' := [.int (nI (60 * j + i)), .ref 7, .ref 0]) (σ' := σ) rfl ?_
    refine am_ialdN (n := 180) (v := oI (p 2 i)) rfl rfl rfl (by omega) m2 (by decide) ?_
    refine am_run 2 (pc' := 245) (ls' := [some (.ref 0), some (.int (nI (60 * j + i))), some (.int (nI w)), some (.int (nI 2)), none]) (st' := [.int (nI 2), .int (nI w), .int (oI (p 2 i)), .ref 0]) (σ' := σ) rfl ?_
    refine am_invv (y := 205) (b := 0) (as := [.int (oI (p 2 i)), .int (nI w), .int (nI 2)]) (rest := []) rfl rfl rfl rfl rfl rfl rfl (Nat.le_of_ble_eq_true rfl) ?_
    refine c_m_onOf (by omega) hB (S := s) (u := true) (E := E) w2 hw (by decide) (fun z => (L2 (by omega) z).1) (fun r29 hr29 ok29 iv29 => ?_)
    obtain ⟨x29a, x29b, x29c, x29d⟩ := id ok29
    show am_G _ M_X10_goesOn _ 248 [some (.ref 0), some (.int (nI (60 * j + i))), some (.int (nI w)), some (.int (nI 2)), none] [.int (nI (eM r29))] σ
    refine am_run 4 (pc' := 254) (ls' := [some (.ref 0), some (.int (nI (60 * j + i))), some (.int (nI w)), some (.int (nI 2)), none]) (st' := [.int (nI (60 * j + i)), .ref 8, .ref 0, .int (nI (eM r29))]) (σ' := σ) rfl ?_
    refine am_ialdN (n := 180) (v := oI (p 3 i)) rfl rfl rfl (by omega) m3 (by decide) ?_
    refine am_run 2 (pc' := 257) (ls' := [some (.ref 0), some (.int (nI (60 * j + i))), some (.int (nI w)), some (.int (nI 2)), none]) (st' := [.int (nI 2), .int (nI w), .int (oI (p 3 i)), .ref 0, .int (nI (eM r29))]) (σ' := σ) rfl ?_
    refine am_invv (y := 205) (b := 0) (as := [.int (oI (p 3 i)), .int (nI w), .int (nI 2)]) (rest := [.int (nI (eM r29))]) rfl rfl rfl rfl rfl rfl rfl (Nat.le_of_ble_eq_true rfl) ?_
    refine c_m_onOf (by omega) hB (S := s) (u := true) (E := E) w3 hw (by decide) (fun z => (L3 (by omega) z).1) (fun r30 hr30 ok30 iv30 => ?_)
    obtain ⟨x30a, x30b, x30c, x30d⟩ := id ok30
    show am_G _ M_X10_goesOn _ 260 [some (.ref 0), some (.int (nI (60 * j + i))), some (.int (nI w)), some (.int (nI 2)), none] [.int (nI (eM r30)), .int (nI (eM r29))] σ
    refine am_invs (y := 197) (as := [.int (nI (eM r29)), .int (nI (eM r30))]) (rest := []) rfl rfl rfl rfl rfl rfl (Nat.le_of_ble_eq_true rfl) ?_
    refine c_m_beside (by omega) (a := r29) (b := r30) ok29 ok30 ?_
    show am_G _ M_X10_goesOn _ 263 [some (.ref 0), some (.int (nI (60 * j + i))), some (.int (nI w)), some (.int (nI 2)), none] [.int (nI (eM (r_par r29 r30)))] σ
    refine am_reti rfl rfl ?_
    have e : anB p (an p 61) i s true E.1 E.2 = (r_par r29 r30) := by
      refine (anB_124 h_28).trans ?_
      first | rfl | (simp only [*, if_true, if_false, ne_eq, not_false_eq_true, not_true_eq_false, true_or, false_or, or_false, or_true, or_self, and_true, true_and, and_false, false_and, and_self, Bool.false_eq_true, Bool.true_eq_false, reduceIte, Bool.and_true, Bool.and_false, Bool.true_and, Bool.false_and]; done) | (simp only [*, if_true, if_false, ne_eq, not_false_eq_true, not_true_eq_false, true_or, false_or, or_false, or_true, or_self, and_true, true_and, and_false, false_and, and_self, Bool.false_eq_true, Bool.true_eq_false, reduceIte, Bool.and_true, Bool.and_false, Bool.true_and, Bool.false_and]; rfl) | (simp only [*, if_true, if_false, ne_eq, not_false_eq_true, not_true_eq_false, true_or, false_or, or_false, or_true, or_self, and_true, true_and, and_false, false_and, and_self, Bool.false_eq_true, Bool.true_eq_false, reduceIte, Bool.and_true, Bool.and_false, Bool.true_and, Bool.false_and]; exact abt_or _) | (simp only [*, r_weakP, r_weakU, if_true, if_false, ne_eq, not_false_eq_true, not_true_eq_false, true_or, false_or, or_false, or_true, or_self, and_true, true_and, and_false, false_and, and_self, Bool.false_eq_true, Bool.true_eq_false, reduceIte, Bool.and_true, Bool.and_false, Bool.true_and, Bool.false_and]; rfl)
    rw [e] at hq
    exact hq
  have h_28 : ¬ (p 0 i = 124) := fun z => h_28 ((nI_eq (by omega) (by omega)).mpr z)
  refine am_sw1 (k := nI 126) (tgt := 322) rfl (by decide) (by decide) rfl (fun (h_31 : nI (p 0 i) = nI 126) => ?_) (fun (h_31 : ¬ (nI (p 0 i) = nI 126)) => ?_)
  · have h_31 : p 0 i = 126 := (nI_eq (by omega) (by omega)).mp h_31
    have hg1 : 1 ≤ p 1 i := w5 (by rw [h_31]; decide)
    refine am_run 4 (pc' := 326) (ls' := [some (.ref 0), some (.int (nI (60 * j + i))), some (.int (nI w)), some (.int (nI 2)), none]) (st' := [.int (nI 2), .int (nI w), .int (nI (60 * j + i)), .ref 0]) (σ' := σ) rfl ?_
    refine am_invv (y := 207) (b := 0) (as := [.int (nI (60 * j + i)), .int (nI w), .int (nI 2)]) (rest := []) rfl rfl rfl rfl rfl rfl rfl (Nat.le_of_ble_eq_true rfl) ?_
    refine c_m_weakened2 (by omega) hB hi hw3 hE hs1 h_31 L2 L3 V2 V3 ?_
    show am_G _ M_X10_goesOn _ 329 [some (.ref 0), some (.int (nI (60 * j + i))), some (.int (nI w)), some (.int (nI 2)), none] [.int (nI (eM (anB p (an p 61) i s true E.1 E.2)))] σ
    refine am_reti rfl rfl ?_
    exact hq
  have h_31 : ¬ (p 0 i = 126) := fun z => h_31 ((nI_eq (by omega) (by omega)).mpr z)
  refine am_sw0 (tgt := 330) (by decide) rfl ?_
  refine am_run 4 (pc' := 334) (ls' := [some (.ref 0), some (.int (nI (60 * j + i))), some (.int (nI w)), some (.int (nI 2)), none]) (st' := [.int (nI 2), .int (nI w), .int (nI (60 * j + i)), .ref 0]) (σ' := σ) rfl ?_
  refine am_invv (y := 202) (b := 0) (as := [.int (nI (60 * j + i)), .int (nI w), .int (nI 2)]) (rest := []) rfl rfl rfl rfl rfl rfl rfl (Nat.le_of_ble_eq_true rfl) ?_
  refine c_m_newLaid2 (by omega) hB hi hw3 hE (by first | exact h_31 | omega) (D36 (by omega)) (K36 (by omega)) ?_
  show am_G _ M_X10_goesOn _ 337 [some (.ref 0), some (.int (nI (60 * j + i))), some (.int (nI w)), some (.int (nI 2)), none] [.int (nI (eM (anB p (an p 61) i s true E.1 E.2)))] σ
  refine am_reti rfl rfl ?_
  exact hq
set_option maxRecDepth 10000 in
set_option maxHeartbeats 2000000 in
theorem c_m_goesOn3 {d : Nat} (hd : 8 ≤ d) {σ : am_M} {j s P A n : Nat} {p : Pg} {dp : Nat → Nat} {ow : Nat → Nat → Nat} (hB : MB σ j s P A p n dp ow) {i w : Nat} {E : Nat × Nat} (hi : i < n) (hw3 : w < 3 ^ dp i) (hE : evn (ow i) w P A (dp i) = E) (hs1 : ¬ s = 1048576) (K2 : ¬ p 0 i = 36 → KD σ p (p 2 i) w 0 ST true E ∧ KD σ p (p 2 i) w 1 ST false E) (K3 : ¬ p 0 i = 36 → KD σ p (p 3 i) w 0 ST true E ∧ KD σ p (p 3 i) w 1 ST false E) (L2 : ¬ p 0 i = 36 → lv p (p 2 i) s = true → KD σ p (p 2 i) w 2 s true E ∧ KD σ p (p 2 i) w 3 s false E) (L3 : ¬ p 0 i = 36 → lv p (p 3 i) s = true → KD σ p (p 3 i) w 2 s true E ∧ KD σ p (p 3 i) w 3 s false E) (V2 : p 0 i = 42 ∨ p 0 i = 94 ∨ p 0 i = 64 ∨ p 0 i = 126 → lv p (p 2 i) s = true) (V3 : p 0 i = 63 ∨ p 0 i = 59 → lv p (p 2 i) s = false → lv p (p 3 i) s = true) (T0 : p 0 i = 36 ∨ p 0 i = 38 ∨ p 0 i = 42 ∨ p 0 i = 46 ∨ p 0 i = 59 ∨ p 0 i = 63 ∨ p 0 i = 64 ∨ p 0 i = 94 ∨ p 0 i = 124 ∨ p 0 i = 126) (D36 : p 0 i = 36 → dp i ≤ 2) (K36 : p 0 i = 36 → ∀ h, h < 3 → KD σ p (p 2 i) (w + h * 3 ^ dp i) 3 s false (up3 E (p 1 i - 1) h)) {Q : am_Q} (hq : Q (some (.int (nI (eM (anB p (an p 61) i s false E.1 E.2))))) σ) : am_C d 208 [.ref 0, .int (nI (60 * j + i)), .int (nI w), .int (nI 3)] σ Q := by
  obtain ⟨hj, hS, hW, hs, hN, hdj, hP, hA⟩ := id hB
  obtain ⟨hS1, hS2, hS3, hS4⟩ := id hS
  obtain ⟨⟨m0, m1, m2, m3, m4, m5, m6⟩, hdp, how⟩ := hN i hi
  obtain ⟨w0, w1, w2, w3, w4, w5, w6⟩ := hW.2 i hi
  have hn60 := hW.1
  have hw := wy0 hdp hw3
  refine am_enter' (M := M_X10_goesOn) rfl rfl rfl (by omega) (ls := [some (.ref 0), some (.int (nI (60 * j + i))), some (.int (nI w)), some (.int (nI 3)), none]) rfl (fun d' hd' => ?_)
  refine am_run 3 (pc' := 5) (ls' := [some (.ref 0), some (.int (nI (60 * j + i))), some (.int (nI w)), some (.int (nI 3)), none]) (st' := [.int (nI (60 * j + i)), .ref 5]) (σ' := σ) rfl ?_
  refine am_ialdN (n := 180) (v := nI (p 0 i)) rfl rfl rfl (by omega) m0 (by decide) ?_
  refine am_lsw rfl rfl (L := [(38, 87), (42, 258), (46, 82), (59, 170), (63, 135), (64, 308), (94, 292), (124, 230), (126, 316)]) rfl ?_
  refine am_sw1 (k := nI 38) (tgt := 93) rfl (by decide) (by decide) rfl (fun (h_1 : nI (p 0 i) = nI 38) => ?_) (fun (h_1 : ¬ (nI (p 0 i) = nI 38)) => ?_)
  · have h_1 : p 0 i = 38 := (nI_eq (by omega) (by omega)).mp h_1
    have hg1 : 1 ≤ p 1 i := w5 (by rw [h_1]; decide)
    refine am_run 6 (pc' := 101) (ls' := [some (.ref 0), some (.int (nI (60 * j + i))), some (.int (nI w)), some (.int (nI 3)), none]) (st' := [.int (nI (60 * j + i)), .ref 6, .int (nI w), .int (nI (60 * j + i)), .ref 0]) (σ' := σ) rfl ?_
    refine am_ialdN (n := 180) (v := oI (p 1 i)) rfl rfl rfl (by omega) m1 (by decide) ?_
    refine am_top (v' := nI (p 1 i - 1)) (oI_p (by omega)) ?_
    refine am_invv (y := 192) (b := 0) (as := [.int (nI (60 * j + i)), .int (nI w), .int (nI (p 1 i - 1))]) (rest := []) rfl rfl rfl rfl rfl rfl rfl (Nat.le_of_ble_eq_true rfl) ?_
    refine c_m_isAt3 (by omega) hB (g := p 1 i - 1) hi hw (by omega) hE (fun ha_2 hb_2 => ?_) (fun ha_2 hb_2 => ?_) (fun ha_2 hb_2 => ?_)
    · show am_G _ M_X10_goesOn _ 105 [some (.ref 0), some (.int (nI (60 * j + i))), some (.int (nI w)), some (.int (nI 3)), none] [.int (nI 1)] σ
      refine am_run 3 (pc' := 110) (ls' := [some (.ref 0), some (.int (nI (60 * j + i))), some (.int (nI w)), some (.int (nI 3)), some (.int (nI 1))]) (st' := [.int (nI 1), .int (nI 1)]) (σ' := σ) rfl ?_
      refine am_ic (ty := 113) (tn := 120) rfl (by decide) rfl rfl (fun (h_3 : nI 1 = nI 1) => ?_) (fun (h_3 : ¬ (nI 1 = nI 1)) => ?_)
      rotate_left
      · exact absurd (by decide) h_3
      refine am_run 1 (pc' := 114) (ls' := [some (.ref 0), some (.int (nI (60 * j + i))), some (.int (nI w)), some (.int (nI 3)), some (.int (nI 1))]) (st' := [.int (nI 1)]) (σ' := σ) rfl ?_
      refine am_invs (y := 191) (as := [.int (nI 1)]) (rest := []) rfl rfl rfl rfl rfl rfl (Nat.le_of_ble_eq_true rfl) ?_
      refine c_m_code (by omega) (k := 1) (by first | omega | decide | exact pow_lt_256 (by omega) | exact or_lt8 (by omega) (by omega) | exact or_lt7 (by omega) (by omega) | exact mx_lt (by omega) (by omega) | exact ct_lt (by omega) | exact or_lt7 (cl_lt (by omega)) (by omega) | exact cl_lt (by omega) | exact or_lt7 (cl_lt (by omega)) (tb_lt _)) ?_
      show am_G _ M_X10_goesOn _ 117 [some (.ref 0), some (.int (nI (60 * j + i))), some (.int (nI w)), some (.int (nI 3)), some (.int (nI 1))] [.int (nI (eM (r_cd 1)))] σ
      refine am_run 1 (pc' := 140) (ls' := [some (.ref 0), some (.int (nI (60 * j + i))), some (.int (nI w)), some (.int (nI 3)), some (.int (nI 1))]) (st' := [.int (nI (eM (r_cd 1)))]) (σ' := σ) rfl ?_
      refine am_reti rfl rfl ?_
      have e : anB p (an p 61) i s false E.1 E.2 = (r_cd 1) := by
        refine (anB_38 h_1).trans ?_
        first | rfl | (simp only [*, if_true, if_false, ne_eq, not_false_eq_true, not_true_eq_false, true_or, false_or, or_false, or_true, or_self, and_true, true_and, and_false, false_and, and_self, Bool.false_eq_true, Bool.true_eq_false, reduceIte, Bool.and_true, Bool.and_false, Bool.true_and, Bool.false_and]; done) | (simp only [*, if_true, if_false, ne_eq, not_false_eq_true, not_true_eq_false, true_or, false_or, or_false, or_true, or_self, and_true, true_and, and_false, false_and, and_self, Bool.false_eq_true, Bool.true_eq_false, reduceIte, Bool.and_true, Bool.and_false, Bool.true_and, Bool.false_and]; rfl) | (simp only [*, if_true, if_false, ne_eq, not_false_eq_true, not_true_eq_false, true_or, false_or, or_false, or_true, or_self, and_true, true_and, and_false, false_and, and_self, Bool.false_eq_true, Bool.true_eq_false, reduceIte, Bool.and_true, Bool.and_false, Bool.true_and, Bool.false_and]; exact abt_or _) | (simp only [*, r_weakP, r_weakU, if_true, if_false, ne_eq, not_false_eq_true, not_true_eq_false, true_or, false_or, or_false, or_true, or_self, and_true, true_and, and_false, false_and, and_self, Bool.false_eq_true, Bool.true_eq_false, reduceIte, Bool.and_true, Bool.and_false, Bool.true_and, Bool.false_and]; rfl)
      rw [e] at hq
      exact hq
    · show am_G _ M_X10_goesOn _ 105 [some (.ref 0), some (.int (nI (60 * j + i))), some (.int (nI w)), some (.int (nI 3)), none] [.int (nI 2)] σ
      refine am_run 3 (pc' := 110) (ls' := [some (.ref 0), some (.int (nI (60 * j + i))), some (.int (nI w)), some (.int (nI 3)), some (.int (nI 2))]) (st' := [.int (nI 1), .int (nI 2)]) (σ' := σ) rfl ?_
      refine am_ic (ty := 113) (tn := 120) rfl (by decide) rfl rfl (fun (h_4 : nI 2 = nI 1) => ?_) (fun (h_4 : ¬ (nI 2 = nI 1)) => ?_)
      · exact absurd h_4 (by decide)
      refine am_run 2 (pc' := 123) (ls' := [some (.ref 0), some (.int (nI (60 * j + i))), some (.int (nI w)), some (.int (nI 3)), some (.int (nI 2))]) (st' := [.int (nI 2), .int (nI 2)]) (σ' := σ) rfl ?_
      refine am_ic (ty := 126) (tn := 133) rfl (by decide) rfl rfl (fun (h_5 : nI 2 = nI 2) => ?_) (fun (h_5 : ¬ (nI 2 = nI 2)) => ?_)
      rotate_left
      · exact absurd (by decide) h_5
      refine am_run 1 (pc' := 127) (ls' := [some (.ref 0), some (.int (nI (60 * j + i))), some (.int (nI w)), some (.int (nI 3)), some (.int (nI 2))]) (st' := [.int (nI 2)]) (σ' := σ) rfl ?_
      refine am_invs (y := 191) (as := [.int (nI 2)]) (rest := []) rfl rfl rfl rfl rfl rfl (Nat.le_of_ble_eq_true rfl) ?_
      refine c_m_code (by omega) (k := 2) (by first | omega | decide | exact pow_lt_256 (by omega) | exact or_lt8 (by omega) (by omega) | exact or_lt7 (by omega) (by omega) | exact mx_lt (by omega) (by omega) | exact ct_lt (by omega) | exact or_lt7 (cl_lt (by omega)) (by omega) | exact cl_lt (by omega) | exact or_lt7 (cl_lt (by omega)) (tb_lt _)) ?_
      show am_G _ M_X10_goesOn _ 130 [some (.ref 0), some (.int (nI (60 * j + i))), some (.int (nI w)), some (.int (nI 3)), some (.int (nI 2))] [.int (nI (eM (r_cd 2)))] σ
      refine am_run 1 (pc' := 140) (ls' := [some (.ref 0), some (.int (nI (60 * j + i))), some (.int (nI w)), some (.int (nI 3)), some (.int (nI 2))]) (st' := [.int (nI (eM (r_cd 2)))]) (σ' := σ) rfl ?_
      refine am_reti rfl rfl ?_
      have e : anB p (an p 61) i s false E.1 E.2 = (r_cd 2) := by
        refine (anB_38 h_1).trans ?_
        first | rfl | (simp only [*, if_true, if_false, ne_eq, not_false_eq_true, not_true_eq_false, true_or, false_or, or_false, or_true, or_self, and_true, true_and, and_false, false_and, and_self, Bool.false_eq_true, Bool.true_eq_false, reduceIte, Bool.and_true, Bool.and_false, Bool.true_and, Bool.false_and]; done) | (simp only [*, if_true, if_false, ne_eq, not_false_eq_true, not_true_eq_false, true_or, false_or, or_false, or_true, or_self, and_true, true_and, and_false, false_and, and_self, Bool.false_eq_true, Bool.true_eq_false, reduceIte, Bool.and_true, Bool.and_false, Bool.true_and, Bool.false_and]; rfl) | (simp only [*, if_true, if_false, ne_eq, not_false_eq_true, not_true_eq_false, true_or, false_or, or_false, or_true, or_self, and_true, true_and, and_false, false_and, and_self, Bool.false_eq_true, Bool.true_eq_false, reduceIte, Bool.and_true, Bool.and_false, Bool.true_and, Bool.false_and]; exact abt_or _) | (simp only [*, r_weakP, r_weakU, if_true, if_false, ne_eq, not_false_eq_true, not_true_eq_false, true_or, false_or, or_false, or_true, or_self, and_true, true_and, and_false, false_and, and_self, Bool.false_eq_true, Bool.true_eq_false, reduceIte, Bool.and_true, Bool.and_false, Bool.true_and, Bool.false_and]; rfl)
      rw [e] at hq
      exact hq
    · show am_G _ M_X10_goesOn _ 105 [some (.ref 0), some (.int (nI (60 * j + i))), some (.int (nI w)), some (.int (nI 3)), none] [.int (nI 0)] σ
      refine am_run 3 (pc' := 110) (ls' := [some (.ref 0), some (.int (nI (60 * j + i))), some (.int (nI w)), some (.int (nI 3)), some (.int (nI 0))]) (st' := [.int (nI 1), .int (nI 0)]) (σ' := σ) rfl ?_
      refine am_ic (ty := 113) (tn := 120) rfl (by decide) rfl rfl (fun (h_6 : nI 0 = nI 1) => ?_) (fun (h_6 : ¬ (nI 0 = nI 1)) => ?_)
      · exact absurd h_6 (by decide)
      refine am_run 2 (pc' := 123) (ls' := [some (.ref 0), some (.int (nI (60 * j + i))), some (.int (nI w)), some (.int (nI 3)), some (.int (nI 0))]) (st' := [.int (nI 2), .int (nI 0)]) (σ' := σ) rfl ?_
      refine am_ic (ty := 126) (tn := 133) rfl (by decide) rfl rfl (fun (h_7 : nI 0 = nI 2) => ?_) (fun (h_7 : ¬ (nI 0 = nI 2)) => ?_)
      · exact absurd h_7 (by decide)
      refine am_run 4 (pc' := 137) (ls' := [some (.ref 0), some (.int (nI (60 * j + i))), some (.int (nI w)), some (.int (nI 3)), some (.int (nI 0))]) (st' := [.int (nI 3), .int (nI 0), .int (nI 0), .int (nI 0)]) (σ' := σ) rfl ?_
      refine am_invs (y := 184) (as := [.int (nI 0), .int (nI 0), .int (nI 0), .int (nI 3)]) (rest := []) rfl rfl rfl rfl rfl rfl (Nat.le_of_ble_eq_true rfl) ?_
      refine c_m_packed (by omega) (m := 0) (c := 0) (k := 0) (q := 3) (by first | omega | decide | exact pow_lt_256 (by omega) | exact or_lt8 (by omega) (by omega) | exact or_lt7 (by omega) (by omega) | exact mx_lt (by omega) (by omega) | exact ct_lt (by omega) | exact or_lt7 (cl_lt (by omega)) (by omega) | exact cl_lt (by omega) | exact or_lt7 (cl_lt (by omega)) (tb_lt _)) (by first | omega | decide | exact pow_lt_256 (by omega) | exact or_lt8 (by omega) (by omega) | exact or_lt7 (by omega) (by omega) | exact mx_lt (by omega) (by omega) | exact ct_lt (by omega) | exact or_lt7 (cl_lt (by omega)) (by omega) | exact cl_lt (by omega) | exact or_lt7 (cl_lt (by omega)) (tb_lt _)) (by first | omega | decide | exact pow_lt_256 (by omega) | exact or_lt8 (by omega) (by omega) | exact or_lt7 (by omega) (by omega) | exact mx_lt (by omega) (by omega) | exact ct_lt (by omega) | exact or_lt7 (cl_lt (by omega)) (by omega) | exact cl_lt (by omega) | exact or_lt7 (cl_lt (by omega)) (tb_lt _)) (by first | omega | decide | exact pow_lt_256 (by omega) | exact or_lt8 (by omega) (by omega) | exact or_lt7 (by omega) (by omega) | exact mx_lt (by omega) (by omega) | exact ct_lt (by omega) | exact or_lt7 (cl_lt (by omega)) (by omega) | exact cl_lt (by omega) | exact or_lt7 (cl_lt (by omega)) (tb_lt _)) ?_
      show am_G _ M_X10_goesOn _ 140 [some (.ref 0), some (.int (nI (60 * j + i))), some (.int (nI w)), some (.int (nI 3)), some (.int (nI 0))] [.int (nI (eM (0, 0, 0, 3)))] σ
      refine am_reti rfl rfl ?_
      have e : anB p (an p 61) i s false E.1 E.2 = (0, 0, 0, 3) := by
        refine (anB_38 h_1).trans ?_
        first | rfl | (simp only [*, if_true, if_false, ne_eq, not_false_eq_true, not_true_eq_false, true_or, false_or, or_false, or_true, or_self, and_true, true_and, and_false, false_and, and_self, Bool.false_eq_true, Bool.true_eq_false, reduceIte, Bool.and_true, Bool.and_false, Bool.true_and, Bool.false_and]; done) | (simp only [*, if_true, if_false, ne_eq, not_false_eq_true, not_true_eq_false, true_or, false_or, or_false, or_true, or_self, and_true, true_and, and_false, false_and, and_self, Bool.false_eq_true, Bool.true_eq_false, reduceIte, Bool.and_true, Bool.and_false, Bool.true_and, Bool.false_and]; rfl) | (simp only [*, if_true, if_false, ne_eq, not_false_eq_true, not_true_eq_false, true_or, false_or, or_false, or_true, or_self, and_true, true_and, and_false, false_and, and_self, Bool.false_eq_true, Bool.true_eq_false, reduceIte, Bool.and_true, Bool.and_false, Bool.true_and, Bool.false_and]; exact abt_or _) | (simp only [*, r_weakP, r_weakU, if_true, if_false, ne_eq, not_false_eq_true, not_true_eq_false, true_or, false_or, or_false, or_true, or_self, and_true, true_and, and_false, false_and, and_self, Bool.false_eq_true, Bool.true_eq_false, reduceIte, Bool.and_true, Bool.and_false, Bool.true_and, Bool.false_and]; rfl)
      rw [e] at hq
      exact hq
  have h_1 : ¬ (p 0 i = 38) := fun z => h_1 ((nI_eq (by omega) (by omega)).mpr z)
  refine am_sw1 (k := nI 42) (tgt := 264) rfl (by decide) (by decide) rfl (fun (h_8 : nI (p 0 i) = nI 42) => ?_) (fun (h_8 : ¬ (nI (p 0 i) = nI 42)) => ?_)
  · have h_8 : p 0 i = 42 := (nI_eq (by omega) (by omega)).mp h_8
    refine am_run 5 (pc' := 271) (ls' := [some (.ref 0), some (.int (nI (60 * j + i))), some (.int (nI w)), some (.int (nI 3)), none]) (st' := [.int (nI (60 * j + i)), .ref 7, .ref 0, .ref 0]) (σ' := σ) rfl ?_
    refine am_ialdN (n := 180) (v := oI (p 2 i)) rfl rfl rfl (by omega) m2 (by decide) ?_
    refine am_run 2 (pc' := 274) (ls' := [some (.ref 0), some (.int (nI (60 * j + i))), some (.int (nI w)), some (.int (nI 3)), none]) (st' := [.int (nI 3), .int (nI w), .int (oI (p 2 i)), .ref 0, .ref 0]) (σ' := σ) rfl ?_
    refine am_invv (y := 190) (b := 0) (as := [.int (oI (p 2 i)), .int (nI w), .int (nI 3)]) (rest := [.ref 0]) rfl rfl rfl rfl rfl rfl rfl (Nat.le_of_ble_eq_true rfl) ?_
    refine c_m_laid (by omega) hB w2 hw (by decide) (L2 (by omega) (by first | assumption | exact V2 (by omega) | exact V3 (by omega) (by assumption))).2 (fun r9 hr9 ok9 iv9 => ?_)
    obtain ⟨x9a, x9b, x9c, x9d⟩ := id ok9
    show am_G _ M_X10_goesOn _ 277 [some (.ref 0), some (.int (nI (60 * j + i))), some (.int (nI w)), some (.int (nI 3)), none] [.int (nI (eM r9)), .ref 0] σ
    refine am_run 3 (pc' := 282) (ls' := [some (.ref 0), some (.int (nI (60 * j + i))), some (.int (nI w)), some (.int (nI 3)), none]) (st' := [.int (nI (60 * j + i)), .ref 7, .int (nI (eM r9)), .ref 0]) (σ' := σ) rfl ?_
    refine am_ialdN (n := 180) (v := oI (p 2 i)) rfl rfl rfl (by omega) m2 (by decide) ?_
    refine am_run 3 (pc' := 286) (ls' := [some (.ref 0), some (.int (nI (60 * j + i))), some (.int (nI w)), some (.int (nI 3)), none]) (st' := [.int (nI 2), .int (nI 3), .int (nI w), .int (oI (p 2 i)), .int (nI (eM r9)), .ref 0]) (σ' := σ) rfl ?_
    refine am_ic (ty := 289) (tn := 293) rfl (by decide) rfl rfl (fun (h_10 : nI 3 = nI 2) => ?_) (fun (h_10 : ¬ (nI 3 = nI 2)) => ?_)
    · exact absurd h_10 (by decide)
    refine am_run 1 (pc' := 294) (ls' := [some (.ref 0), some (.int (nI (60 * j + i))), some (.int (nI w)), some (.int (nI 3)), none]) (st' := [.int (nI 0), .int (nI w), .int (oI (p 2 i)), .int (nI (eM r9)), .ref 0]) (σ' := σ) rfl ?_
    refine am_invv (y := 195) (b := 0) (as := [.int (nI (eM r9)), .int (oI (p 2 i)), .int (nI w), .int (nI 0)]) (rest := []) rfl rfl rfl rfl rfl rfl rfl (Nat.le_of_ble_eq_true rfl) ?_
    refine c_m_behind_false (by omega) hB ok9 iv9 w2 hw (K2 (by omega)).1 (K2 (by omega)).2 ?_
    show am_G _ M_X10_goesOn _ 297 [some (.ref 0), some (.int (nI (60 * j + i))), some (.int (nI w)), some (.int (nI 3)), none] [.int (nI (eM (r_flw r9 (an p 61 (p 2 i) ST (false && me r9) E.1 E.2))))] σ
    refine am_reti rfl rfl ?_
    have e : anB p (an p 61) i s false E.1 E.2 = (r_flw r9 (an p 61 (p 2 i) ST (false && me r9) E.1 E.2)) := by
      refine (anB_42 h_8).trans ?_
      first | rfl | (simp only [*, if_true, if_false, ne_eq, not_false_eq_true, not_true_eq_false, true_or, false_or, or_false, or_true, or_self, and_true, true_and, and_false, false_and, and_self, Bool.false_eq_true, Bool.true_eq_false, reduceIte, Bool.and_true, Bool.and_false, Bool.true_and, Bool.false_and]; done) | (simp only [*, if_true, if_false, ne_eq, not_false_eq_true, not_true_eq_false, true_or, false_or, or_false, or_true, or_self, and_true, true_and, and_false, false_and, and_self, Bool.false_eq_true, Bool.true_eq_false, reduceIte, Bool.and_true, Bool.and_false, Bool.true_and, Bool.false_and]; rfl) | (simp only [*, if_true, if_false, ne_eq, not_false_eq_true, not_true_eq_false, true_or, false_or, or_false, or_true, or_self, and_true, true_and, and_false, false_and, and_self, Bool.false_eq_true, Bool.true_eq_false, reduceIte, Bool.and_true, Bool.and_false, Bool.true_and, Bool.false_and]; exact abt_or _) | (simp only [*, r_weakP, r_weakU, if_true, if_false, ne_eq, not_false_eq_true, not_true_eq_false, true_or, false_or, or_false, or_true, or_self, and_true, true_and, and_false, false_and, and_self, Bool.false_eq_true, Bool.true_eq_false, reduceIte, Bool.and_true, Bool.and_false, Bool.true_and, Bool.false_and]; rfl)
    rw [e] at hq
    exact hq
  have h_8 : ¬ (p 0 i = 42) := fun z => h_8 ((nI_eq (by omega) (by omega)).mpr z)
  refine am_sw1 (k := nI 46) (tgt := 88) rfl (by decide) (by decide) rfl (fun (h_11 : nI (p 0 i) = nI 46) => ?_) (fun (h_11 : ¬ (nI (p 0 i) = nI 46)) => ?_)
  · have h_11 : p 0 i = 46 := (nI_eq (by omega) (by omega)).mp h_11
    refine am_run 1 (pc' := 89) (ls' := [some (.ref 0), some (.int (nI (60 * j + i))), some (.int (nI w)), some (.int (nI 3)), none]) (st' := [.int (nI 1)]) (σ' := σ) rfl ?_
    refine am_invs (y := 191) (as := [.int (nI 1)]) (rest := []) rfl rfl rfl rfl rfl rfl (Nat.le_of_ble_eq_true rfl) ?_
    refine c_m_code (by omega) (k := 1) (by first | omega | decide | exact pow_lt_256 (by omega) | exact or_lt8 (by omega) (by omega) | exact or_lt7 (by omega) (by omega) | exact mx_lt (by omega) (by omega) | exact ct_lt (by omega) | exact or_lt7 (cl_lt (by omega)) (by omega) | exact cl_lt (by omega) | exact or_lt7 (cl_lt (by omega)) (tb_lt _)) ?_
    show am_G _ M_X10_goesOn _ 92 [some (.ref 0), some (.int (nI (60 * j + i))), some (.int (nI w)), some (.int (nI 3)), none] [.int (nI (eM (r_cd 1)))] σ
    refine am_reti rfl rfl ?_
    have e : anB p (an p 61) i s false E.1 E.2 = (r_cd 1) := by
      refine (anB_46 h_11).trans ?_
      first | rfl | (simp only [*, if_true, if_false, ne_eq, not_false_eq_true, not_true_eq_false, true_or, false_or, or_false, or_true, or_self, and_true, true_and, and_false, false_and, and_self, Bool.false_eq_true, Bool.true_eq_false, reduceIte, Bool.and_true, Bool.and_false, Bool.true_and, Bool.false_and]; done) | (simp only [*, if_true, if_false, ne_eq, not_false_eq_true, not_true_eq_false, true_or, false_or, or_false, or_true, or_self, and_true, true_and, and_false, false_and, and_self, Bool.false_eq_true, Bool.true_eq_false, reduceIte, Bool.and_true, Bool.and_false, Bool.true_and, Bool.false_and]; rfl) | (simp only [*, if_true, if_false, ne_eq, not_false_eq_true, not_true_eq_false, true_or, false_or, or_false, or_true, or_self, and_true, true_and, and_false, false_and, and_self, Bool.false_eq_true, Bool.true_eq_false, reduceIte, Bool.and_true, Bool.and_false, Bool.true_and, Bool.false_and]; exact abt_or _) | (simp only [*, r_weakP, r_weakU, if_true, if_false, ne_eq, not_false_eq_true, not_true_eq_false, true_or, false_or, or_false, or_true, or_self, and_true, true_and, and_false, false_and, and_self, Bool.false_eq_true, Bool.true_eq_false, reduceIte, Bool.and_true, Bool.and_false, Bool.true_and, Bool.false_and]; rfl)
    rw [e] at hq
    exact hq
  have h_11 : ¬ (p 0 i = 46) := fun z => h_11 ((nI_eq (by omega) (by omega)).mpr z)
  refine am_sw1 (k := nI 59) (tgt := 176) rfl (by decide) (by decide) rfl (fun (h_12 : nI (p 0 i) = nI 59) => ?_) (fun (h_12 : ¬ (nI (p 0 i) = nI 59)) => ?_)
  · have h_12 : p 0 i = 59 := (nI_eq (by omega) (by omega)).mp h_12
    refine am_run 4 (pc' := 182) (ls' := [some (.ref 0), some (.int (nI (60 * j + i))), some (.int (nI w)), some (.int (nI 3)), none]) (st' := [.int (nI (60 * j + i)), .ref 7, .ref 0]) (σ' := σ) rfl ?_
    refine am_ialdN (n := 180) (v := oI (p 2 i)) rfl rfl rfl (by omega) m2 (by decide) ?_
    refine am_invv (y := 194) (b := 0) (as := [.int (oI (p 2 i))]) (rest := []) rfl rfl rfl rfl rfl rfl rfl (Nat.le_of_ble_eq_true rfl) ?_
    refine c_m_isLive (by omega) hB w2 (fun hl_13 => ?_) (fun hl_13 => ?_)
    · show am_G _ M_X10_goesOn _ 186 [some (.ref 0), some (.int (nI (60 * j + i))), some (.int (nI w)), some (.int (nI 3)), none] [.int (nI 1)] σ
      refine am_if (ty := 223) (tn := 189) rfl (by decide) rfl rfl (fun (h_14 : nI 1 = 0) => ?_) (fun (h_14 : ¬ (nI 1 = 0)) => ?_)
      · exact absurd h_14 (by decide)
      refine am_run 5 (pc' := 196) (ls' := [some (.ref 0), some (.int (nI (60 * j + i))), some (.int (nI w)), some (.int (nI 3)), none]) (st' := [.int (nI (60 * j + i)), .ref 7, .ref 0, .ref 0]) (σ' := σ) rfl ?_
      refine am_ialdN (n := 180) (v := oI (p 2 i)) rfl rfl rfl (by omega) m2 (by decide) ?_
      refine am_run 2 (pc' := 199) (ls' := [some (.ref 0), some (.int (nI (60 * j + i))), some (.int (nI w)), some (.int (nI 3)), none]) (st' := [.int (nI 3), .int (nI w), .int (oI (p 2 i)), .ref 0, .ref 0]) (σ' := σ) rfl ?_
      refine am_invv (y := 190) (b := 0) (as := [.int (oI (p 2 i)), .int (nI w), .int (nI 3)]) (rest := [.ref 0]) rfl rfl rfl rfl rfl rfl rfl (Nat.le_of_ble_eq_true rfl) ?_
      refine c_m_laid (by omega) hB w2 hw (by decide) (L2 (by omega) (by first | assumption | exact V2 (by omega) | exact V3 (by omega) (by assumption))).2 (fun r15 hr15 ok15 iv15 => ?_)
      obtain ⟨x15a, x15b, x15c, x15d⟩ := id ok15
      show am_G _ M_X10_goesOn _ 202 [some (.ref 0), some (.int (nI (60 * j + i))), some (.int (nI w)), some (.int (nI 3)), none] [.int (nI (eM r15)), .ref 0] σ
      refine am_run 3 (pc' := 207) (ls' := [some (.ref 0), some (.int (nI (60 * j + i))), some (.int (nI w)), some (.int (nI 3)), none]) (st' := [.int (nI (60 * j + i)), .ref 8, .int (nI (eM r15)), .ref 0]) (σ' := σ) rfl ?_
      refine am_ialdN (n := 180) (v := oI (p 3 i)) rfl rfl rfl (by omega) m3 (by decide) ?_
      refine am_run 3 (pc' := 211) (ls' := [some (.ref 0), some (.int (nI (60 * j + i))), some (.int (nI w)), some (.int (nI 3)), none]) (st' := [.int (nI 2), .int (nI 3), .int (nI w), .int (oI (p 3 i)), .int (nI (eM r15)), .ref 0]) (σ' := σ) rfl ?_
      refine am_ic (ty := 214) (tn := 218) rfl (by decide) rfl rfl (fun (h_16 : nI 3 = nI 2) => ?_) (fun (h_16 : ¬ (nI 3 = nI 2)) => ?_)
      · exact absurd h_16 (by decide)
      refine am_run 1 (pc' := 219) (ls' := [some (.ref 0), some (.int (nI (60 * j + i))), some (.int (nI w)), some (.int (nI 3)), none]) (st' := [.int (nI 0), .int (nI w), .int (oI (p 3 i)), .int (nI (eM r15)), .ref 0]) (σ' := σ) rfl ?_
      refine am_invv (y := 195) (b := 0) (as := [.int (nI (eM r15)), .int (oI (p 3 i)), .int (nI w), .int (nI 0)]) (rest := []) rfl rfl rfl rfl rfl rfl rfl (Nat.le_of_ble_eq_true rfl) ?_
      refine c_m_behind_false (by omega) hB ok15 iv15 w3 hw (K3 (by omega)).1 (K3 (by omega)).2 ?_
      show am_G _ M_X10_goesOn _ 222 [some (.ref 0), some (.int (nI (60 * j + i))), some (.int (nI w)), some (.int (nI 3)), none] [.int (nI (eM (r_flw r15 (an p 61 (p 3 i) ST (false && me r15) E.1 E.2))))] σ
      refine am_reti rfl rfl ?_
      have e : anB p (an p 61) i s false E.1 E.2 = (r_flw r15 (an p 61 (p 3 i) ST (false && me r15) E.1 E.2)) := by
        refine (anB_59 h_12).trans ?_
        first | rfl | (simp only [*, if_true, if_false, ne_eq, not_false_eq_true, not_true_eq_false, true_or, false_or, or_false, or_true, or_self, and_true, true_and, and_false, false_and, and_self, Bool.false_eq_true, Bool.true_eq_false, reduceIte, Bool.and_true, Bool.and_false, Bool.true_and, Bool.false_and]; done) | (simp only [*, if_true, if_false, ne_eq, not_false_eq_true, not_true_eq_false, true_or, false_or, or_false, or_true, or_self, and_true, true_and, and_false, false_and, and_self, Bool.false_eq_true, Bool.true_eq_false, reduceIte, Bool.and_true, Bool.and_false, Bool.true_and, Bool.false_and]; rfl) | (simp only [*, if_true, if_false, ne_eq, not_false_eq_true, not_true_eq_false, true_or, false_or, or_false, or_true, or_self, and_true, true_and, and_false, false_and, and_self, Bool.false_eq_true, Bool.true_eq_false, reduceIte, Bool.and_true, Bool.and_false, Bool.true_and, Bool.false_and]; exact abt_or _) | (simp only [*, r_weakP, r_weakU, if_true, if_false, ne_eq, not_false_eq_true, not_true_eq_false, true_or, false_or, or_false, or_true, or_self, and_true, true_and, and_false, false_and, and_self, Bool.false_eq_true, Bool.true_eq_false, reduceIte, Bool.and_true, Bool.and_false, Bool.true_and, Bool.false_and]; rfl)
      rw [e] at hq
      exact hq
    · show am_G _ M_X10_goesOn _ 186 [some (.ref 0), some (.int (nI (60 * j + i))), some (.int (nI w)), some (.int (nI 3)), none] [.int (nI 0)] σ
      refine am_if (ty := 223) (tn := 189) rfl (by decide) rfl rfl (fun (h_17 : nI 0 = 0) => ?_) (fun (h_17 : ¬ (nI 0 = 0)) => ?_)
      rotate_left
      · exact absurd (by decide) h_17
      refine am_run 4 (pc' := 229) (ls' := [some (.ref 0), some (.int (nI (60 * j + i))), some (.int (nI w)), some (.int (nI 3)), none]) (st' := [.int (nI (60 * j + i)), .ref 8, .ref 0]) (σ' := σ) rfl ?_
      refine am_ialdN (n := 180) (v := oI (p 3 i)) rfl rfl rfl (by omega) m3 (by decide) ?_
      refine am_run 2 (pc' := 232) (ls' := [some (.ref 0), some (.int (nI (60 * j + i))), some (.int (nI w)), some (.int (nI 3)), none]) (st' := [.int (nI 3), .int (nI w), .int (oI (p 3 i)), .ref 0]) (σ' := σ) rfl ?_
      refine am_invv (y := 190) (b := 0) (as := [.int (oI (p 3 i)), .int (nI w), .int (nI 3)]) (rest := []) rfl rfl rfl rfl rfl rfl rfl (Nat.le_of_ble_eq_true rfl) ?_
      refine c_m_laid (by omega) hB w3 hw (by decide) (L3 (by omega) (by first | assumption | exact V2 (by omega) | exact V3 (by omega) (by assumption))).2 (fun r18 hr18 ok18 iv18 => ?_)
      obtain ⟨x18a, x18b, x18c, x18d⟩ := id ok18
      show am_G _ M_X10_goesOn _ 235 [some (.ref 0), some (.int (nI (60 * j + i))), some (.int (nI w)), some (.int (nI 3)), none] [.int (nI (eM r18))] σ
      refine am_reti rfl rfl ?_
      have e : anB p (an p 61) i s false E.1 E.2 = r18 := by
        refine (anB_59 h_12).trans ?_
        first | rfl | (simp only [*, if_true, if_false, ne_eq, not_false_eq_true, not_true_eq_false, true_or, false_or, or_false, or_true, or_self, and_true, true_and, and_false, false_and, and_self, Bool.false_eq_true, Bool.true_eq_false, reduceIte, Bool.and_true, Bool.and_false, Bool.true_and, Bool.false_and]; done) | (simp only [*, if_true, if_false, ne_eq, not_false_eq_true, not_true_eq_false, true_or, false_or, or_false, or_true, or_self, and_true, true_and, and_false, false_and, and_self, Bool.false_eq_true, Bool.true_eq_false, reduceIte, Bool.and_true, Bool.and_false, Bool.true_and, Bool.false_and]; rfl) | (simp only [*, if_true, if_false, ne_eq, not_false_eq_true, not_true_eq_false, true_or, false_or, or_false, or_true, or_self, and_true, true_and, and_false, false_and, and_self, Bool.false_eq_true, Bool.true_eq_false, reduceIte, Bool.and_true, Bool.and_false, Bool.true_and, Bool.false_and]; exact abt_or _) | (simp only [*, r_weakP, r_weakU, if_true, if_false, ne_eq, not_false_eq_true, not_true_eq_false, true_or, false_or, or_false, or_true, or_self, and_true, true_and, and_false, false_and, and_self, Bool.false_eq_true, Bool.true_eq_false, reduceIte, Bool.and_true, Bool.and_false, Bool.true_and, Bool.false_and]; rfl)
      rw [e] at hq
      exact hq
  have h_12 : ¬ (p 0 i = 59) := fun z => h_12 ((nI_eq (by omega) (by omega)).mpr z)
  refine am_sw1 (k := nI 63) (tgt := 141) rfl (by decide) (by decide) rfl (fun (h_19 : nI (p 0 i) = nI 63) => ?_) (fun (h_19 : ¬ (nI (p 0 i) = nI 63)) => ?_)
  · have h_19 : p 0 i = 63 := (nI_eq (by omega) (by omega)).mp h_19
    have hg1 : 1 ≤ p 1 i := w5 (by rw [h_19]; decide)
    refine am_run 5 (pc' := 148) (ls' := [some (.ref 0), some (.int (nI (60 * j + i))), some (.int (nI w)), some (.int (nI 3)), none]) (st' := [.int (nI (60 * j + i)), .ref 7, .ref 0, .ref 0]) (σ' := σ) rfl ?_
    refine am_ialdN (n := 180) (v := oI (p 2 i)) rfl rfl rfl (by omega) m2 (by decide) ?_
    refine am_invv (y := 194) (b := 0) (as := [.int (oI (p 2 i))]) (rest := [.ref 0]) rfl rfl rfl rfl rfl rfl rfl (Nat.le_of_ble_eq_true rfl) ?_
    refine c_m_isLive (by omega) hB w2 (fun hl_20 => ?_) (fun hl_20 => ?_)
    · show am_G _ M_X10_goesOn _ 152 [some (.ref 0), some (.int (nI (60 * j + i))), some (.int (nI w)), some (.int (nI 3)), none] [.int (nI 1), .ref 0] σ
      refine am_if (ty := 164) (tn := 155) rfl (by decide) rfl rfl (fun (h_21 : nI 1 = 0) => ?_) (fun (h_21 : ¬ (nI 1 = 0)) => ?_)
      · exact absurd h_21 (by decide)
      refine am_run 3 (pc' := 160) (ls' := [some (.ref 0), some (.int (nI (60 * j + i))), some (.int (nI w)), some (.int (nI 3)), none]) (st' := [.int (nI (60 * j + i)), .ref 7, .ref 0]) (σ' := σ) rfl ?_
      refine am_ialdN (n := 180) (v := oI (p 2 i)) rfl rfl rfl (by omega) m2 (by decide) ?_
      refine am_run 3 (pc' := 172) (ls' := [some (.ref 0), some (.int (nI (60 * j + i))), some (.int (nI w)), some (.int (nI 3)), none]) (st' := [.int (nI 3), .int (nI w), .int (oI (p 2 i)), .ref 0]) (σ' := σ) rfl ?_
      refine am_invv (y := 190) (b := 0) (as := [.int (oI (p 2 i)), .int (nI w), .int (nI 3)]) (rest := []) rfl rfl rfl rfl rfl rfl rfl (Nat.le_of_ble_eq_true rfl) ?_
      refine c_m_laid (by omega) hB w2 hw (by decide) (L2 (by omega) (by first | assumption | exact V2 (by omega) | exact V3 (by omega) (by assumption))).2 (fun r22 hr22 ok22 iv22 => ?_)
      obtain ⟨x22a, x22b, x22c, x22d⟩ := id ok22
      show am_G _ M_X10_goesOn _ 175 [some (.ref 0), some (.int (nI (60 * j + i))), some (.int (nI w)), some (.int (nI 3)), none] [.int (nI (eM r22))] σ
      refine am_reti rfl rfl ?_
      have e : anB p (an p 61) i s false E.1 E.2 = r22 := by
        refine (anB_63 h_19).trans ?_
        first | rfl | (simp only [*, if_true, if_false, ne_eq, not_false_eq_true, not_true_eq_false, true_or, false_or, or_false, or_true, or_self, and_true, true_and, and_false, false_and, and_self, Bool.false_eq_true, Bool.true_eq_false, reduceIte, Bool.and_true, Bool.and_false, Bool.true_and, Bool.false_and]; done) | (simp only [*, if_true, if_false, ne_eq, not_false_eq_true, not_true_eq_false, true_or, false_or, or_false, or_true, or_self, and_true, true_and, and_false, false_and, and_self, Bool.false_eq_true, Bool.true_eq_false, reduceIte, Bool.and_true, Bool.and_false, Bool.true_and, Bool.false_and]; rfl) | (simp only [*, if_true, if_false, ne_eq, not_false_eq_true, not_true_eq_false, true_or, false_or, or_false, or_true, or_self, and_true, true_and, and_false, false_and, and_self, Bool.false_eq_true, Bool.true_eq_false, reduceIte, Bool.and_true, Bool.and_false, Bool.true_and, Bool.false_and]; exact abt_or _) | (simp only [*, r_weakP, r_weakU, if_true, if_false, ne_eq, not_false_eq_true, not_true_eq_false, true_or, false_or, or_false, or_true, or_self, and_true, true_and, and_false, false_and, and_self, Bool.false_eq_true, Bool.true_eq_false, reduceIte, Bool.and_true, Bool.and_false, Bool.true_and, Bool.false_and]; rfl)
      rw [e] at hq
      exact hq
    · show am_G _ M_X10_goesOn _ 152 [some (.ref 0), some (.int (nI (60 * j + i))), some (.int (nI w)), some (.int (nI 3)), none] [.int (nI 0), .ref 0] σ
      refine am_if (ty := 164) (tn := 155) rfl (by decide) rfl rfl (fun (h_23 : nI 0 = 0) => ?_) (fun (h_23 : ¬ (nI 0 = 0)) => ?_)
      rotate_left
      · exact absurd (by decide) h_23
      refine am_run 3 (pc' := 169) (ls' := [some (.ref 0), some (.int (nI (60 * j + i))), some (.int (nI w)), some (.int (nI 3)), none]) (st' := [.int (nI (60 * j + i)), .ref 8, .ref 0]) (σ' := σ) rfl ?_
      refine am_ialdN (n := 180) (v := oI (p 3 i)) rfl rfl rfl (by omega) m3 (by decide) ?_
      refine am_run 2 (pc' := 172) (ls' := [some (.ref 0), some (.int (nI (60 * j + i))), some (.int (nI w)), some (.int (nI 3)), none]) (st' := [.int (nI 3), .int (nI w), .int (oI (p 3 i)), .ref 0]) (σ' := σ) rfl ?_
      refine am_invv (y := 190) (b := 0) (as := [.int (oI (p 3 i)), .int (nI w), .int (nI 3)]) (rest := []) rfl rfl rfl rfl rfl rfl rfl (Nat.le_of_ble_eq_true rfl) ?_
      refine c_m_laid (by omega) hB w3 hw (by decide) (L3 (by omega) (by first | assumption | exact V2 (by omega) | exact V3 (by omega) (by assumption))).2 (fun r24 hr24 ok24 iv24 => ?_)
      obtain ⟨x24a, x24b, x24c, x24d⟩ := id ok24
      show am_G _ M_X10_goesOn _ 175 [some (.ref 0), some (.int (nI (60 * j + i))), some (.int (nI w)), some (.int (nI 3)), none] [.int (nI (eM r24))] σ
      refine am_reti rfl rfl ?_
      have e : anB p (an p 61) i s false E.1 E.2 = r24 := by
        refine (anB_63 h_19).trans ?_
        first | rfl | (simp only [*, if_true, if_false, ne_eq, not_false_eq_true, not_true_eq_false, true_or, false_or, or_false, or_true, or_self, and_true, true_and, and_false, false_and, and_self, Bool.false_eq_true, Bool.true_eq_false, reduceIte, Bool.and_true, Bool.and_false, Bool.true_and, Bool.false_and]; done) | (simp only [*, if_true, if_false, ne_eq, not_false_eq_true, not_true_eq_false, true_or, false_or, or_false, or_true, or_self, and_true, true_and, and_false, false_and, and_self, Bool.false_eq_true, Bool.true_eq_false, reduceIte, Bool.and_true, Bool.and_false, Bool.true_and, Bool.false_and]; rfl) | (simp only [*, if_true, if_false, ne_eq, not_false_eq_true, not_true_eq_false, true_or, false_or, or_false, or_true, or_self, and_true, true_and, and_false, false_and, and_self, Bool.false_eq_true, Bool.true_eq_false, reduceIte, Bool.and_true, Bool.and_false, Bool.true_and, Bool.false_and]; exact abt_or _) | (simp only [*, r_weakP, r_weakU, if_true, if_false, ne_eq, not_false_eq_true, not_true_eq_false, true_or, false_or, or_false, or_true, or_self, and_true, true_and, and_false, false_and, and_self, Bool.false_eq_true, Bool.true_eq_false, reduceIte, Bool.and_true, Bool.and_false, Bool.true_and, Bool.false_and]; rfl)
      rw [e] at hq
      exact hq
  have h_19 : ¬ (p 0 i = 63) := fun z => h_19 ((nI_eq (by omega) (by omega)).mpr z)
  refine am_sw1 (k := nI 64) (tgt := 314) rfl (by decide) (by decide) rfl (fun (h_25 : nI (p 0 i) = nI 64) => ?_) (fun (h_25 : ¬ (nI (p 0 i) = nI 64)) => ?_)
  · have h_25 : p 0 i = 64 := (nI_eq (by omega) (by omega)).mp h_25
    have hg1 : 1 ≤ p 1 i := w5 (by rw [h_25]; decide)
    refine am_run 4 (pc' := 318) (ls' := [some (.ref 0), some (.int (nI (60 * j + i))), some (.int (nI w)), some (.int (nI 3)), none]) (st' := [.int (nI 3), .int (nI w), .int (nI (60 * j + i)), .ref 0]) (σ' := σ) rfl ?_
    refine am_invv (y := 206) (b := 0) (as := [.int (nI (60 * j + i)), .int (nI w), .int (nI 3)]) (rest := []) rfl rfl rfl rfl rfl rfl rfl (Nat.le_of_ble_eq_true rfl) ?_
    refine c_m_broken3 (by omega) hB hi hw3 hE hs1 h_25 L2 L3 V2 V3 ?_
    show am_G _ M_X10_goesOn _ 321 [some (.ref 0), some (.int (nI (60 * j + i))), some (.int (nI w)), some (.int (nI 3)), none] [.int (nI (eM (anB p (an p 61) i s false E.1 E.2)))] σ
    refine am_reti rfl rfl ?_
    exact hq
  have h_25 : ¬ (p 0 i = 64) := fun z => h_25 ((nI_eq (by omega) (by omega)).mpr z)
  refine am_sw1 (k := nI 94) (tgt := 298) rfl (by decide) (by decide) rfl (fun (h_26 : nI (p 0 i) = nI 94) => ?_) (fun (h_26 : ¬ (nI (p 0 i) = nI 94)) => ?_)
  · have h_26 : p 0 i = 94 := (nI_eq (by omega) (by omega)).mp h_26
    refine am_run 4 (pc' := 304) (ls' := [some (.ref 0), some (.int (nI (60 * j + i))), some (.int (nI w)), some (.int (nI 3)), none]) (st' := [.int (nI (60 * j + i)), .ref 7, .ref 0]) (σ' := σ) rfl ?_
    refine am_ialdN (n := 180) (v := oI (p 2 i)) rfl rfl rfl (by omega) m2 (by decide) ?_
    refine am_run 2 (pc' := 307) (ls' := [some (.ref 0), some (.int (nI (60 * j + i))), some (.int (nI w)), some (.int (nI 3)), none]) (st' := [.int (nI 3), .int (nI w), .int (oI (p 2 i)), .ref 0]) (σ' := σ) rfl ?_
    refine am_invv (y := 190) (b := 0) (as := [.int (oI (p 2 i)), .int (nI w), .int (nI 3)]) (rest := []) rfl rfl rfl rfl rfl rfl rfl (Nat.le_of_ble_eq_true rfl) ?_
    refine c_m_laid (by omega) hB w2 hw (by decide) (L2 (by omega) (by first | assumption | exact V2 (by omega) | exact V3 (by omega) (by assumption))).2 (fun r27 hr27 ok27 iv27 => ?_)
    obtain ⟨x27a, x27b, x27c, x27d⟩ := id ok27
    show am_G _ M_X10_goesOn _ 310 [some (.ref 0), some (.int (nI (60 * j + i))), some (.int (nI w)), some (.int (nI 3)), none] [.int (nI (eM r27))] σ
    refine am_invs (y := 204) (as := [.int (nI (eM r27))]) (rest := []) rfl rfl rfl rfl rfl rfl (Nat.le_of_ble_eq_true rfl) ?_
    refine c_m_trapped (by omega) (a := r27) ok27 ?_
    show am_G _ M_X10_goesOn _ 313 [some (.ref 0), some (.int (nI (60 * j + i))), some (.int (nI w)), some (.int (nI 3)), none] [.int (nI (eM (r_trap r27)))] σ
    refine am_reti rfl rfl ?_
    have e : anB p (an p 61) i s false E.1 E.2 = (r_trap r27) := by
      refine (anB_94 h_26).trans ?_
      first | rfl | (simp only [*, if_true, if_false, ne_eq, not_false_eq_true, not_true_eq_false, true_or, false_or, or_false, or_true, or_self, and_true, true_and, and_false, false_and, and_self, Bool.false_eq_true, Bool.true_eq_false, reduceIte, Bool.and_true, Bool.and_false, Bool.true_and, Bool.false_and]; done) | (simp only [*, if_true, if_false, ne_eq, not_false_eq_true, not_true_eq_false, true_or, false_or, or_false, or_true, or_self, and_true, true_and, and_false, false_and, and_self, Bool.false_eq_true, Bool.true_eq_false, reduceIte, Bool.and_true, Bool.and_false, Bool.true_and, Bool.false_and]; rfl) | (simp only [*, if_true, if_false, ne_eq, not_false_eq_true, not_true_eq_false, true_or, false_or, or_false, or_true, or_self, and_true, true_and, and_false, false_and, and_self, Bool.false_eq_true, Bool.true_eq_false, reduceIte, Bool.and_true, Bool.and_false, Bool.true_and, Bool.false_and]; exact abt_or _) | (simp only [*, r_weakP, r_weakU, if_true, if_false, ne_eq, not_false_eq_true, not_true_eq_false, true_or, false_or, or_false, or_true, or_self, and_true, true_and, and_false, false_and, and_self, Bool.false_eq_true, Bool.true_eq_false, reduceIte, Bool.and_true, Bool.and_false, Bool.true_and, Bool.false_and]; rfl)
    rw [e] at hq
    exact hq
  have h_26 : ¬ (p 0 i = 94) := fun z => h_26 ((nI_eq (by omega) (by omega)).mpr z)
  refine am_sw1 (k := nI 124) (tgt := 236) rfl (by decide) (by decide) rfl (fun (h_28 : nI (p 0 i) = nI 124) => ?_) (fun (h_28 : ¬ (nI (p 0 i) = nI 124)) => ?_)
  · have h_28 : p 0 i = 124 := (nI_eq (by omega) (by omega)).mp h_28
    refine am_run 4 (pc' := 242) (ls' := [some (.ref 0), some (.int (nI (60 * j + i))), some (.int (nI w)), some (.int (nI 3)), none]) (st' := [.int (nI (60 * j + i)), .ref 7, .ref 0]) (σ' := σ) rfl ?_
    refine am_ialdN (n := 180) (v := oI (p 2 i)) rfl rfl rfl (by omega) m2 (by decide) ?_
    refine am_run 2 (pc' := 245) (ls' := [some (.ref 0), some (.int (nI (60 * j + i))), some (.int (nI w)), some (.int (nI 3)), none]) (st' := [.int (nI 3), .int (nI w), .int (oI (p 2 i)), .ref 0]) (σ' := σ) rfl ?_
    refine am_invv (y := 205) (b := 0) (as := [.int (oI (p 2 i)), .int (nI w), .int (nI 3)]) (rest := []) rfl rfl rfl rfl rfl rfl rfl (Nat.le_of_ble_eq_true rfl) ?_
    refine c_m_onOf (by omega) hB (S := s) (u := false) (E := E) w2 hw (by decide) (fun z => (L2 (by omega) z).2) (fun r29 hr29 ok29 iv29 => ?_)
    obtain ⟨x29a, x29b, x29c, x29d⟩ := id ok29
    show am_G _ M_X10_goesOn _ 248 [some (.ref 0), some (.int (nI (60 * j + i))), some (.int (nI w)), some (.int (nI 3)), none] [.int (nI (eM r29))] σ
    refine am_run 4 (pc' := 254) (ls' := [some (.ref 0), some (.int (nI (60 * j + i))), some (.int (nI w)), some (.int (nI 3)), none]) (st' := [.int (nI (60 * j + i)), .ref 8, .ref 0, .int (nI (eM r29))]) (σ' := σ) rfl ?_
    refine am_ialdN (n := 180) (v := oI (p 3 i)) rfl rfl rfl (by omega) m3 (by decide) ?_
    refine am_run 2 (pc' := 257) (ls' := [some (.ref 0), some (.int (nI (60 * j + i))), some (.int (nI w)), some (.int (nI 3)), none]) (st' := [.int (nI 3), .int (nI w), .int (oI (p 3 i)), .ref 0, .int (nI (eM r29))]) (σ' := σ) rfl ?_
    refine am_invv (y := 205) (b := 0) (as := [.int (oI (p 3 i)), .int (nI w), .int (nI 3)]) (rest := [.int (nI (eM r29))]) rfl rfl rfl rfl rfl rfl rfl (Nat.le_of_ble_eq_true rfl) ?_
    refine c_m_onOf (by omega) hB (S := s) (u := false) (E := E) w3 hw (by decide) (fun z => (L3 (by omega) z).2) (fun r30 hr30 ok30 iv30 => ?_)
    obtain ⟨x30a, x30b, x30c, x30d⟩ := id ok30
    show am_G _ M_X10_goesOn _ 260 [some (.ref 0), some (.int (nI (60 * j + i))), some (.int (nI w)), some (.int (nI 3)), none] [.int (nI (eM r30)), .int (nI (eM r29))] σ
    refine am_invs (y := 197) (as := [.int (nI (eM r29)), .int (nI (eM r30))]) (rest := []) rfl rfl rfl rfl rfl rfl (Nat.le_of_ble_eq_true rfl) ?_
    refine c_m_beside (by omega) (a := r29) (b := r30) ok29 ok30 ?_
    show am_G _ M_X10_goesOn _ 263 [some (.ref 0), some (.int (nI (60 * j + i))), some (.int (nI w)), some (.int (nI 3)), none] [.int (nI (eM (r_par r29 r30)))] σ
    refine am_reti rfl rfl ?_
    have e : anB p (an p 61) i s false E.1 E.2 = (r_par r29 r30) := by
      refine (anB_124 h_28).trans ?_
      first | rfl | (simp only [*, if_true, if_false, ne_eq, not_false_eq_true, not_true_eq_false, true_or, false_or, or_false, or_true, or_self, and_true, true_and, and_false, false_and, and_self, Bool.false_eq_true, Bool.true_eq_false, reduceIte, Bool.and_true, Bool.and_false, Bool.true_and, Bool.false_and]; done) | (simp only [*, if_true, if_false, ne_eq, not_false_eq_true, not_true_eq_false, true_or, false_or, or_false, or_true, or_self, and_true, true_and, and_false, false_and, and_self, Bool.false_eq_true, Bool.true_eq_false, reduceIte, Bool.and_true, Bool.and_false, Bool.true_and, Bool.false_and]; rfl) | (simp only [*, if_true, if_false, ne_eq, not_false_eq_true, not_true_eq_false, true_or, false_or, or_false, or_true, or_self, and_true, true_and, and_false, false_and, and_self, Bool.false_eq_true, Bool.true_eq_false, reduceIte, Bool.and_true, Bool.and_false, Bool.true_and, Bool.false_and]; exact abt_or _) | (simp only [*, r_weakP, r_weakU, if_true, if_false, ne_eq, not_false_eq_true, not_true_eq_false, true_or, false_or, or_false, or_true, or_self, and_true, true_and, and_false, false_and, and_self, Bool.false_eq_true, Bool.true_eq_false, reduceIte, Bool.and_true, Bool.and_false, Bool.true_and, Bool.false_and]; rfl)
    rw [e] at hq
    exact hq
  have h_28 : ¬ (p 0 i = 124) := fun z => h_28 ((nI_eq (by omega) (by omega)).mpr z)
  refine am_sw1 (k := nI 126) (tgt := 322) rfl (by decide) (by decide) rfl (fun (h_31 : nI (p 0 i) = nI 126) => ?_) (fun (h_31 : ¬ (nI (p 0 i) = nI 126)) => ?_)
  · have h_31 : p 0 i = 126 := (nI_eq (by omega) (by omega)).mp h_31
    have hg1 : 1 ≤ p 1 i := w5 (by rw [h_31]; decide)
    refine am_run 4 (pc' := 326) (ls' := [some (.ref 0), some (.int (nI (60 * j + i))), some (.int (nI w)), some (.int (nI 3)), none]) (st' := [.int (nI 3), .int (nI w), .int (nI (60 * j + i)), .ref 0]) (σ' := σ) rfl ?_
    refine am_invv (y := 207) (b := 0) (as := [.int (nI (60 * j + i)), .int (nI w), .int (nI 3)]) (rest := []) rfl rfl rfl rfl rfl rfl rfl (Nat.le_of_ble_eq_true rfl) ?_
    refine c_m_weakened3 (by omega) hB hi hw3 hE hs1 h_31 L2 L3 V2 V3 ?_
    show am_G _ M_X10_goesOn _ 329 [some (.ref 0), some (.int (nI (60 * j + i))), some (.int (nI w)), some (.int (nI 3)), none] [.int (nI (eM (anB p (an p 61) i s false E.1 E.2)))] σ
    refine am_reti rfl rfl ?_
    exact hq
  have h_31 : ¬ (p 0 i = 126) := fun z => h_31 ((nI_eq (by omega) (by omega)).mpr z)
  refine am_sw0 (tgt := 330) (by decide) rfl ?_
  refine am_run 4 (pc' := 334) (ls' := [some (.ref 0), some (.int (nI (60 * j + i))), some (.int (nI w)), some (.int (nI 3)), none]) (st' := [.int (nI 3), .int (nI w), .int (nI (60 * j + i)), .ref 0]) (σ' := σ) rfl ?_
  refine am_invv (y := 202) (b := 0) (as := [.int (nI (60 * j + i)), .int (nI w), .int (nI 3)]) (rest := []) rfl rfl rfl rfl rfl rfl rfl (Nat.le_of_ble_eq_true rfl) ?_
  refine c_m_newLaid3 (by omega) hB hi hw3 hE (by first | exact h_31 | omega) (D36 (by omega)) (K36 (by omega)) ?_
  show am_G _ M_X10_goesOn _ 337 [some (.ref 0), some (.int (nI (60 * j + i))), some (.int (nI w)), some (.int (nI 3)), none] [.int (nI (eM (anB p (an p 61) i s false E.1 E.2)))] σ
  refine am_reti rfl rfl ?_
  exact hq

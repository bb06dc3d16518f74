set_option maxRecDepth 10000 in
set_option maxHeartbeats 2000000 in
theorem c_m_isAt_loop {d : Nat} {σ : am_M} {j s P A n : Nat} {p : Pg} {dp : Nat → Nat} {ow : Nat → Nat → Nat} (hB : MB σ j s P A p n dp ow) {i w g : Nat} (hi : i < n) (hw : w < 27) (hg : g < 8) {Q : am_Q} (hq : Q (some (.int (nI (sts (evn (ow i) w P A (dp i)) g)))) σ) : ∀ (m a : Nat), a + m = dp i → am_G d M_X10_isAt Q 14 [some (.ref 0), some (.int (nI (60 * j + i))), some (.int (nI w)), some (.int (nI g)), some (.int (nI (w / 3 ^ a))), some (.int (nI (sts (evn (ow i) w P A a) g))), some (.int (nI a))] [] σ
  | 0, a, hm => by
    obtain ⟨hj, hS, hW, hs, hN, hdj, hP, hA⟩ := id hB
    obtain ⟨hS1, hS2, hS3, hS4⟩ := id hS
    obtain ⟨⟨m0, m1, m2, m3, m4, m5, m6⟩, hdp, how⟩ := hN i hi
    obtain ⟨w0, w1, w2, w3, w4, w5, w6⟩ := hW.2 i hi
    have hn60 := hW.1
    have hsl := sts_lt (evn (ow i) w P A a) g
    have hwa : w / 3 ^ a ≤ w := Nat.div_le_self _ _
    refine am_run 4 (pc' := 21) (ls' := [some (.ref 0), some (.int (nI (60 * j + i))), some (.int (nI w)), some (.int (nI g)), some (.int (nI (w / 3 ^ a))), some (.int (nI (sts (evn (ow i) w P A a) g))), some (.int (nI a))]) (st' := [.int (nI (60 * j + i)), .ref 10, .int (nI a)]) (σ' := σ) rfl ?_
    refine am_ialdN (n := 180) (v := nI (dp i)) rfl rfl rfl (by omega) m5 (by decide) ?_
    refine am_ic (ty := 25) (tn := 63) rfl (by decide) rfl rfl (fun (h_1 : nI a < nI (dp i)) => ?_) (fun (h_1 : ¬ (nI a < nI (dp i))) => ?_)
    · have h_1 : a < dp i := (nI_ltI (by omega) (by omega)).mp h_1
      omega
    have h_1 : ¬ (a < dp i) := fun z => h_1 ((nI_ltI (by omega) (by omega)).mpr z)
    refine am_run 1 (pc' := 65) (ls' := [some (.ref 0), some (.int (nI (60 * j + i))), some (.int (nI w)), some (.int (nI g)), some (.int (nI (w / 3 ^ a))), some (.int (nI (sts (evn (ow i) w P A a) g))), some (.int (nI a))]) (st' := [.int (nI (sts (evn (ow i) w P A a) g))]) (σ' := σ) rfl ?_
    refine am_reti rfl rfl ?_
    have e : a = dp i := by omega
    subst e
    exact hq
  | m + 1, a, hm => by
    obtain ⟨hj, hS, hW, hs, hN, hdj, hP, hA⟩ := id hB
    obtain ⟨hS1, hS2, hS3, hS4⟩ := id hS
    obtain ⟨⟨m0, m1, m2, m3, m4, m5, m6⟩, hdp, how⟩ := hN i hi
    obtain ⟨w0, w1, w2, w3, w4, w5, w6⟩ := hW.2 i hi
    have hn60 := hW.1
    have hsl := sts_lt (evn (ow i) w P A a) g
    have hwa : w / 3 ^ a ≤ w := Nat.div_le_self _ _
    have hoa := how a (by omega)
    refine am_run 4 (pc' := 21) (ls' := [some (.ref 0), some (.int (nI (60 * j + i))), some (.int (nI w)), some (.int (nI g)), some (.int (nI (w / 3 ^ a))), some (.int (nI (sts (evn (ow i) w P A a) g))), some (.int (nI a))]) (st' := [.int (nI (60 * j + i)), .ref 10, .int (nI a)]) (σ' := σ) rfl ?_
    refine am_ialdN (n := 180) (v := nI (dp i)) rfl rfl rfl (by omega) m5 (by decide) ?_
    refine am_ic (ty := 25) (tn := 63) rfl (by decide) rfl rfl (fun (h_1 : nI a < nI (dp i)) => ?_) (fun (h_1 : ¬ (nI a < nI (dp i))) => ?_)
    rotate_left
    · have h_1 : ¬ (a < dp i) := fun z => h_1 ((nI_ltI (by omega) (by omega)).mpr z)
      omega
    have h_1 : a < dp i := (nI_ltI (by omega) (by omega)).mp h_1
    refine am_run 5 (pc' := 32) (ls' := [some (.ref 0), some (.int (nI (60 * j + i))), some (.int (nI w)), some (.int (nI g)), some (.int (nI (w / 3 ^ a))), some (.int (nI (sts (evn (ow i) w P A a) g))), some (.int (nI a))]) (st' := [.int (nI 3 * nI (60 * j + i)), .ref 11]) (σ' := σ) rfl ?_
    refine am_top (v' := nI (3 * (60 * j + i))) (am_nmul _ _) ?_
    refine am_run 2 (pc' := 35) (ls' := [some (.ref 0), some (.int (nI (60 * j + i))), some (.int (nI w)), some (.int (nI g)), some (.int (nI (w / 3 ^ a))), some (.int (nI (sts (evn (ow i) w P A a) g))), some (.int (nI a))]) (st' := [.int (nI (3 * (60 * j + i)) + nI a), .ref 11]) (σ' := σ) rfl ?_
    refine am_top (v' := nI (3 * (60 * j + i) + a)) (nI_add _ _) ?_
    refine am_ialdN (n := 540) (v := nI (ow i a)) rfl rfl rfl (by omega) (m6 a (by omega)) (by decide) ?_
    refine am_run 1 (pc' := 37) (ls' := [some (.ref 0), some (.int (nI (60 * j + i))), some (.int (nI w)), some (.int (nI g)), some (.int (nI (w / 3 ^ a))), some (.int (nI (sts (evn (ow i) w P A a) g))), some (.int (nI a))]) (st' := [.int (nI g), .int (nI (ow i a))]) (σ' := σ) rfl ?_
    refine am_ic (ty := 40) (tn := 47) rfl (by decide) rfl rfl (fun (h_2 : nI (ow i a) = nI g) => ?_) (fun (h_2 : ¬ (nI (ow i a) = nI g)) => ?_)
    · have h_2 : ow i a = g := (nI_eq (by omega) (by omega)).mp h_2
      refine am_run 3 (pc' := 44) (ls' := [some (.ref 0), some (.int (nI (60 * j + i))), some (.int (nI w)), some (.int (nI g)), some (.int (nI (w / 3 ^ a))), some (.int (nI (sts (evn (ow i) w P A a) g))), some (.int (nI a))]) (st' := [.int ((nI (w / 3 ^ a)) - (nI (w / 3 ^ a)) / (nI 3) * (nI 3))]) (σ' := σ) rfl ?_
      refine am_top (v' := nI (w / 3 ^ a % 3)) (pk_rem (by omega) (by decide) (by decide)) ?_
      refine am_run 5 (pc' := 55) (ls' := [some (.ref 0), some (.int (nI (60 * j + i))), some (.int (nI w)), some (.int (nI g)), some (.int (nI (w / 3 ^ a))), some (.int (nI (w / 3 ^ a % 3))), some (.int (nI a))]) (st' := [.int (nI (w / 3 ^ a) / nI 3)]) (σ' := σ) rfl ?_
      refine am_top (v' := nI (w / 3 ^ a / 3)) (pk_div (by omega) (by decide) (by decide)) ?_
      refine am_run 2 (pc' := 60) (ls' := [some (.ref 0), some (.int (nI (60 * j + i))), some (.int (nI w)), some (.int (nI g)), some (.int (nI (w / 3 ^ a / 3))), some (.int (nI (w / 3 ^ a % 3))), some (.int (nI a + nI 1))]) (st' := []) (σ' := σ) rfl ?_
      refine am_ls (ls' := [some (.ref 0), some (.int (nI (60 * j + i))), some (.int (nI w)), some (.int (nI g)), some (.int (nI (w / 3 ^ a / 3))), some (.int (nI (w / 3 ^ a % 3))), some (.int (nI (a + 1)))]) (by rw [nI_add]) ?_
      refine am_run 1 (pc' := 14) (ls' := [some (.ref 0), some (.int (nI (60 * j + i))), some (.int (nI w)), some (.int (nI g)), some (.int (nI (w / 3 ^ a / 3))), some (.int (nI (w / 3 ^ a % 3))), some (.int (nI (a + 1)))]) (st' := []) (σ' := σ) rfl ?_
      refine am_ls (ls' := [some (.ref 0), some (.int (nI (60 * j + i))), some (.int (nI w)), some (.int (nI g)), some (.int (nI (w / 3 ^ (a + 1)))), some (.int (nI (sts (evn (ow i) w P A (a + 1)) g))), some (.int (nI (a + 1)))]) ?_ ?_
      · have e1 : w / 3 ^ a / 3 = w / 3 ^ (a + 1) := by rw [Nat.pow_succ, Nat.div_div_eq_div_mul]
        have e2 : sts (evn (ow i) w P A (a + 1)) g = if ow i a = g then w / 3 ^ a % 3 else sts (evn (ow i) w P A a) g := sts_up (Nat.mod_lt _ (by decide)) g
        rw [e2, ← e1]
        first | (rw [if_pos (by assumption)]; done) | (rw [if_neg (by assumption)]; done)
      exact c_m_isAt_loop hB hi hw hg hq m (a + 1) (by omega)
    · have h_2 : ¬ (ow i a = g) := fun z => h_2 ((nI_eq (by omega) (by omega)).mpr z)
      refine am_run 5 (pc' := 55) (ls' := [some (.ref 0), some (.int (nI (60 * j + i))), some (.int (nI w)), some (.int (nI g)), some (.int (nI (w / 3 ^ a))), some (.int (nI (sts (evn (ow i) w P A a) g))), some (.int (nI a))]) (st' := [.int (nI (w / 3 ^ a) / nI 3)]) (σ' := σ) rfl ?_
      refine am_top (v' := nI (w / 3 ^ a / 3)) (pk_div (by omega) (by decide) (by decide)) ?_
      refine am_run 2 (pc' := 60) (ls' := [some (.ref 0), some (.int (nI (60 * j + i))), some (.int (nI w)), some (.int (nI g)), some (.int (nI (w / 3 ^ a / 3))), some (.int (nI (sts (evn (ow i) w P A a) g))), some (.int (nI a + nI 1))]) (st' := []) (σ' := σ) rfl ?_
      refine am_ls (ls' := [some (.ref 0), some (.int (nI (60 * j + i))), some (.int (nI w)), some (.int (nI g)), some (.int (nI (w / 3 ^ a / 3))), some (.int (nI (sts (evn (ow i) w P A a) g))), some (.int (nI (a + 1)))]) (by rw [nI_add]) ?_
      refine am_run 1 (pc' := 14) (ls' := [some (.ref 0), some (.int (nI (60 * j + i))), some (.int (nI w)), some (.int (nI g)), some (.int (nI (w / 3 ^ a / 3))), some (.int (nI (sts (evn (ow i) w P A a) g))), some (.int (nI (a + 1)))]) (st' := []) (σ' := σ) rfl ?_
      refine am_ls (ls' := [some (.ref 0), some (.int (nI (60 * j + i))), some (.int (nI w)), some (.int (nI g)), some (.int (nI (w / 3 ^ (a + 1)))), some (.int (nI (sts (evn (ow i) w P A (a + 1)) g))), some (.int (nI (a + 1)))]) ?_ ?_
      · have e1 : w / 3 ^ a / 3 = w / 3 ^ (a + 1) := by rw [Nat.pow_succ, Nat.div_div_eq_div_mul]
        have e2 : sts (evn (ow i) w P A (a + 1)) g = if ow i a = g then w / 3 ^ a % 3 else sts (evn (ow i) w P A a) g := sts_up (Nat.mod_lt _ (by decide)) g
        rw [e2, ← e1]
        first | (rw [if_pos (by assumption)]; done) | (rw [if_neg (by assumption)]; done)
      exact c_m_isAt_loop hB hi hw hg hq m (a + 1) (by omega)
set_option maxRecDepth 10000 in
set_option maxHeartbeats 2000000 in
theorem c_m_isAt {d : Nat} (hd : 1 ≤ d) {σ : am_M} {j s P A n : Nat} {p : Pg} {dp : Nat → Nat} {ow : Nat → Nat → Nat} (hB : MB σ j s P A p n dp ow) {i w g : Nat} (hi : i < n) (hw : w < 27) (hg : g < 8) {Q : am_Q} (hq : Q (some (.int (nI (sts (evn (ow i) w P A (dp i)) g)))) σ) : am_C d 192 [.ref 0, .int (nI (60 * j + i)), .int (nI w), .int (nI g)] σ Q := by
  obtain ⟨hj, hS, hW, hs, hN, hdj, hP, hA⟩ := id hB
  obtain ⟨hS1, hS2, hS3, hS4⟩ := id hS
  obtain ⟨⟨m0, m1, m2, m3, m4, m5, m6⟩, hdp, how⟩ := hN i hi
  obtain ⟨w0, w1, w2, w3, w4, w5, w6⟩ := hW.2 i hi
  have hn60 := hW.1
  refine am_enter' (M := M_X10_isAt) rfl rfl rfl (by omega) (ls := [some (.ref 0), some (.int (nI (60 * j + i))), some (.int (nI w)), some (.int (nI g)), none, none, none]) rfl (fun d' hd' => ?_)
  refine am_run 5 (pc' := 8) (ls' := [some (.ref 0), some (.int (nI (60 * j + i))), some (.int (nI w)), some (.int (nI g)), some (.int (nI w)), none, none]) (st' := [.int (nI g), .ref 29]) (σ' := σ) rfl ?_
  refine am_ialdN (n := 8) (v := nI (sts (P, A) g)) rfl rfl rfl (by omega) (hS3 g hg) (by decide) ?_
  refine am_run 3 (pc' := 14) (ls' := [some (.ref 0), some (.int (nI (60 * j + i))), some (.int (nI w)), some (.int (nI g)), some (.int (nI w)), some (.int (nI (sts (P, A) g))), some (.int (nI 0))]) (st' := []) (σ' := σ) rfl ?_
  refine am_ls (ls' := [some (.ref 0), some (.int (nI (60 * j + i))), some (.int (nI w)), some (.int (nI g)), some (.int (nI (w / 3 ^ 0))), some (.int (nI (sts (evn (ow i) w P A 0) g))), some (.int (nI 0))]) (by rw [Nat.pow_zero, Nat.div_one]; rfl) ?_
  exact c_m_isAt_loop hB hi hw hg hq (dp i) 0 (by omega)
set_option maxRecDepth 10000 in
set_option maxHeartbeats 2000000 in
theorem c_m_isLive {d : Nat} (hd : 2 ≤ d) {σ : am_M} {j s P A n : Nat} {p : Pg} {dp : Nat → Nat} {ow : Nat → Nat → Nat} (hB : MB σ j s P A p n dp ow) {x : Nat} (hx : x ≤ n) {Q : am_Q} (h1 : lv p x s = true → Q (some (.int (nI 1))) σ) (h0 : lv p x s = false → Q (some (.int (nI 0))) σ) : am_C d 194 [.ref 0, .int (oI x)] σ Q := by
  obtain ⟨hj, hS, hW, hs, hN, hdj, hP, hA⟩ := id hB
  obtain ⟨hS1, hS2, hS3, hS4⟩ := id hS
  cases x with
  | zero =>
    rw [oI_0]
    refine am_enter' (M := M_X10_isLive) rfl rfl rfl (by omega) (ls := [some (.ref 0), some (.int (-1))]) rfl (fun d' hd' => ?_)
    refine am_run 2 (pc' := 2) (ls' := [some (.ref 0), some (.int (-1))]) (st' := [.int (-1), .int (-1)]) (σ' := σ) rfl ?_
    refine am_ic (ty := 39) (tn := 5) rfl (by decide) rfl rfl (fun (h_1 : -1 = -1) => ?_) (fun (h_1 : ¬ (-1 = -1)) => ?_)
    rotate_left
    · exact absurd (by decide) h_1
    refine am_run 1 (pc' := 40) (ls' := [some (.ref 0), some (.int (-1))]) (st' := [.int (nI 0)]) (σ' := σ) rfl ?_
    refine am_retz rfl rfl (by decide) ?_
    exact h0 rfl
  | succ i =>
    rw [oI_s]
    have hi : i < n := by omega
    obtain ⟨⟨m0, m1, m2, m3, m4, m5, m6⟩, hdp, how⟩ := hN i hi
    obtain ⟨w0, w1, w2, w3, w4, w5, w6⟩ := hW.2 i hi
    have hn60 := hW.1
    have hand : p 4 i &&& s ≤ p 4 i := Nat.and_le_left
    have hlv : lv p (i + 1) s = !(p 4 i &&& s == 0) := rfl
    refine am_enter' (M := M_X10_isLive) rfl rfl rfl (by omega) (ls := [some (.ref 0), some (.int (nI i))]) rfl (fun d' hd' => ?_)
    refine am_run 2 (pc' := 2) (ls' := [some (.ref 0), some (.int (nI i))]) (st' := [.int (-1), .int (nI i)]) (σ' := σ) rfl ?_
    refine am_ic (ty := 39) (tn := 5) rfl (by decide) rfl rfl (fun (h_1 : nI i = -1) => ?_) (fun (h_1 : ¬ (nI i = -1)) => ?_)
    · exact absurd h_1 (am_nm1 (by omega))
    refine am_run 2 (pc' := 9) (ls' := [some (.ref 0), some (.int (nI i))]) (st' := [.int (σ.1 0 39)]) (σ' := σ) rfl ?_
    refine am_top (v' := nI s) hS2 ?_
    refine am_run 1 (pc' := 11) (ls' := [some (.ref 0), some (.int (nI i))]) (st' := [.int (nI 1048576), .int (nI s)]) (σ' := σ) rfl ?_
    refine am_ic (ty := 39) (tn := 14) rfl (by decide) rfl rfl (fun (h_2 : nI s = nI 1048576) => ?_) (fun (h_2 : ¬ (nI s = nI 1048576)) => ?_)
    · have h_2 : s = 1048576 := (nI_eq (by omega) (by omega)).mp h_2
      refine am_run 1 (pc' := 40) (ls' := [some (.ref 0), some (.int (nI i))]) (st' := [.int (nI 0)]) (σ' := σ) rfl ?_
      refine am_retz rfl rfl (by decide) ?_
      exact h0 (by first | (rw [show s = 1048576 by assumption]; exact lv_ST hW hx) | (rw [hlv]; simp [*]; done))
    · have h_2 : ¬ (s = 1048576) := fun z => h_2 ((nI_eq (by omega) (by omega)).mpr z)
      refine am_run 4 (pc' := 22) (ls' := [some (.ref 0), some (.int (nI i))]) (st' := [.int (σ.1 0 38), .ref 13]) (σ' := σ) rfl ?_
      refine am_top (v' := nI j) hS1 ?_
      refine am_run 1 (pc' := 23) (ls' := [some (.ref 0), some (.int (nI i))]) (st' := [.int (nI i), .int (nI j), .ref 13]) (σ' := σ) rfl ?_
      refine am_invs (y := 158) (as := [.int (nI j), .int (nI i)]) (rest := [.ref 13]) rfl rfl rfl rfl rfl rfl (Nat.le_of_ble_eq_true rfl) ?_
      refine c_m_placeOf (by omega) ?_
      show am_G _ M_X10_isLive _ 26 [some (.ref 0), some (.int (nI i))] [.int (nI (60 * j + i)), .ref 13] σ
      refine am_ialdN (n := 180) (v := nI (p 4 i)) rfl rfl rfl (by omega) m4 (by decide) ?_
      refine am_run 2 (pc' := 31) (ls' := [some (.ref 0), some (.int (nI i))]) (st' := [.int (σ.1 0 39), .int (nI (p 4 i))]) (σ' := σ) rfl ?_
      refine am_top (v' := nI s) hS2 ?_
      refine am_run 1 (pc' := 32) (ls' := [some (.ref 0), some (.int (nI i))]) (st' := [.int (nI (p 4 i) &&& nI s)]) (σ' := σ) rfl ?_
      refine am_top (v' := nI (p 4 i &&& s)) (nx_and _ _) ?_
      refine am_if (ty := 39) (tn := 35) rfl (by decide) rfl rfl (fun (h_3 : nI (p 4 i &&& s) = 0) => ?_) (fun (h_3 : ¬ (nI (p 4 i &&& s) = 0)) => ?_)
      · have h_3 : p 4 i &&& s = 0 := (am_n0 (by omega)).mp h_3
        refine am_run 1 (pc' := 40) (ls' := [some (.ref 0), some (.int (nI i))]) (st' := [.int (nI 0)]) (σ' := σ) rfl ?_
        refine am_retz rfl rfl (by decide) ?_
        exact h0 (by first | (rw [show s = 1048576 by assumption]; exact lv_ST hW hx) | (rw [hlv]; simp [*]; done))
      · have h_3 : ¬ (p 4 i &&& s = 0) := fun z => h_3 ((am_n0 (by omega)).mpr z)
        refine am_run 2 (pc' := 40) (ls' := [some (.ref 0), some (.int (nI i))]) (st' := [.int (nI 1)]) (σ' := σ) rfl ?_
        refine am_retz rfl rfl (by decide) ?_
        exact h1 (by rw [hlv]; simpa using h_3)
set_option maxRecDepth 10000 in
set_option maxHeartbeats 2000000 in
theorem c_m_laid {d : Nat} (hd : 2 ≤ d) {σ : am_M} {j s P A n : Nat} {p : Pg} {dp : Nat → Nat} {ow : Nat → Nat → Nat} (hB : MB σ j s P A p n dp ow) {x w m S : Nat} {u : Bool} {E : Nat × Nat} (hx : x ≤ n) (hw : w < 27) (hm : m < 4) (hv : KD σ p x w m S u E) {Q : am_Q} (hq : ∀ r, an p 61 x S u E.1 E.2 = r → ok4 r → inv4 r → Q (some (.int (nI (eM r)))) σ) : am_C d 190 [.ref 0, .int (oI x), .int (nI w), .int (nI m)] σ Q := by
  obtain ⟨hj, hS, hW, hs, hN, hdj, hP, hA⟩ := id hB
  obtain ⟨hS1, hS2, hS3, hS4⟩ := id hS
  have hn60 := hW.1
  have hq2 := hq _ rfl (an_ok hW 61 x S u E.1 E.2 hx) (an_inv hW 61 x S u E.1 E.2 hx)
  cases x with
  | zero =>
    rw [oI_0]
    refine am_enter' (M := M_X10_laid) rfl rfl rfl (by omega) (ls := [some (.ref 0), some (.int (-1)), some (.int (nI w)), some (.int (nI m))]) rfl (fun d' hd' => ?_)
    refine am_run 2 (pc' := 2) (ls' := [some (.ref 0), some (.int (-1)), some (.int (nI w)), some (.int (nI m))]) (st' := [.int (-1), .int (-1)]) (σ' := σ) rfl ?_
    refine am_ic (ty := 5) (tn := 16) rfl (by decide) rfl rfl (fun (h_1 : -1 = -1) => ?_) (fun (h_1 : ¬ (-1 = -1)) => ?_)
    rotate_left
    · exact absurd (by decide) h_1
    refine am_run 3 (pc' := 12) (ls' := [some (.ref 0), some (.int (-1)), some (.int (nI w)), some (.int (nI m))]) (st' := [.int (nI 6480), .ref 28]) (σ' := σ) rfl ?_
    refine am_ialdN (n := 6481) (v := nI (eM (r_cd 1))) rfl rfl rfl (by omega) hS4 (by decide) ?_
    refine am_run 1 (pc' := 27) (ls' := [some (.ref 0), some (.int (-1)), some (.int (nI w)), some (.int (nI m))]) (st' := [.int (nI (eM (r_cd 1)))]) (σ' := σ) rfl ?_
    refine am_reti rfl rfl ?_
    exact hq2
  | succ i =>
    rw [oI_s]
    have hv := hv.resolve_left (Nat.succ_ne_zero i)
    refine am_enter' (M := M_X10_laid) rfl rfl rfl (by omega) (ls := [some (.ref 0), some (.int (nI i)), some (.int (nI w)), some (.int (nI m))]) rfl (fun d' hd' => ?_)
    refine am_run 2 (pc' := 2) (ls' := [some (.ref 0), some (.int (nI i)), some (.int (nI w)), some (.int (nI m))]) (st' := [.int (-1), .int (nI i)]) (σ' := σ) rfl ?_
    refine am_ic (ty := 5) (tn := 16) rfl (by decide) rfl rfl (fun (h_1 : nI i = -1) => ?_) (fun (h_1 : ¬ (nI i = -1)) => ?_)
    · exact absurd h_1 (am_nm1 (by omega))
    refine am_run 5 (pc' := 23) (ls' := [some (.ref 0), some (.int (nI i)), some (.int (nI w)), some (.int (nI m))]) (st' := [.int (nI m), .int (nI w), .int (nI i), .ref 28]) (σ' := σ) rfl ?_
    refine am_invs (y := 189) (as := [.int (nI i), .int (nI w), .int (nI m)]) (rest := [.ref 28]) rfl rfl rfl rfl rfl rfl (Nat.le_of_ble_eq_true rfl) ?_
    refine c_m_cellOf (by omega) ?_
    show am_G _ M_X10_laid _ 26 [some (.ref 0), some (.int (nI i)), some (.int (nI w)), some (.int (nI m))] [.int (nI ((i * 27 + w) * 4 + m)), .ref 28] σ
    refine am_ialdN (n := 6481) (v := nI (eM (an p 61 (i + 1) S u E.1 E.2))) rfl rfl rfl (by omega) hv (by decide) ?_
    refine am_reti rfl rfl ?_
    exact hq2
set_option maxRecDepth 10000 in
set_option maxHeartbeats 2000000 in
theorem c_m_onOf {d : Nat} (hd : 3 ≤ d) {σ : am_M} {j s P A n : Nat} {p : Pg} {dp : Nat → Nat} {ow : Nat → Nat → Nat} (hB : MB σ j s P A p n dp ow) {x w m S : Nat} {u : Bool} {E : Nat × Nat} (hx : x ≤ n) (hw : w < 27) (hm : m < 4) (hv : lv p x s = true → KD σ p x w m S u E) {Q : am_Q} (hq : ∀ r, (if lv p x s = true then an p 61 x S u E.1 E.2 else r_cd 1) = r → ok4 r → inv4 r → Q (some (.int (nI (eM r)))) σ) : am_C d 205 [.ref 0, .int (oI x), .int (nI w), .int (nI m)] σ Q := by
  obtain ⟨hj, hS, hW, hs, hN, hdj, hP, hA⟩ := id hB
  obtain ⟨hS1, hS2, hS3, hS4⟩ := id hS
  refine am_enter' (M := M_X10_onOf) rfl rfl rfl (by omega) (ls := [some (.ref 0), some (.int (oI x)), some (.int (nI w)), some (.int (nI m))]) rfl (fun d' hd' => ?_)
  refine am_run 2 (pc' := 2) (ls' := [some (.ref 0), some (.int (oI x)), some (.int (nI w)), some (.int (nI m))]) (st' := [.int (oI x), .ref 0]) (σ' := σ) rfl ?_
  refine am_invv (y := 194) (b := 0) (as := [.int (oI x)]) (rest := []) rfl rfl rfl rfl rfl rfl rfl (Nat.le_of_ble_eq_true rfl) ?_
  refine c_m_isLive (by omega) hB hx (fun hl_1 => ?_) (fun hl_1 => ?_)
  · show am_G _ M_X10_onOf _ 5 [some (.ref 0), some (.int (oI x)), some (.int (nI w)), some (.int (nI m))] [.int (nI 1)] σ
    refine am_if (ty := 18) (tn := 8) rfl (by decide) rfl rfl (fun (h_2 : nI 1 = 0) => ?_) (fun (h_2 : ¬ (nI 1 = 0)) => ?_)
    · exact absurd h_2 (by decide)
    refine am_run 4 (pc' := 12) (ls' := [some (.ref 0), some (.int (oI x)), some (.int (nI w)), some (.int (nI m))]) (st' := [.int (nI m), .int (nI w), .int (oI x), .ref 0]) (σ' := σ) rfl ?_
    refine am_invv (y := 190) (b := 0) (as := [.int (oI x), .int (nI w), .int (nI m)]) (rest := []) rfl rfl rfl rfl rfl rfl rfl (Nat.le_of_ble_eq_true rfl) ?_
    refine c_m_laid (by omega) hB hx hw hm (hv (by assumption)) (fun r3 hr3 ok3 iv3 => ?_)
    show am_G _ M_X10_onOf _ 15 [some (.ref 0), some (.int (oI x)), some (.int (nI w)), some (.int (nI m))] [.int (nI (eM r3))] σ
    refine am_run 1 (pc' := 26) (ls' := [some (.ref 0), some (.int (oI x)), some (.int (nI w)), some (.int (nI m))]) (st' := [.int (nI (eM r3))]) (σ' := σ) rfl ?_
    refine am_reti rfl rfl ?_
    exact hq r3 (by rw [if_pos (by assumption)]; assumption) ok3 iv3
  · show am_G _ M_X10_onOf _ 5 [some (.ref 0), some (.int (oI x)), some (.int (nI w)), some (.int (nI m))] [.int (nI 0)] σ
    refine am_if (ty := 18) (tn := 8) rfl (by decide) rfl rfl (fun (h_4 : nI 0 = 0) => ?_) (fun (h_4 : ¬ (nI 0 = 0)) => ?_)
    rotate_left
    · exact absurd (by decide) h_4
    refine am_run 3 (pc' := 25) (ls' := [some (.ref 0), some (.int (oI x)), some (.int (nI w)), some (.int (nI m))]) (st' := [.int (nI 6480), .ref 28]) (σ' := σ) rfl ?_
    refine am_ialdN (n := 6481) (v := nI (eM (r_cd 1))) rfl rfl rfl (by omega) hS4 (by decide) ?_
    refine am_reti rfl rfl ?_
    exact hq _ (by rw [if_neg (by simp [*])]) (ok_cd (by decide)) inv_1
set_option maxRecDepth 10000 in
set_option maxHeartbeats 2000000 in
theorem c_m_behind_false {d : Nat} (hd : 3 ≤ d) {σ : am_M} {j s P A n : Nat} {p : Pg} {dp : Nat → Nat} {ow : Nat → Nat → Nat} (hB : MB σ j s P A p n dp ow) {x w : Nat} {E : Nat × Nat} {b : R4} (okb : ok4 b) (ivb : inv4 b) (hx : x ≤ n) (hw : w < 27) (hv0 : KD σ p x w 0 ST true E) (hv1 : KD σ p x w 1 ST false E) {Q : am_Q} (hq : Q (some (.int (nI (eM (r_flw b (an p 61 x ST (false && me b) E.1 E.2)))))) σ) : am_C d 195 [.ref 0, .int (nI (eM b)), .int (oI x), .int (nI w), .int (nI 0)] σ Q := by
  obtain ⟨hj, hS, hW, hs, hN, hdj, hP, hA⟩ := id hB
  obtain ⟨hS1, hS2, hS3, hS4⟩ := id hS
  obtain ⟨b1, b2, b3, b4⟩ := id okb
  refine am_enter' (M := M_X10_behind) rfl rfl rfl (by omega) (ls := [some (.ref 0), some (.int (nI (eM b))), some (.int (oI x)), some (.int (nI w)), some (.int (nI 0)), none, none, none, none, none]) rfl (fun d' hd' => ?_)
  refine am_run 1 (pc' := 1) (ls' := [some (.ref 0), some (.int (nI (eM b))), some (.int (oI x)), some (.int (nI w)), some (.int (nI 0)), none, none, none, none, none]) (st' := [.int (nI (eM b))]) (σ' := σ) rfl ?_
  refine am_invs (y := 188) (as := [.int (nI (eM b))]) (rest := []) rfl rfl rfl rfl rfl rfl (Nat.le_of_ble_eq_true rfl) ?_
  refine c_m_canCodes (by omega) (r := b) okb ?_
  show am_G _ M_X10_behind _ 4 [some (.ref 0), some (.int (nI (eM b))), some (.int (oI x)), some (.int (nI w)), some (.int (nI 0)), none, none, none, none, none] [.int (nI b.2.2.2)] σ
  refine am_run 1 (pc' := 5) (ls' := [some (.ref 0), some (.int (nI (eM b))), some (.int (oI x)), some (.int (nI w)), some (.int (nI 0)), none, none, none, none, none]) (st' := [.int (nI 0), .int (nI b.2.2.2)]) (σ' := σ) rfl ?_
  refine am_invs (y := 149) (as := [.int (nI b.2.2.2), .int (nI 0)]) (rest := []) rfl rfl rfl rfl rfl rfl (Nat.le_of_ble_eq_true rfl) ?_
  refine c_m_has (by omega) (a := b.2.2.2) (s := 0) (by omega) (by omega) (fun hb_2 => ?_) (fun hb_2 => ?_)
  · show am_G _ M_X10_behind _ 8 [some (.ref 0), some (.int (nI (eM b))), some (.int (oI x)), some (.int (nI w)), some (.int (nI 0)), none, none, none, none, none] [.int (nI 1)] σ
    refine am_if (ty := 11) (tn := 13) rfl (by decide) rfl rfl (fun (h_3 : nI 1 = 0) => ?_) (fun (h_3 : ¬ (nI 1 = 0)) => ?_)
    · exact absurd h_3 (by decide)
    refine am_run 1 (pc' := 14) (ls' := [some (.ref 0), some (.int (nI (eM b))), some (.int (oI x)), some (.int (nI w)), some (.int (nI 0)), none, none, none, none, none]) (st' := [.int (nI (eM b))]) (σ' := σ) rfl ?_
    refine am_invs (y := 187) (as := [.int (nI (eM b))]) (rest := []) rfl rfl rfl rfl rfl rfl (Nat.le_of_ble_eq_true rfl) ?_
    refine c_m_mustCodes (by omega) (r := b) okb ?_
    show am_G _ M_X10_behind _ 17 [some (.ref 0), some (.int (nI (eM b))), some (.int (oI x)), some (.int (nI w)), some (.int (nI 0)), none, none, none, none, none] [.int (nI b.2.2.1)] σ
    refine am_run 1 (pc' := 18) (ls' := [some (.ref 0), some (.int (nI (eM b))), some (.int (oI x)), some (.int (nI w)), some (.int (nI 0)), none, none, none, none, none]) (st' := [.int (nI 0), .int (nI b.2.2.1)]) (σ' := σ) rfl ?_
    refine am_invs (y := 149) (as := [.int (nI b.2.2.1), .int (nI 0)]) (rest := []) rfl rfl rfl rfl rfl rfl (Nat.le_of_ble_eq_true rfl) ?_
    refine c_m_has (by omega) (a := b.2.2.1) (s := 0) (by omega) (by decide) (fun (hb_4 : me b = true) => ?_) (fun (hb_4 : me b = false) => ?_)
    · show am_G _ M_X10_behind _ 21 [some (.ref 0), some (.int (nI (eM b))), some (.int (oI x)), some (.int (nI w)), some (.int (nI 0)), none, none, none, none, none] [.int (nI 1)] σ
      refine am_run 5 (pc' := 28) (ls' := [some (.ref 0), some (.int (nI (eM b))), some (.int (oI x)), some (.int (nI w)), some (.int (nI 0)), some (.int (nI 1)), none, none, none, none]) (st' := [.int (nI 0), .int (nI w), .int (oI x), .ref 0]) (σ' := σ) rfl ?_
      refine am_if (ty := 40) (tn := 31) rfl (by decide) rfl rfl (fun (h_5 : nI 0 = 0) => ?_) (fun (h_5 : ¬ (nI 0 = 0)) => ?_)
      rotate_left
      · exact absurd (by decide) h_5
      refine am_run 1 (pc' := 41) (ls' := [some (.ref 0), some (.int (nI (eM b))), some (.int (oI x)), some (.int (nI w)), some (.int (nI 0)), some (.int (nI 1)), none, none, none, none]) (st' := [.int (nI 1), .int (nI w), .int (oI x), .ref 0]) (σ' := σ) rfl ?_
      refine am_invv (y := 190) (b := 0) (as := [.int (oI x), .int (nI w), .int (nI 1)]) (rest := []) rfl rfl rfl rfl rfl rfl rfl (Nat.le_of_ble_eq_true rfl) ?_
      refine c_m_laid (by omega) hB hx hw (by decide) hv1 (fun r9 hr9 ok9 iv9 => ?_)
      obtain ⟨c1, c2, c3, c4⟩ := id ok9
      show am_G _ M_X10_behind _ 44 [some (.ref 0), some (.int (nI (eM b))), some (.int (oI x)), some (.int (nI w)), some (.int (nI 0)), some (.int (nI 1)), none, none, none, none] [.int (nI (eM r9))] σ
      refine am_run 2 (pc' := 47) (ls' := [some (.ref 0), some (.int (nI (eM b))), some (.int (oI x)), some (.int (nI w)), some (.int (nI 0)), some (.int (nI 1)), some (.int (nI (eM r9))), none, none, none]) (st' := [.int (nI (eM b))]) (σ' := σ) rfl ?_
      refine am_invs (y := 186) (as := [.int (nI (eM b))]) (rest := []) rfl rfl rfl rfl rfl rfl (Nat.le_of_ble_eq_true rfl) ?_
      refine c_m_can (by omega) (r := b) okb ?_
      show am_G _ M_X10_behind _ 50 [some (.ref 0), some (.int (nI (eM b))), some (.int (oI x)), some (.int (nI w)), some (.int (nI 0)), some (.int (nI 1)), some (.int (nI (eM r9))), none, none, none] [.int (nI b.2.1)] σ
      refine am_run 1 (pc' := 52) (ls' := [some (.ref 0), some (.int (nI (eM b))), some (.int (oI x)), some (.int (nI w)), some (.int (nI 0)), some (.int (nI 1)), some (.int (nI (eM r9))), none, none, none]) (st' := [.int (nI (eM r9)), .int (nI b.2.1)]) (σ' := σ) rfl ?_
      refine am_invs (y := 186) (as := [.int (nI (eM r9))]) (rest := [.int (nI b.2.1)]) rfl rfl rfl rfl rfl rfl (Nat.le_of_ble_eq_true rfl) ?_
      refine c_m_can (by omega) (r := r9) ok9 ?_
      show am_G _ M_X10_behind _ 55 [some (.ref 0), some (.int (nI (eM b))), some (.int (oI x)), some (.int (nI w)), some (.int (nI 0)), some (.int (nI 1)), some (.int (nI (eM r9))), none, none, none] [.int (nI r9.2.1), .int (nI b.2.1)] σ
      refine am_run 1 (pc' := 56) (ls' := [some (.ref 0), some (.int (nI (eM b))), some (.int (oI x)), some (.int (nI w)), some (.int (nI 0)), some (.int (nI 1)), some (.int (nI (eM r9))), none, none, none]) (st' := [.int (nI b.2.1 ||| nI r9.2.1)]) (σ' := σ) rfl ?_
      refine am_top (v' := nI (b.2.1 ||| r9.2.1)) (nx_or _ _) ?_
      refine am_run 2 (pc' := 59) (ls' := [some (.ref 0), some (.int (nI (eM b))), some (.int (oI x)), some (.int (nI w)), some (.int (nI 0)), some (.int (nI 1)), some (.int (nI (eM r9))), some (.int (nI (b.2.1 ||| r9.2.1))), none, none]) (st' := [.int (nI (eM b))]) (σ' := σ) rfl ?_
      refine am_invs (y := 188) (as := [.int (nI (eM b))]) (rest := []) rfl rfl rfl rfl rfl rfl (Nat.le_of_ble_eq_true rfl) ?_
      refine c_m_canCodes (by omega) (r := b) okb ?_
      show am_G _ M_X10_behind _ 62 [some (.ref 0), some (.int (nI (eM b))), some (.int (oI x)), some (.int (nI w)), some (.int (nI 0)), some (.int (nI 1)), some (.int (nI (eM r9))), some (.int (nI (b.2.1 ||| r9.2.1))), none, none] [.int (nI b.2.2.2)] σ
      refine am_run 2 (pc' := 65) (ls' := [some (.ref 0), some (.int (nI (eM b))), some (.int (oI x)), some (.int (nI w)), some (.int (nI 0)), some (.int (nI 1)), some (.int (nI (eM r9))), some (.int (nI (b.2.1 ||| r9.2.1))), none, none]) (st' := [.int (nI b.2.2.2 &&& (Int32.ofInt (-2)))]) (σ' := σ) rfl ?_
      refine am_top (v' := nI (cl b.2.2.2 0)) (nx_cl0 _) ?_
      refine am_run 1 (pc' := 67) (ls' := [some (.ref 0), some (.int (nI (eM b))), some (.int (oI x)), some (.int (nI w)), some (.int (nI 0)), some (.int (nI 1)), some (.int (nI (eM r9))), some (.int (nI (b.2.1 ||| r9.2.1))), none, none]) (st' := [.int (nI (eM r9)), .int (nI (cl b.2.2.2 0))]) (σ' := σ) rfl ?_
      refine am_invs (y := 188) (as := [.int (nI (eM r9))]) (rest := [.int (nI (cl b.2.2.2 0))]) rfl rfl rfl rfl rfl rfl (Nat.le_of_ble_eq_true rfl) ?_
      refine c_m_canCodes (by omega) (r := r9) ok9 ?_
      show am_G _ M_X10_behind _ 70 [some (.ref 0), some (.int (nI (eM b))), some (.int (oI x)), some (.int (nI w)), some (.int (nI 0)), some (.int (nI 1)), some (.int (nI (eM r9))), some (.int (nI (b.2.1 ||| r9.2.1))), none, none] [.int (nI r9.2.2.2), .int (nI (cl b.2.2.2 0))] σ
      refine am_run 1 (pc' := 71) (ls' := [some (.ref 0), some (.int (nI (eM b))), some (.int (oI x)), some (.int (nI w)), some (.int (nI 0)), some (.int (nI 1)), some (.int (nI (eM r9))), some (.int (nI (b.2.1 ||| r9.2.1))), none, none]) (st' := [.int (nI (cl b.2.2.2 0) ||| nI r9.2.2.2)]) (σ' := σ) rfl ?_
      refine am_top (v' := nI (cl b.2.2.2 0 ||| r9.2.2.2)) (nx_or _ _) ?_
      refine am_run 2 (pc' := 75) (ls' := [some (.ref 0), some (.int (nI (eM b))), some (.int (oI x)), some (.int (nI w)), some (.int (nI 0)), some (.int (nI 1)), some (.int (nI (eM r9))), some (.int (nI (b.2.1 ||| r9.2.1))), some (.int (nI (cl b.2.2.2 0 ||| r9.2.2.2))), none]) (st' := [.int (nI 1)]) (σ' := σ) rfl ?_
      refine am_if (ty := 91) (tn := 78) rfl (by decide) rfl rfl (fun (h_6 : nI 1 = 0) => ?_) (fun (h_6 : ¬ (nI 1 = 0)) => ?_)
      · exact absurd h_6 (by decide)
      refine am_run 1 (pc' := 79) (ls' := [some (.ref 0), some (.int (nI (eM b))), some (.int (oI x)), some (.int (nI w)), some (.int (nI 0)), some (.int (nI 1)), some (.int (nI (eM r9))), some (.int (nI (b.2.1 ||| r9.2.1))), some (.int (nI (cl b.2.2.2 0 ||| r9.2.2.2))), none]) (st' := [.int (nI (eM b))]) (σ' := σ) rfl ?_
      refine am_invs (y := 185) (as := [.int (nI (eM b))]) (rest := []) rfl rfl rfl rfl rfl rfl (Nat.le_of_ble_eq_true rfl) ?_
      refine c_m_must (by omega) (r := b) okb ?_
      show am_G _ M_X10_behind _ 82 [some (.ref 0), some (.int (nI (eM b))), some (.int (oI x)), some (.int (nI w)), some (.int (nI 0)), some (.int (nI 1)), some (.int (nI (eM r9))), some (.int (nI (b.2.1 ||| r9.2.1))), some (.int (nI (cl b.2.2.2 0 ||| r9.2.2.2))), none] [.int (nI b.1)] σ
      refine am_run 1 (pc' := 84) (ls' := [some (.ref 0), some (.int (nI (eM b))), some (.int (oI x)), some (.int (nI w)), some (.int (nI 0)), some (.int (nI 1)), some (.int (nI (eM r9))), some (.int (nI (b.2.1 ||| r9.2.1))), some (.int (nI (cl b.2.2.2 0 ||| r9.2.2.2))), none]) (st' := [.int (nI (eM r9)), .int (nI b.1)]) (σ' := σ) rfl ?_
      refine am_invs (y := 185) (as := [.int (nI (eM r9))]) (rest := [.int (nI b.1)]) rfl rfl rfl rfl rfl rfl (Nat.le_of_ble_eq_true rfl) ?_
      refine c_m_must (by omega) (r := r9) ok9 ?_
      show am_G _ M_X10_behind _ 87 [some (.ref 0), some (.int (nI (eM b))), some (.int (oI x)), some (.int (nI w)), some (.int (nI 0)), some (.int (nI 1)), some (.int (nI (eM r9))), some (.int (nI (b.2.1 ||| r9.2.1))), some (.int (nI (cl b.2.2.2 0 ||| r9.2.2.2))), none] [.int (nI r9.1), .int (nI b.1)] σ
      refine am_run 1 (pc' := 88) (ls' := [some (.ref 0), some (.int (nI (eM b))), some (.int (oI x)), some (.int (nI w)), some (.int (nI 0)), some (.int (nI 1)), some (.int (nI (eM r9))), some (.int (nI (b.2.1 ||| r9.2.1))), some (.int (nI (cl b.2.2.2 0 ||| r9.2.2.2))), none]) (st' := [.int (nI b.1 ||| nI r9.1)]) (σ' := σ) rfl ?_
      refine am_top (v' := nI (b.1 ||| r9.1)) (nx_or _ _) ?_
      refine am_run 5 (pc' := 103) (ls' := [some (.ref 0), some (.int (nI (eM b))), some (.int (oI x)), some (.int (nI w)), some (.int (nI 0)), some (.int (nI 1)), some (.int (nI (eM r9))), some (.int (nI (b.2.1 ||| r9.2.1))), some (.int (nI (cl b.2.2.2 0 ||| r9.2.2.2))), some (.int (nI (b.1 ||| r9.1)))]) (st' := [.int (nI 1), .int (nI (b.2.1 ||| r9.2.1)), .int (nI (b.1 ||| r9.1))]) (σ' := σ) rfl ?_
      refine am_if (ty := 114) (tn := 106) rfl (by decide) rfl rfl (fun (h_7 : nI 1 = 0) => ?_) (fun (h_7 : ¬ (nI 1 = 0)) => ?_)
      · exact absurd h_7 (by decide)
      refine am_run 1 (pc' := 108) (ls' := [some (.ref 0), some (.int (nI (eM b))), some (.int (oI x)), some (.int (nI w)), some (.int (nI 0)), some (.int (nI 1)), some (.int (nI (eM r9))), some (.int (nI (b.2.1 ||| r9.2.1))), some (.int (nI (cl b.2.2.2 0 ||| r9.2.2.2))), some (.int (nI (b.1 ||| r9.1)))]) (st' := [.int (nI (eM r9)), .int (nI (b.2.1 ||| r9.2.1)), .int (nI (b.1 ||| r9.1))]) (σ' := σ) rfl ?_
      refine am_invs (y := 187) (as := [.int (nI (eM r9))]) (rest := [.int (nI (b.2.1 ||| r9.2.1)), .int (nI (b.1 ||| r9.1))]) rfl rfl rfl rfl rfl rfl (Nat.le_of_ble_eq_true rfl) ?_
      refine c_m_mustCodes (by omega) (r := r9) ok9 ?_
      show am_G _ M_X10_behind _ 111 [some (.ref 0), some (.int (nI (eM b))), some (.int (oI x)), some (.int (nI w)), some (.int (nI 0)), some (.int (nI 1)), some (.int (nI (eM r9))), some (.int (nI (b.2.1 ||| r9.2.1))), some (.int (nI (cl b.2.2.2 0 ||| r9.2.2.2))), some (.int (nI (b.1 ||| r9.1)))] [.int (nI r9.2.2.1), .int (nI (b.2.1 ||| r9.2.1)), .int (nI (b.1 ||| r9.1))] σ
      refine am_run 2 (pc' := 120) (ls' := [some (.ref 0), some (.int (nI (eM b))), some (.int (oI x)), some (.int (nI w)), some (.int (nI 0)), some (.int (nI 1)), some (.int (nI (eM r9))), some (.int (nI (b.2.1 ||| r9.2.1))), some (.int (nI (cl b.2.2.2 0 ||| r9.2.2.2))), some (.int (nI (b.1 ||| r9.1)))]) (st' := [.int (nI (cl b.2.2.2 0 ||| r9.2.2.2)), .int (nI r9.2.2.1), .int (nI (b.2.1 ||| r9.2.1)), .int (nI (b.1 ||| r9.1))]) (σ' := σ) rfl ?_
      refine am_invs (y := 184) (as := [.int (nI (b.1 ||| r9.1)), .int (nI (b.2.1 ||| r9.2.1)), .int (nI r9.2.2.1), .int (nI (cl b.2.2.2 0 ||| r9.2.2.2))]) (rest := []) rfl rfl rfl rfl rfl rfl (Nat.le_of_ble_eq_true rfl) ?_
      refine c_m_packed (by omega) (m := b.1 ||| r9.1) (c := b.2.1 ||| r9.2.1) (k := r9.2.2.1) (q := cl b.2.2.2 0 ||| r9.2.2.2) (by first | omega | decide | exact pow_lt_256 (by omega) | exact or_lt8 (by omega) (by omega) | exact or_lt7 (by omega) (by omega) | exact mx_lt (by omega) (by omega) | exact ct_lt (by omega) | exact or_lt7 (cl_lt (by omega)) (by omega) | exact cl_lt (by omega) | exact or_lt7 (cl_lt (by omega)) (tb_lt _)) (by first | omega | decide | exact pow_lt_256 (by omega) | exact or_lt8 (by omega) (by omega) | exact or_lt7 (by omega) (by omega) | exact mx_lt (by omega) (by omega) | exact ct_lt (by omega) | exact or_lt7 (cl_lt (by omega)) (by omega) | exact cl_lt (by omega) | exact or_lt7 (cl_lt (by omega)) (tb_lt _)) (by first | omega | decide | exact pow_lt_256 (by omega) | exact or_lt8 (by omega) (by omega) | exact or_lt7 (by omega) (by omega) | exact mx_lt (by omega) (by omega) | exact ct_lt (by omega) | exact or_lt7 (cl_lt (by omega)) (by omega) | exact cl_lt (by omega) | exact or_lt7 (cl_lt (by omega)) (tb_lt _)) (by first | omega | decide | exact pow_lt_256 (by omega) | exact or_lt8 (by omega) (by omega) | exact or_lt7 (by omega) (by omega) | exact mx_lt (by omega) (by omega) | exact ct_lt (by omega) | exact or_lt7 (cl_lt (by omega)) (by omega) | exact cl_lt (by omega) | exact or_lt7 (cl_lt (by omega)) (tb_lt _)) ?_
      show am_G _ M_X10_behind _ 123 [some (.ref 0), some (.int (nI (eM b))), some (.int (oI x)), some (.int (nI w)), some (.int (nI 0)), some (.int (nI 1)), some (.int (nI (eM r9))), some (.int (nI (b.2.1 ||| r9.2.1))), some (.int (nI (cl b.2.2.2 0 ||| r9.2.2.2))), some (.int (nI (b.1 ||| r9.1)))] [.int (nI (eM (b.1 ||| r9.1, b.2.1 ||| r9.2.1, r9.2.2.1, cl b.2.2.2 0 ||| r9.2.2.2)))] σ
      refine am_reti rfl rfl ?_
      have hm1 : me b = true := by assumption
      have e : r_flw b (an p 61 x ST (false && me b) E.1 E.2) = (b.1 ||| r9.1, b.2.1 ||| r9.2.1, r9.2.2.1, cl b.2.2.2 0 ||| r9.2.2.2) := by
        unfold r_flw
        rw [if_neg (by simp [*]), if_pos hm1, hm1]
        simp only [Bool.and_true, hr9, (one_me ivb.2 hm1).1, show cl 1 0 = 0 by decide, Nat.zero_or]
      rw [e] at hq
      exact hq
    · show am_G _ M_X10_behind _ 21 [some (.ref 0), some (.int (nI (eM b))), some (.int (oI x)), some (.int (nI w)), some (.int (nI 0)), none, none, none, none, none] [.int (nI 0)] σ
      refine am_run 5 (pc' := 28) (ls' := [some (.ref 0), some (.int (nI (eM b))), some (.int (oI x)), some (.int (nI w)), some (.int (nI 0)), some (.int (nI 0)), none, none, none, none]) (st' := [.int (nI 0), .int (nI w), .int (oI x), .ref 0]) (σ' := σ) rfl ?_
      refine am_if (ty := 40) (tn := 31) rfl (by decide) rfl rfl (fun (h_8 : nI 0 = 0) => ?_) (fun (h_8 : ¬ (nI 0 = 0)) => ?_)
      rotate_left
      · exact absurd (by decide) h_8
      refine am_run 1 (pc' := 41) (ls' := [some (.ref 0), some (.int (nI (eM b))), some (.int (oI x)), some (.int (nI w)), some (.int (nI 0)), some (.int (nI 0)), none, none, none, none]) (st' := [.int (nI 1), .int (nI w), .int (oI x), .ref 0]) (σ' := σ) rfl ?_
      refine am_invv (y := 190) (b := 0) (as := [.int (oI x), .int (nI w), .int (nI 1)]) (rest := []) rfl rfl rfl rfl rfl rfl rfl (Nat.le_of_ble_eq_true rfl) ?_
      refine c_m_laid (by omega) hB hx hw (by decide) hv1 (fun r9 hr9 ok9 iv9 => ?_)
      obtain ⟨c1, c2, c3, c4⟩ := id ok9
      show am_G _ M_X10_behind _ 44 [some (.ref 0), some (.int (nI (eM b))), some (.int (oI x)), some (.int (nI w)), some (.int (nI 0)), some (.int (nI 0)), none, none, none, none] [.int (nI (eM r9))] σ
      refine am_run 2 (pc' := 47) (ls' := [some (.ref 0), some (.int (nI (eM b))), some (.int (oI x)), some (.int (nI w)), some (.int (nI 0)), some (.int (nI 0)), some (.int (nI (eM r9))), none, none, none]) (st' := [.int (nI (eM b))]) (σ' := σ) rfl ?_
      refine am_invs (y := 186) (as := [.int (nI (eM b))]) (rest := []) rfl rfl rfl rfl rfl rfl (Nat.le_of_ble_eq_true rfl) ?_
      refine c_m_can (by omega) (r := b) okb ?_
      show am_G _ M_X10_behind _ 50 [some (.ref 0), some (.int (nI (eM b))), some (.int (oI x)), some (.int (nI w)), some (.int (nI 0)), some (.int (nI 0)), some (.int (nI (eM r9))), none, none, none] [.int (nI b.2.1)] σ
      refine am_run 1 (pc' := 52) (ls' := [some (.ref 0), some (.int (nI (eM b))), some (.int (oI x)), some (.int (nI w)), some (.int (nI 0)), some (.int (nI 0)), some (.int (nI (eM r9))), none, none, none]) (st' := [.int (nI (eM r9)), .int (nI b.2.1)]) (σ' := σ) rfl ?_
      refine am_invs (y := 186) (as := [.int (nI (eM r9))]) (rest := [.int (nI b.2.1)]) rfl rfl rfl rfl rfl rfl (Nat.le_of_ble_eq_true rfl) ?_
      refine c_m_can (by omega) (r := r9) ok9 ?_
      show am_G _ M_X10_behind _ 55 [some (.ref 0), some (.int (nI (eM b))), some (.int (oI x)), some (.int (nI w)), some (.int (nI 0)), some (.int (nI 0)), some (.int (nI (eM r9))), none, none, none] [.int (nI r9.2.1), .int (nI b.2.1)] σ
      refine am_run 1 (pc' := 56) (ls' := [some (.ref 0), some (.int (nI (eM b))), some (.int (oI x)), some (.int (nI w)), some (.int (nI 0)), some (.int (nI 0)), some (.int (nI (eM r9))), none, none, none]) (st' := [.int (nI b.2.1 ||| nI r9.2.1)]) (σ' := σ) rfl ?_
      refine am_top (v' := nI (b.2.1 ||| r9.2.1)) (nx_or _ _) ?_
      refine am_run 2 (pc' := 59) (ls' := [some (.ref 0), some (.int (nI (eM b))), some (.int (oI x)), some (.int (nI w)), some (.int (nI 0)), some (.int (nI 0)), some (.int (nI (eM r9))), some (.int (nI (b.2.1 ||| r9.2.1))), none, none]) (st' := [.int (nI (eM b))]) (σ' := σ) rfl ?_
      refine am_invs (y := 188) (as := [.int (nI (eM b))]) (rest := []) rfl rfl rfl rfl rfl rfl (Nat.le_of_ble_eq_true rfl) ?_
      refine c_m_canCodes (by omega) (r := b) okb ?_
      show am_G _ M_X10_behind _ 62 [some (.ref 0), some (.int (nI (eM b))), some (.int (oI x)), some (.int (nI w)), some (.int (nI 0)), some (.int (nI 0)), some (.int (nI (eM r9))), some (.int (nI (b.2.1 ||| r9.2.1))), none, none] [.int (nI b.2.2.2)] σ
      refine am_run 2 (pc' := 65) (ls' := [some (.ref 0), some (.int (nI (eM b))), some (.int (oI x)), some (.int (nI w)), some (.int (nI 0)), some (.int (nI 0)), some (.int (nI (eM r9))), some (.int (nI (b.2.1 ||| r9.2.1))), none, none]) (st' := [.int (nI b.2.2.2 &&& (Int32.ofInt (-2)))]) (σ' := σ) rfl ?_
      refine am_top (v' := nI (cl b.2.2.2 0)) (nx_cl0 _) ?_
      refine am_run 1 (pc' := 67) (ls' := [some (.ref 0), some (.int (nI (eM b))), some (.int (oI x)), some (.int (nI w)), some (.int (nI 0)), some (.int (nI 0)), some (.int (nI (eM r9))), some (.int (nI (b.2.1 ||| r9.2.1))), none, none]) (st' := [.int (nI (eM r9)), .int (nI (cl b.2.2.2 0))]) (σ' := σ) rfl ?_
      refine am_invs (y := 188) (as := [.int (nI (eM r9))]) (rest := [.int (nI (cl b.2.2.2 0))]) rfl rfl rfl rfl rfl rfl (Nat.le_of_ble_eq_true rfl) ?_
      refine c_m_canCodes (by omega) (r := r9) ok9 ?_
      show am_G _ M_X10_behind _ 70 [some (.ref 0), some (.int (nI (eM b))), some (.int (oI x)), some (.int (nI w)), some (.int (nI 0)), some (.int (nI 0)), some (.int (nI (eM r9))), some (.int (nI (b.2.1 ||| r9.2.1))), none, none] [.int (nI r9.2.2.2), .int (nI (cl b.2.2.2 0))] σ
      refine am_run 1 (pc' := 71) (ls' := [some (.ref 0), some (.int (nI (eM b))), some (.int (oI x)), some (.int (nI w)), some (.int (nI 0)), some (.int (nI 0)), some (.int (nI (eM r9))), some (.int (nI (b.2.1 ||| r9.2.1))), none, none]) (st' := [.int (nI (cl b.2.2.2 0) ||| nI r9.2.2.2)]) (σ' := σ) rfl ?_
      refine am_top (v' := nI (cl b.2.2.2 0 ||| r9.2.2.2)) (nx_or _ _) ?_
      refine am_run 2 (pc' := 75) (ls' := [some (.ref 0), some (.int (nI (eM b))), some (.int (oI x)), some (.int (nI w)), some (.int (nI 0)), some (.int (nI 0)), some (.int (nI (eM r9))), some (.int (nI (b.2.1 ||| r9.2.1))), some (.int (nI (cl b.2.2.2 0 ||| r9.2.2.2))), none]) (st' := [.int (nI 0)]) (σ' := σ) rfl ?_
      refine am_if (ty := 91) (tn := 78) rfl (by decide) rfl rfl (fun (h_9 : nI 0 = 0) => ?_) (fun (h_9 : ¬ (nI 0 = 0)) => ?_)
      rotate_left
      · exact absurd (by decide) h_9
      refine am_run 1 (pc' := 92) (ls' := [some (.ref 0), some (.int (nI (eM b))), some (.int (oI x)), some (.int (nI w)), some (.int (nI 0)), some (.int (nI 0)), some (.int (nI (eM r9))), some (.int (nI (b.2.1 ||| r9.2.1))), some (.int (nI (cl b.2.2.2 0 ||| r9.2.2.2))), none]) (st' := [.int (nI (eM b))]) (σ' := σ) rfl ?_
      refine am_invs (y := 185) (as := [.int (nI (eM b))]) (rest := []) rfl rfl rfl rfl rfl rfl (Nat.le_of_ble_eq_true rfl) ?_
      refine c_m_must (by omega) (r := b) okb ?_
      show am_G _ M_X10_behind _ 95 [some (.ref 0), some (.int (nI (eM b))), some (.int (oI x)), some (.int (nI w)), some (.int (nI 0)), some (.int (nI 0)), some (.int (nI (eM r9))), some (.int (nI (b.2.1 ||| r9.2.1))), some (.int (nI (cl b.2.2.2 0 ||| r9.2.2.2))), none] [.int (nI b.1)] σ
      refine am_run 4 (pc' := 103) (ls' := [some (.ref 0), some (.int (nI (eM b))), some (.int (oI x)), some (.int (nI w)), some (.int (nI 0)), some (.int (nI 0)), some (.int (nI (eM r9))), some (.int (nI (b.2.1 ||| r9.2.1))), some (.int (nI (cl b.2.2.2 0 ||| r9.2.2.2))), some (.int (nI b.1))]) (st' := [.int (nI 0), .int (nI (b.2.1 ||| r9.2.1)), .int (nI b.1)]) (σ' := σ) rfl ?_
      refine am_if (ty := 114) (tn := 106) rfl (by decide) rfl rfl (fun (h_10 : nI 0 = 0) => ?_) (fun (h_10 : ¬ (nI 0 = 0)) => ?_)
      rotate_left
      · exact absurd (by decide) h_10
      refine am_run 1 (pc' := 115) (ls' := [some (.ref 0), some (.int (nI (eM b))), some (.int (oI x)), some (.int (nI w)), some (.int (nI 0)), some (.int (nI 0)), some (.int (nI (eM r9))), some (.int (nI (b.2.1 ||| r9.2.1))), some (.int (nI (cl b.2.2.2 0 ||| r9.2.2.2))), some (.int (nI b.1))]) (st' := [.int (nI (eM b)), .int (nI (b.2.1 ||| r9.2.1)), .int (nI b.1)]) (σ' := σ) rfl ?_
      refine am_invs (y := 187) (as := [.int (nI (eM b))]) (rest := [.int (nI (b.2.1 ||| r9.2.1)), .int (nI b.1)]) rfl rfl rfl rfl rfl rfl (Nat.le_of_ble_eq_true rfl) ?_
      refine c_m_mustCodes (by omega) (r := b) okb ?_
      show am_G _ M_X10_behind _ 118 [some (.ref 0), some (.int (nI (eM b))), some (.int (oI x)), some (.int (nI w)), some (.int (nI 0)), some (.int (nI 0)), some (.int (nI (eM r9))), some (.int (nI (b.2.1 ||| r9.2.1))), some (.int (nI (cl b.2.2.2 0 ||| r9.2.2.2))), some (.int (nI b.1))] [.int (nI b.2.2.1), .int (nI (b.2.1 ||| r9.2.1)), .int (nI b.1)] σ
      refine am_run 1 (pc' := 120) (ls' := [some (.ref 0), some (.int (nI (eM b))), some (.int (oI x)), some (.int (nI w)), some (.int (nI 0)), some (.int (nI 0)), some (.int (nI (eM r9))), some (.int (nI (b.2.1 ||| r9.2.1))), some (.int (nI (cl b.2.2.2 0 ||| r9.2.2.2))), some (.int (nI b.1))]) (st' := [.int (nI (cl b.2.2.2 0 ||| r9.2.2.2)), .int (nI b.2.2.1), .int (nI (b.2.1 ||| r9.2.1)), .int (nI b.1)]) (σ' := σ) rfl ?_
      refine am_invs (y := 184) (as := [.int (nI b.1), .int (nI (b.2.1 ||| r9.2.1)), .int (nI b.2.2.1), .int (nI (cl b.2.2.2 0 ||| r9.2.2.2))]) (rest := []) rfl rfl rfl rfl rfl rfl (Nat.le_of_ble_eq_true rfl) ?_
      refine c_m_packed (by omega) (m := b.1) (c := b.2.1 ||| r9.2.1) (k := b.2.2.1) (q := cl b.2.2.2 0 ||| r9.2.2.2) (by first | omega | decide | exact pow_lt_256 (by omega) | exact or_lt8 (by omega) (by omega) | exact or_lt7 (by omega) (by omega) | exact mx_lt (by omega) (by omega) | exact ct_lt (by omega) | exact or_lt7 (cl_lt (by omega)) (by omega) | exact cl_lt (by omega) | exact or_lt7 (cl_lt (by omega)) (tb_lt _)) (by first | omega | decide | exact pow_lt_256 (by omega) | exact or_lt8 (by omega) (by omega) | exact or_lt7 (by omega) (by omega) | exact mx_lt (by omega) (by omega) | exact ct_lt (by omega) | exact or_lt7 (cl_lt (by omega)) (by omega) | exact cl_lt (by omega) | exact or_lt7 (cl_lt (by omega)) (tb_lt _)) (by first | omega | decide | exact pow_lt_256 (by omega) | exact or_lt8 (by omega) (by omega) | exact or_lt7 (by omega) (by omega) | exact mx_lt (by omega) (by omega) | exact ct_lt (by omega) | exact or_lt7 (cl_lt (by omega)) (by omega) | exact cl_lt (by omega) | exact or_lt7 (cl_lt (by omega)) (tb_lt _)) (by first | omega | decide | exact pow_lt_256 (by omega) | exact or_lt8 (by omega) (by omega) | exact or_lt7 (by omega) (by omega) | exact mx_lt (by omega) (by omega) | exact ct_lt (by omega) | exact or_lt7 (cl_lt (by omega)) (by omega) | exact cl_lt (by omega) | exact or_lt7 (cl_lt (by omega)) (tb_lt _)) ?_
      show am_G _ M_X10_behind _ 123 [some (.ref 0), some (.int (nI (eM b))), some (.int (oI x)), some (.int (nI w)), some (.int (nI 0)), some (.int (nI 0)), some (.int (nI (eM r9))), some (.int (nI (b.2.1 ||| r9.2.1))), some (.int (nI (cl b.2.2.2 0 ||| r9.2.2.2))), some (.int (nI b.1))] [.int (nI (eM (b.1, b.2.1 ||| r9.2.1, b.2.2.1, cl b.2.2.2 0 ||| r9.2.2.2)))] σ
      refine am_reti rfl rfl ?_
      have hm0 : me b = false := by assumption
      have e : r_flw b (an p 61 x ST (false && me b) E.1 E.2) = (b.1, b.2.1 ||| r9.2.1, b.2.2.1, cl b.2.2.2 0 ||| r9.2.2.2) := by
        unfold r_flw
        rw [if_neg (by simp [*]), if_neg (by rw [hm0]; decide), hm0]
        simp only [Bool.and_false, hr9]
      rw [e] at hq
      exact hq
  · show am_G _ M_X10_behind _ 8 [some (.ref 0), some (.int (nI (eM b))), some (.int (oI x)), some (.int (nI w)), some (.int (nI 0)), none, none, none, none, none] [.int (nI 0)] σ
    refine am_if (ty := 11) (tn := 13) rfl (by decide) rfl rfl (fun (h_11 : nI 0 = 0) => ?_) (fun (h_11 : ¬ (nI 0 = 0)) => ?_)
    rotate_left
    · exact absurd (by decide) h_11
    refine am_run 1 (pc' := 12) (ls' := [some (.ref 0), some (.int (nI (eM b))), some (.int (oI x)), some (.int (nI w)), some (.int (nI 0)), none, none, none, none, none]) (st' := [.int (nI (eM b))]) (σ' := σ) rfl ?_
    refine am_reti rfl rfl ?_
    have e : r_flw b (an p 61 x ST (false && me b) E.1 E.2) = b := by unfold r_flw; rw [if_pos (by assumption)]
    rw [e] at hq
    exact hq
set_option maxRecDepth 10000 in
set_option maxHeartbeats 2000000 in
theorem c_m_behind_true {d : Nat} (hd : 3 ≤ d) {σ : am_M} {j s P A n : Nat} {p : Pg} {dp : Nat → Nat} {ow : Nat → Nat → Nat} (hB : MB σ j s P A p n dp ow) {x w : Nat} {E : Nat × Nat} {b : R4} (okb : ok4 b) (ivb : inv4 b) (hx : x ≤ n) (hw : w < 27) (hv0 : KD σ p x w 0 ST true E) (hv1 : KD σ p x w 1 ST false E) {Q : am_Q} (hq : Q (some (.int (nI (eM (r_flw b (an p 61 x ST (true && me b) E.1 E.2)))))) σ) : am_C d 195 [.ref 0, .int (nI (eM b)), .int (oI x), .int (nI w), .int (nI 1)] σ Q := by
  obtain ⟨hj, hS, hW, hs, hN, hdj, hP, hA⟩ := id hB
  obtain ⟨hS1, hS2, hS3, hS4⟩ := id hS
  obtain ⟨b1, b2, b3, b4⟩ := id okb
  refine am_enter' (M := M_X10_behind) rfl rfl rfl (by omega) (ls := [some (.ref 0), some (.int (nI (eM b))), some (.int (oI x)), some (.int (nI w)), some (.int (nI 1)), none, none, none, none, none]) rfl (fun d' hd' => ?_)
  refine am_run 1 (pc' := 1) (ls' := [some (.ref 0), some (.int (nI (eM b))), some (.int (oI x)), some (.int (nI w)), some (.int (nI 1)), none, none, none, none, none]) (st' := [.int (nI (eM b))]) (σ' := σ) rfl ?_
  refine am_invs (y := 188) (as := [.int (nI (eM b))]) (rest := []) rfl rfl rfl rfl rfl rfl (Nat.le_of_ble_eq_true rfl) ?_
  refine c_m_canCodes (by omega) (r := b) okb ?_
  show am_G _ M_X10_behind _ 4 [some (.ref 0), some (.int (nI (eM b))), some (.int (oI x)), some (.int (nI w)), some (.int (nI 1)), none, none, none, none, none] [.int (nI b.2.2.2)] σ
  refine am_run 1 (pc' := 5) (ls' := [some (.ref 0), some (.int (nI (eM b))), some (.int (oI x)), some (.int (nI w)), some (.int (nI 1)), none, none, none, none, none]) (st' := [.int (nI 0), .int (nI b.2.2.2)]) (σ' := σ) rfl ?_
  refine am_invs (y := 149) (as := [.int (nI b.2.2.2), .int (nI 0)]) (rest := []) rfl rfl rfl rfl rfl rfl (Nat.le_of_ble_eq_true rfl) ?_
  refine c_m_has (by omega) (a := b.2.2.2) (s := 0) (by omega) (by omega) (fun hb_2 => ?_) (fun hb_2 => ?_)
  · show am_G _ M_X10_behind _ 8 [some (.ref 0), some (.int (nI (eM b))), some (.int (oI x)), some (.int (nI w)), some (.int (nI 1)), none, none, none, none, none] [.int (nI 1)] σ
    refine am_if (ty := 11) (tn := 13) rfl (by decide) rfl rfl (fun (h_3 : nI 1 = 0) => ?_) (fun (h_3 : ¬ (nI 1 = 0)) => ?_)
    · exact absurd h_3 (by decide)
    refine am_run 1 (pc' := 14) (ls' := [some (.ref 0), some (.int (nI (eM b))), some (.int (oI x)), some (.int (nI w)), some (.int (nI 1)), none, none, none, none, none]) (st' := [.int (nI (eM b))]) (σ' := σ) rfl ?_
    refine am_invs (y := 187) (as := [.int (nI (eM b))]) (rest := []) rfl rfl rfl rfl rfl rfl (Nat.le_of_ble_eq_true rfl) ?_
    refine c_m_mustCodes (by omega) (r := b) okb ?_
    show am_G _ M_X10_behind _ 17 [some (.ref 0), some (.int (nI (eM b))), some (.int (oI x)), some (.int (nI w)), some (.int (nI 1)), none, none, none, none, none] [.int (nI b.2.2.1)] σ
    refine am_run 1 (pc' := 18) (ls' := [some (.ref 0), some (.int (nI (eM b))), some (.int (oI x)), some (.int (nI w)), some (.int (nI 1)), none, none, none, none, none]) (st' := [.int (nI 0), .int (nI b.2.2.1)]) (σ' := σ) rfl ?_
    refine am_invs (y := 149) (as := [.int (nI b.2.2.1), .int (nI 0)]) (rest := []) rfl rfl rfl rfl rfl rfl (Nat.le_of_ble_eq_true rfl) ?_
    refine c_m_has (by omega) (a := b.2.2.1) (s := 0) (by omega) (by decide) (fun (hb_4 : me b = true) => ?_) (fun (hb_4 : me b = false) => ?_)
    · show am_G _ M_X10_behind _ 21 [some (.ref 0), some (.int (nI (eM b))), some (.int (oI x)), some (.int (nI w)), some (.int (nI 1)), none, none, none, none, none] [.int (nI 1)] σ
      refine am_run 5 (pc' := 28) (ls' := [some (.ref 0), some (.int (nI (eM b))), some (.int (oI x)), some (.int (nI w)), some (.int (nI 1)), some (.int (nI 1)), none, none, none, none]) (st' := [.int (nI 1), .int (nI w), .int (oI x), .ref 0]) (σ' := σ) rfl ?_
      refine am_if (ty := 40) (tn := 31) rfl (by decide) rfl rfl (fun (h_5 : nI 1 = 0) => ?_) (fun (h_5 : ¬ (nI 1 = 0)) => ?_)
      · exact absurd h_5 (by decide)
      refine am_run 1 (pc' := 33) (ls' := [some (.ref 0), some (.int (nI (eM b))), some (.int (oI x)), some (.int (nI w)), some (.int (nI 1)), some (.int (nI 1)), none, none, none, none]) (st' := [.int (nI 1), .int (nI w), .int (oI x), .ref 0]) (σ' := σ) rfl ?_
      refine am_if (ty := 40) (tn := 36) rfl (by decide) rfl rfl (fun (h_6 : nI 1 = 0) => ?_) (fun (h_6 : ¬ (nI 1 = 0)) => ?_)
      · exact absurd h_6 (by decide)
      refine am_run 2 (pc' := 41) (ls' := [some (.ref 0), some (.int (nI (eM b))), some (.int (oI x)), some (.int (nI w)), some (.int (nI 1)), some (.int (nI 1)), none, none, none, none]) (st' := [.int (nI 0), .int (nI w), .int (oI x), .ref 0]) (σ' := σ) rfl ?_
      refine am_invv (y := 190) (b := 0) (as := [.int (oI x), .int (nI w), .int (nI 0)]) (rest := []) rfl rfl rfl rfl rfl rfl rfl (Nat.le_of_ble_eq_true rfl) ?_
      refine c_m_laid (by omega) hB hx hw (by decide) hv0 (fun r9 hr9 ok9 iv9 => ?_)
      obtain ⟨c1, c2, c3, c4⟩ := id ok9
      show am_G _ M_X10_behind _ 44 [some (.ref 0), some (.int (nI (eM b))), some (.int (oI x)), some (.int (nI w)), some (.int (nI 1)), some (.int (nI 1)), none, none, none, none] [.int (nI (eM r9))] σ
      refine am_run 2 (pc' := 47) (ls' := [some (.ref 0), some (.int (nI (eM b))), some (.int (oI x)), some (.int (nI w)), some (.int (nI 1)), some (.int (nI 1)), some (.int (nI (eM r9))), none, none, none]) (st' := [.int (nI (eM b))]) (σ' := σ) rfl ?_
      refine am_invs (y := 186) (as := [.int (nI (eM b))]) (rest := []) rfl rfl rfl rfl rfl rfl (Nat.le_of_ble_eq_true rfl) ?_
      refine c_m_can (by omega) (r := b) okb ?_
      show am_G _ M_X10_behind _ 50 [some (.ref 0), some (.int (nI (eM b))), some (.int (oI x)), some (.int (nI w)), some (.int (nI 1)), some (.int (nI 1)), some (.int (nI (eM r9))), none, none, none] [.int (nI b.2.1)] σ
      refine am_run 1 (pc' := 52) (ls' := [some (.ref 0), some (.int (nI (eM b))), some (.int (oI x)), some (.int (nI w)), some (.int (nI 1)), some (.int (nI 1)), some (.int (nI (eM r9))), none, none, none]) (st' := [.int (nI (eM r9)), .int (nI b.2.1)]) (σ' := σ) rfl ?_
      refine am_invs (y := 186) (as := [.int (nI (eM r9))]) (rest := [.int (nI b.2.1)]) rfl rfl rfl rfl rfl rfl (Nat.le_of_ble_eq_true rfl) ?_
      refine c_m_can (by omega) (r := r9) ok9 ?_
      show am_G _ M_X10_behind _ 55 [some (.ref 0), some (.int (nI (eM b))), some (.int (oI x)), some (.int (nI w)), some (.int (nI 1)), some (.int (nI 1)), some (.int (nI (eM r9))), none, none, none] [.int (nI r9.2.1), .int (nI b.2.1)] σ
      refine am_run 1 (pc' := 56) (ls' := [some (.ref 0), some (.int (nI (eM b))), some (.int (oI x)), some (.int (nI w)), some (.int (nI 1)), some (.int (nI 1)), some (.int (nI (eM r9))), none, none, none]) (st' := [.int (nI b.2.1 ||| nI r9.2.1)]) (σ' := σ) rfl ?_
      refine am_top (v' := nI (b.2.1 ||| r9.2.1)) (nx_or _ _) ?_
      refine am_run 2 (pc' := 59) (ls' := [some (.ref 0), some (.int (nI (eM b))), some (.int (oI x)), some (.int (nI w)), some (.int (nI 1)), some (.int (nI 1)), some (.int (nI (eM r9))), some (.int (nI (b.2.1 ||| r9.2.1))), none, none]) (st' := [.int (nI (eM b))]) (σ' := σ) rfl ?_
      refine am_invs (y := 188) (as := [.int (nI (eM b))]) (rest := []) rfl rfl rfl rfl rfl rfl (Nat.le_of_ble_eq_true rfl) ?_
      refine c_m_canCodes (by omega) (r := b) okb ?_
      show am_G _ M_X10_behind _ 62 [some (.ref 0), some (.int (nI (eM b))), some (.int (oI x)), some (.int (nI w)), some (.int (nI 1)), some (.int (nI 1)), some (.int (nI (eM r9))), some (.int (nI (b.2.1 ||| r9.2.1))), none, none] [.int (nI b.2.2.2)] σ
      refine am_run 2 (pc' := 65) (ls' := [some (.ref 0), some (.int (nI (eM b))), some (.int (oI x)), some (.int (nI w)), some (.int (nI 1)), some (.int (nI 1)), some (.int (nI (eM r9))), some (.int (nI (b.2.1 ||| r9.2.1))), none, none]) (st' := [.int (nI b.2.2.2 &&& (Int32.ofInt (-2)))]) (σ' := σ) rfl ?_
      refine am_top (v' := nI (cl b.2.2.2 0)) (nx_cl0 _) ?_
      refine am_run 1 (pc' := 67) (ls' := [some (.ref 0), some (.int (nI (eM b))), some (.int (oI x)), some (.int (nI w)), some (.int (nI 1)), some (.int (nI 1)), some (.int (nI (eM r9))), some (.int (nI (b.2.1 ||| r9.2.1))), none, none]) (st' := [.int (nI (eM r9)), .int (nI (cl b.2.2.2 0))]) (σ' := σ) rfl ?_
      refine am_invs (y := 188) (as := [.int (nI (eM r9))]) (rest := [.int (nI (cl b.2.2.2 0))]) rfl rfl rfl rfl rfl rfl (Nat.le_of_ble_eq_true rfl) ?_
      refine c_m_canCodes (by omega) (r := r9) ok9 ?_
      show am_G _ M_X10_behind _ 70 [some (.ref 0), some (.int (nI (eM b))), some (.int (oI x)), some (.int (nI w)), some (.int (nI 1)), some (.int (nI 1)), some (.int (nI (eM r9))), some (.int (nI (b.2.1 ||| r9.2.1))), none, none] [.int (nI r9.2.2.2), .int (nI (cl b.2.2.2 0))] σ
      refine am_run 1 (pc' := 71) (ls' := [some (.ref 0), some (.int (nI (eM b))), some (.int (oI x)), some (.int (nI w)), some (.int (nI 1)), some (.int (nI 1)), some (.int (nI (eM r9))), some (.int (nI (b.2.1 ||| r9.2.1))), none, none]) (st' := [.int (nI (cl b.2.2.2 0) ||| nI r9.2.2.2)]) (σ' := σ) rfl ?_
      refine am_top (v' := nI (cl b.2.2.2 0 ||| r9.2.2.2)) (nx_or _ _) ?_
      refine am_run 2 (pc' := 75) (ls' := [some (.ref 0), some (.int (nI (eM b))), some (.int (oI x)), some (.int (nI w)), some (.int (nI 1)), some (.int (nI 1)), some (.int (nI (eM r9))), some (.int (nI (b.2.1 ||| r9.2.1))), some (.int (nI (cl b.2.2.2 0 ||| r9.2.2.2))), none]) (st' := [.int (nI 1)]) (σ' := σ) rfl ?_
      refine am_if (ty := 91) (tn := 78) rfl (by decide) rfl rfl (fun (h_7 : nI 1 = 0) => ?_) (fun (h_7 : ¬ (nI 1 = 0)) => ?_)
      · exact absurd h_7 (by decide)
      refine am_run 1 (pc' := 79) (ls' := [some (.ref 0), some (.int (nI (eM b))), some (.int (oI x)), some (.int (nI w)), some (.int (nI 1)), some (.int (nI 1)), some (.int (nI (eM r9))), some (.int (nI (b.2.1 ||| r9.2.1))), some (.int (nI (cl b.2.2.2 0 ||| r9.2.2.2))), none]) (st' := [.int (nI (eM b))]) (σ' := σ) rfl ?_
      refine am_invs (y := 185) (as := [.int (nI (eM b))]) (rest := []) rfl rfl rfl rfl rfl rfl (Nat.le_of_ble_eq_true rfl) ?_
      refine c_m_must (by omega) (r := b) okb ?_
      show am_G _ M_X10_behind _ 82 [some (.ref 0), some (.int (nI (eM b))), some (.int (oI x)), some (.int (nI w)), some (.int (nI 1)), some (.int (nI 1)), some (.int (nI (eM r9))), some (.int (nI (b.2.1 ||| r9.2.1))), some (.int (nI (cl b.2.2.2 0 ||| r9.2.2.2))), none] [.int (nI b.1)] σ
      refine am_run 1 (pc' := 84) (ls' := [some (.ref 0), some (.int (nI (eM b))), some (.int (oI x)), some (.int (nI w)), some (.int (nI 1)), some (.int (nI 1)), some (.int (nI (eM r9))), some (.int (nI (b.2.1 ||| r9.2.1))), some (.int (nI (cl b.2.2.2 0 ||| r9.2.2.2))), none]) (st' := [.int (nI (eM r9)), .int (nI b.1)]) (σ' := σ) rfl ?_
      refine am_invs (y := 185) (as := [.int (nI (eM r9))]) (rest := [.int (nI b.1)]) rfl rfl rfl rfl rfl rfl (Nat.le_of_ble_eq_true rfl) ?_
      refine c_m_must (by omega) (r := r9) ok9 ?_
      show am_G _ M_X10_behind _ 87 [some (.ref 0), some (.int (nI (eM b))), some (.int (oI x)), some (.int (nI w)), some (.int (nI 1)), some (.int (nI 1)), some (.int (nI (eM r9))), some (.int (nI (b.2.1 ||| r9.2.1))), some (.int (nI (cl b.2.2.2 0 ||| r9.2.2.2))), none] [.int (nI r9.1), .int (nI b.1)] σ
      refine am_run 1 (pc' := 88) (ls' := [some (.ref 0), some (.int (nI (eM b))), some (.int (oI x)), some (.int (nI w)), some (.int (nI 1)), some (.int (nI 1)), some (.int (nI (eM r9))), some (.int (nI (b.2.1 ||| r9.2.1))), some (.int (nI (cl b.2.2.2 0 ||| r9.2.2.2))), none]) (st' := [.int (nI b.1 ||| nI r9.1)]) (σ' := σ) rfl ?_
      refine am_top (v' := nI (b.1 ||| r9.1)) (nx_or _ _) ?_
      refine am_run 5 (pc' := 103) (ls' := [some (.ref 0), some (.int (nI (eM b))), some (.int (oI x)), some (.int (nI w)), some (.int (nI 1)), some (.int (nI 1)), some (.int (nI (eM r9))), some (.int (nI (b.2.1 ||| r9.2.1))), some (.int (nI (cl b.2.2.2 0 ||| r9.2.2.2))), some (.int (nI (b.1 ||| r9.1)))]) (st' := [.int (nI 1), .int (nI (b.2.1 ||| r9.2.1)), .int (nI (b.1 ||| r9.1))]) (σ' := σ) rfl ?_
      refine am_if (ty := 114) (tn := 106) rfl (by decide) rfl rfl (fun (h_8 : nI 1 = 0) => ?_) (fun (h_8 : ¬ (nI 1 = 0)) => ?_)
      · exact absurd h_8 (by decide)
      refine am_run 1 (pc' := 108) (ls' := [some (.ref 0), some (.int (nI (eM b))), some (.int (oI x)), some (.int (nI w)), some (.int (nI 1)), some (.int (nI 1)), some (.int (nI (eM r9))), some (.int (nI (b.2.1 ||| r9.2.1))), some (.int (nI (cl b.2.2.2 0 ||| r9.2.2.2))), some (.int (nI (b.1 ||| r9.1)))]) (st' := [.int (nI (eM r9)), .int (nI (b.2.1 ||| r9.2.1)), .int (nI (b.1 ||| r9.1))]) (σ' := σ) rfl ?_
      refine am_invs (y := 187) (as := [.int (nI (eM r9))]) (rest := [.int (nI (b.2.1 ||| r9.2.1)), .int (nI (b.1 ||| r9.1))]) rfl rfl rfl rfl rfl rfl (Nat.le_of_ble_eq_true rfl) ?_
      refine c_m_mustCodes (by omega) (r := r9) ok9 ?_
      show am_G _ M_X10_behind _ 111 [some (.ref 0), some (.int (nI (eM b))), some (.int (oI x)), some (.int (nI w)), some (.int (nI 1)), some (.int (nI 1)), some (.int (nI (eM r9))), some (.int (nI (b.2.1 ||| r9.2.1))), some (.int (nI (cl b.2.2.2 0 ||| r9.2.2.2))), some (.int (nI (b.1 ||| r9.1)))] [.int (nI r9.2.2.1), .int (nI (b.2.1 ||| r9.2.1)), .int (nI (b.1 ||| r9.1))] σ
      refine am_run 2 (pc' := 120) (ls' := [some (.ref 0), some (.int (nI (eM b))), some (.int (oI x)), some (.int (nI w)), some (.int (nI 1)), some (.int (nI 1)), some (.int (nI (eM r9))), some (.int (nI (b.2.1 ||| r9.2.1))), some (.int (nI (cl b.2.2.2 0 ||| r9.2.2.2))), some (.int (nI (b.1 ||| r9.1)))]) (st' := [.int (nI (cl b.2.2.2 0 ||| r9.2.2.2)), .int (nI r9.2.2.1), .int (nI (b.2.1 ||| r9.2.1)), .int (nI (b.1 ||| r9.1))]) (σ' := σ) rfl ?_
      refine am_invs (y := 184) (as := [.int (nI (b.1 ||| r9.1)), .int (nI (b.2.1 ||| r9.2.1)), .int (nI r9.2.2.1), .int (nI (cl b.2.2.2 0 ||| r9.2.2.2))]) (rest := []) rfl rfl rfl rfl rfl rfl (Nat.le_of_ble_eq_true rfl) ?_
      refine c_m_packed (by omega) (m := b.1 ||| r9.1) (c := b.2.1 ||| r9.2.1) (k := r9.2.2.1) (q := cl b.2.2.2 0 ||| r9.2.2.2) (by first | omega | decide | exact pow_lt_256 (by omega) | exact or_lt8 (by omega) (by omega) | exact or_lt7 (by omega) (by omega) | exact mx_lt (by omega) (by omega) | exact ct_lt (by omega) | exact or_lt7 (cl_lt (by omega)) (by omega) | exact cl_lt (by omega) | exact or_lt7 (cl_lt (by omega)) (tb_lt _)) (by first | omega | decide | exact pow_lt_256 (by omega) | exact or_lt8 (by omega) (by omega) | exact or_lt7 (by omega) (by omega) | exact mx_lt (by omega) (by omega) | exact ct_lt (by omega) | exact or_lt7 (cl_lt (by omega)) (by omega) | exact cl_lt (by omega) | exact or_lt7 (cl_lt (by omega)) (tb_lt _)) (by first | omega | decide | exact pow_lt_256 (by omega) | exact or_lt8 (by omega) (by omega) | exact or_lt7 (by omega) (by omega) | exact mx_lt (by omega) (by omega) | exact ct_lt (by omega) | exact or_lt7 (cl_lt (by omega)) (by omega) | exact cl_lt (by omega) | exact or_lt7 (cl_lt (by omega)) (tb_lt _)) (by first | omega | decide | exact pow_lt_256 (by omega) | exact or_lt8 (by omega) (by omega) | exact or_lt7 (by omega) (by omega) | exact mx_lt (by omega) (by omega) | exact ct_lt (by omega) | exact or_lt7 (cl_lt (by omega)) (by omega) | exact cl_lt (by omega) | exact or_lt7 (cl_lt (by omega)) (tb_lt _)) ?_
      show am_G _ M_X10_behind _ 123 [some (.ref 0), some (.int (nI (eM b))), some (.int (oI x)), some (.int (nI w)), some (.int (nI 1)), some (.int (nI 1)), some (.int (nI (eM r9))), some (.int (nI (b.2.1 ||| r9.2.1))), some (.int (nI (cl b.2.2.2 0 ||| r9.2.2.2))), some (.int (nI (b.1 ||| r9.1)))] [.int (nI (eM (b.1 ||| r9.1, b.2.1 ||| r9.2.1, r9.2.2.1, cl b.2.2.2 0 ||| r9.2.2.2)))] σ
      refine am_reti rfl rfl ?_
      have hm1 : me b = true := by assumption
      have e : r_flw b (an p 61 x ST (true && me b) E.1 E.2) = (b.1 ||| r9.1, b.2.1 ||| r9.2.1, r9.2.2.1, cl b.2.2.2 0 ||| r9.2.2.2) := by
        unfold r_flw
        rw [if_neg (by simp [*]), if_pos hm1, hm1]
        simp only [Bool.and_true, hr9, (one_me ivb.2 hm1).1, show cl 1 0 = 0 by decide, Nat.zero_or]
      rw [e] at hq
      exact hq
    · show am_G _ M_X10_behind _ 21 [some (.ref 0), some (.int (nI (eM b))), some (.int (oI x)), some (.int (nI w)), some (.int (nI 1)), none, none, none, none, none] [.int (nI 0)] σ
      refine am_run 5 (pc' := 28) (ls' := [some (.ref 0), some (.int (nI (eM b))), some (.int (oI x)), some (.int (nI w)), some (.int (nI 1)), some (.int (nI 0)), none, none, none, none]) (st' := [.int (nI 1), .int (nI w), .int (oI x), .ref 0]) (σ' := σ) rfl ?_
      refine am_if (ty := 40) (tn := 31) rfl (by decide) rfl rfl (fun (h_9 : nI 1 = 0) => ?_) (fun (h_9 : ¬ (nI 1 = 0)) => ?_)
      · exact absurd h_9 (by decide)
      refine am_run 1 (pc' := 33) (ls' := [some (.ref 0), some (.int (nI (eM b))), some (.int (oI x)), some (.int (nI w)), some (.int (nI 1)), some (.int (nI 0)), none, none, none, none]) (st' := [.int (nI 0), .int (nI w), .int (oI x), .ref 0]) (σ' := σ) rfl ?_
      refine am_if (ty := 40) (tn := 36) rfl (by decide) rfl rfl (fun (h_10 : nI 0 = 0) => ?_) (fun (h_10 : ¬ (nI 0 = 0)) => ?_)
      rotate_left
      · exact absurd (by decide) h_10
      refine am_run 1 (pc' := 41) (ls' := [some (.ref 0), some (.int (nI (eM b))), some (.int (oI x)), some (.int (nI w)), some (.int (nI 1)), some (.int (nI 0)), none, none, none, none]) (st' := [.int (nI 1), .int (nI w), .int (oI x), .ref 0]) (σ' := σ) rfl ?_
      refine am_invv (y := 190) (b := 0) (as := [.int (oI x), .int (nI w), .int (nI 1)]) (rest := []) rfl rfl rfl rfl rfl rfl rfl (Nat.le_of_ble_eq_true rfl) ?_
      refine c_m_laid (by omega) hB hx hw (by decide) hv1 (fun r9 hr9 ok9 iv9 => ?_)
      obtain ⟨c1, c2, c3, c4⟩ := id ok9
      show am_G _ M_X10_behind _ 44 [some (.ref 0), some (.int (nI (eM b))), some (.int (oI x)), some (.int (nI w)), some (.int (nI 1)), some (.int (nI 0)), none, none, none, none] [.int (nI (eM r9))] σ
      refine am_run 2 (pc' := 47) (ls' := [some (.ref 0), some (.int (nI (eM b))), some (.int (oI x)), some (.int (nI w)), some (.int (nI 1)), some (.int (nI 0)), some (.int (nI (eM r9))), none, none, none]) (st' := [.int (nI (eM b))]) (σ' := σ) rfl ?_
      refine am_invs (y := 186) (as := [.int (nI (eM b))]) (rest := []) rfl rfl rfl rfl rfl rfl (Nat.le_of_ble_eq_true rfl) ?_
      refine c_m_can (by omega) (r := b) okb ?_
      show am_G _ M_X10_behind _ 50 [some (.ref 0), some (.int (nI (eM b))), some (.int (oI x)), some (.int (nI w)), some (.int (nI 1)), some (.int (nI 0)), some (.int (nI (eM r9))), none, none, none] [.int (nI b.2.1)] σ
      refine am_run 1 (pc' := 52) (ls' := [some (.ref 0), some (.int (nI (eM b))), some (.int (oI x)), some (.int (nI w)), some (.int (nI 1)), some (.int (nI 0)), some (.int (nI (eM r9))), none, none, none]) (st' := [.int (nI (eM r9)), .int (nI b.2.1)]) (σ' := σ) rfl ?_
      refine am_invs (y := 186) (as := [.int (nI (eM r9))]) (rest := [.int (nI b.2.1)]) rfl rfl rfl rfl rfl rfl (Nat.le_of_ble_eq_true rfl) ?_
      refine c_m_can (by omega) (r := r9) ok9 ?_
      show am_G _ M_X10_behind _ 55 [some (.ref 0), some (.int (nI (eM b))), some (.int (oI x)), some (.int (nI w)), some (.int (nI 1)), some (.int (nI 0)), some (.int (nI (eM r9))), none, none, none] [.int (nI r9.2.1), .int (nI b.2.1)] σ
      refine am_run 1 (pc' := 56) (ls' := [some (.ref 0), some (.int (nI (eM b))), some (.int (oI x)), some (.int (nI w)), some (.int (nI 1)), some (.int (nI 0)), some (.int (nI (eM r9))), none, none, none]) (st' := [.int (nI b.2.1 ||| nI r9.2.1)]) (σ' := σ) rfl ?_
      refine am_top (v' := nI (b.2.1 ||| r9.2.1)) (nx_or _ _) ?_
      refine am_run 2 (pc' := 59) (ls' := [some (.ref 0), some (.int (nI (eM b))), some (.int (oI x)), some (.int (nI w)), some (.int (nI 1)), some (.int (nI 0)), some (.int (nI (eM r9))), some (.int (nI (b.2.1 ||| r9.2.1))), none, none]) (st' := [.int (nI (eM b))]) (σ' := σ) rfl ?_
      refine am_invs (y := 188) (as := [.int (nI (eM b))]) (rest := []) rfl rfl rfl rfl rfl rfl (Nat.le_of_ble_eq_true rfl) ?_
      refine c_m_canCodes (by omega) (r := b) okb ?_
      show am_G _ M_X10_behind _ 62 [some (.ref 0), some (.int (nI (eM b))), some (.int (oI x)), some (.int (nI w)), some (.int (nI 1)), some (.int (nI 0)), some (.int (nI (eM r9))), some (.int (nI (b.2.1 ||| r9.2.1))), none, none] [.int (nI b.2.2.2)] σ
      refine am_run 2 (pc' := 65) (ls' := [some (.ref 0), some (.int (nI (eM b))), some (.int (oI x)), some (.int (nI w)), some (.int (nI 1)), some (.int (nI 0)), some (.int (nI (eM r9))), some (.int (nI (b.2.1 ||| r9.2.1))), none, none]) (st' := [.int (nI b.2.2.2 &&& (Int32.ofInt (-2)))]) (σ' := σ) rfl ?_
      refine am_top (v' := nI (cl b.2.2.2 0)) (nx_cl0 _) ?_
      refine am_run 1 (pc' := 67) (ls' := [some (.ref 0), some (.int (nI (eM b))), some (.int (oI x)), some (.int (nI w)), some (.int (nI 1)), some (.int (nI 0)), some (.int (nI (eM r9))), some (.int (nI (b.2.1 ||| r9.2.1))), none, none]) (st' := [.int (nI (eM r9)), .int (nI (cl b.2.2.2 0))]) (σ' := σ) rfl ?_
      refine am_invs (y := 188) (as := [.int (nI (eM r9))]) (rest := [.int (nI (cl b.2.2.2 0))]) rfl rfl rfl rfl rfl rfl (Nat.le_of_ble_eq_true rfl) ?_
      refine c_m_canCodes (by omega) (r := r9) ok9 ?_
      show am_G _ M_X10_behind _ 70 [some (.ref 0), some (.int (nI (eM b))), some (.int (oI x)), some (.int (nI w)), some (.int (nI 1)), some (.int (nI 0)), some (.int (nI (eM r9))), some (.int (nI (b.2.1 ||| r9.2.1))), none, none] [.int (nI r9.2.2.2), .int (nI (cl b.2.2.2 0))] σ
      refine am_run 1 (pc' := 71) (ls' := [some (.ref 0), some (.int (nI (eM b))), some (.int (oI x)), some (.int (nI w)), some (.int (nI 1)), some (.int (nI 0)), some (.int (nI (eM r9))), some (.int (nI (b.2.1 ||| r9.2.1))), none, none]) (st' := [.int (nI (cl b.2.2.2 0) ||| nI r9.2.2.2)]) (σ' := σ) rfl ?_
      refine am_top (v' := nI (cl b.2.2.2 0 ||| r9.2.2.2)) (nx_or _ _) ?_
      refine am_run 2 (pc' := 75) (ls' := [some (.ref 0), some (.int (nI (eM b))), some (.int (oI x)), some (.int (nI w)), some (.int (nI 1)), some (.int (nI 0)), some (.int (nI (eM r9))), some (.int (nI (b.2.1 ||| r9.2.1))), some (.int (nI (cl b.2.2.2 0 ||| r9.2.2.2))), none]) (st' := [.int (nI 0)]) (σ' := σ) rfl ?_
      refine am_if (ty := 91) (tn := 78) rfl (by decide) rfl rfl (fun (h_11 : nI 0 = 0) => ?_) (fun (h_11 : ¬ (nI 0 = 0)) => ?_)
      rotate_left
      · exact absurd (by decide) h_11
      refine am_run 1 (pc' := 92) (ls' := [some (.ref 0), some (.int (nI (eM b))), some (.int (oI x)), some (.int (nI w)), some (.int (nI 1)), some (.int (nI 0)), some (.int (nI (eM r9))), some (.int (nI (b.2.1 ||| r9.2.1))), some (.int (nI (cl b.2.2.2 0 ||| r9.2.2.2))), none]) (st' := [.int (nI (eM b))]) (σ' := σ) rfl ?_
      refine am_invs (y := 185) (as := [.int (nI (eM b))]) (rest := []) rfl rfl rfl rfl rfl rfl (Nat.le_of_ble_eq_true rfl) ?_
      refine c_m_must (by omega) (r := b) okb ?_
      show am_G _ M_X10_behind _ 95 [some (.ref 0), some (.int (nI (eM b))), some (.int (oI x)), some (.int (nI w)), some (.int (nI 1)), some (.int (nI 0)), some (.int (nI (eM r9))), some (.int (nI (b.2.1 ||| r9.2.1))), some (.int (nI (cl b.2.2.2 0 ||| r9.2.2.2))), none] [.int (nI b.1)] σ
      refine am_run 4 (pc' := 103) (ls' := [some (.ref 0), some (.int (nI (eM b))), some (.int (oI x)), some (.int (nI w)), some (.int (nI 1)), some (.int (nI 0)), some (.int (nI (eM r9))), some (.int (nI (b.2.1 ||| r9.2.1))), some (.int (nI (cl b.2.2.2 0 ||| r9.2.2.2))), some (.int (nI b.1))]) (st' := [.int (nI 0), .int (nI (b.2.1 ||| r9.2.1)), .int (nI b.1)]) (σ' := σ) rfl ?_
      refine am_if (ty := 114) (tn := 106) rfl (by decide) rfl rfl (fun (h_12 : nI 0 = 0) => ?_) (fun (h_12 : ¬ (nI 0 = 0)) => ?_)
      rotate_left
      · exact absurd (by decide) h_12
      refine am_run 1 (pc' := 115) (ls' := [some (.ref 0), some (.int (nI (eM b))), some (.int (oI x)), some (.int (nI w)), some (.int (nI 1)), some (.int (nI 0)), some (.int (nI (eM r9))), some (.int (nI (b.2.1 ||| r9.2.1))), some (.int (nI (cl b.2.2.2 0 ||| r9.2.2.2))), some (.int (nI b.1))]) (st' := [.int (nI (eM b)), .int (nI (b.2.1 ||| r9.2.1)), .int (nI b.1)]) (σ' := σ) rfl ?_
      refine am_invs (y := 187) (as := [.int (nI (eM b))]) (rest := [.int (nI (b.2.1 ||| r9.2.1)), .int (nI b.1)]) rfl rfl rfl rfl rfl rfl (Nat.le_of_ble_eq_true rfl) ?_
      refine c_m_mustCodes (by omega) (r := b) okb ?_
      show am_G _ M_X10_behind _ 118 [some (.ref 0), some (.int (nI (eM b))), some (.int (oI x)), some (.int (nI w)), some (.int (nI 1)), some (.int (nI 0)), some (.int (nI (eM r9))), some (.int (nI (b.2.1 ||| r9.2.1))), some (.int (nI (cl b.2.2.2 0 ||| r9.2.2.2))), some (.int (nI b.1))] [.int (nI b.2.2.1), .int (nI (b.2.1 ||| r9.2.1)), .int (nI b.1)] σ
      refine am_run 1 (pc' := 120) (ls' := [some (.ref 0), some (.int (nI (eM b))), some (.int (oI x)), some (.int (nI w)), some (.int (nI 1)), some (.int (nI 0)), some (.int (nI (eM r9))), some (.int (nI (b.2.1 ||| r9.2.1))), some (.int (nI (cl b.2.2.2 0 ||| r9.2.2.2))), some (.int (nI b.1))]) (st' := [.int (nI (cl b.2.2.2 0 ||| r9.2.2.2)), .int (nI b.2.2.1), .int (nI (b.2.1 ||| r9.2.1)), .int (nI b.1)]) (σ' := σ) rfl ?_
      refine am_invs (y := 184) (as := [.int (nI b.1), .int (nI (b.2.1 ||| r9.2.1)), .int (nI b.2.2.1), .int (nI (cl b.2.2.2 0 ||| r9.2.2.2))]) (rest := []) rfl rfl rfl rfl rfl rfl (Nat.le_of_ble_eq_true rfl) ?_
      refine c_m_packed (by omega) (m := b.1) (c := b.2.1 ||| r9.2.1) (k := b.2.2.1) (q := cl b.2.2.2 0 ||| r9.2.2.2) (by first | omega | decide | exact pow_lt_256 (by omega) | exact or_lt8 (by omega) (by omega) | exact or_lt7 (by omega) (by omega) | exact mx_lt (by omega) (by omega) | exact ct_lt (by omega) | exact or_lt7 (cl_lt (by omega)) (by omega) | exact cl_lt (by omega) | exact or_lt7 (cl_lt (by omega)) (tb_lt _)) (by first | omega | decide | exact pow_lt_256 (by omega) | exact or_lt8 (by omega) (by omega) | exact or_lt7 (by omega) (by omega) | exact mx_lt (by omega) (by omega) | exact ct_lt (by omega) | exact or_lt7 (cl_lt (by omega)) (by omega) | exact cl_lt (by omega) | exact or_lt7 (cl_lt (by omega)) (tb_lt _)) (by first | omega | decide | exact pow_lt_256 (by omega) | exact or_lt8 (by omega) (by omega) | exact or_lt7 (by omega) (by omega) | exact mx_lt (by omega) (by omega) | exact ct_lt (by omega) | exact or_lt7 (cl_lt (by omega)) (by omega) | exact cl_lt (by omega) | exact or_lt7 (cl_lt (by omega)) (tb_lt _)) (by first | omega | decide | exact pow_lt_256 (by omega) | exact or_lt8 (by omega) (by omega) | exact or_lt7 (by omega) (by omega) | exact mx_lt (by omega) (by omega) | exact ct_lt (by omega) | exact or_lt7 (cl_lt (by omega)) (by omega) | exact cl_lt (by omega) | exact or_lt7 (cl_lt (by omega)) (tb_lt _)) ?_
      show am_G _ M_X10_behind _ 123 [some (.ref 0), some (.int (nI (eM b))), some (.int (oI x)), some (.int (nI w)), some (.int (nI 1)), some (.int (nI 0)), some (.int (nI (eM r9))), some (.int (nI (b.2.1 ||| r9.2.1))), some (.int (nI (cl b.2.2.2 0 ||| r9.2.2.2))), some (.int (nI b.1))] [.int (nI (eM (b.1, b.2.1 ||| r9.2.1, b.2.2.1, cl b.2.2.2 0 ||| r9.2.2.2)))] σ
      refine am_reti rfl rfl ?_
      have hm0 : me b = false := by assumption
      have e : r_flw b (an p 61 x ST (true && me b) E.1 E.2) = (b.1, b.2.1 ||| r9.2.1, b.2.2.1, cl b.2.2.2 0 ||| r9.2.2.2) := by
        unfold r_flw
        rw [if_neg (by simp [*]), if_neg (by rw [hm0]; decide), hm0]
        simp only [Bool.and_false, hr9]
      rw [e] at hq
      exact hq
  · show am_G _ M_X10_behind _ 8 [some (.ref 0), some (.int (nI (eM b))), some (.int (oI x)), some (.int (nI w)), some (.int (nI 1)), none, none, none, none, none] [.int (nI 0)] σ
    refine am_if (ty := 11) (tn := 13) rfl (by decide) rfl rfl (fun (h_13 : nI 0 = 0) => ?_) (fun (h_13 : ¬ (nI 0 = 0)) => ?_)
    rotate_left
    · exact absurd (by decide) h_13
    refine am_run 1 (pc' := 12) (ls' := [some (.ref 0), some (.int (nI (eM b))), some (.int (oI x)), some (.int (nI w)), some (.int (nI 1)), none, none, none, none, none]) (st' := [.int (nI (eM b))]) (σ' := σ) rfl ?_
    refine am_reti rfl rfl ?_
    have e : r_flw b (an p 61 x ST (true && me b) E.1 E.2) = b := by unfold r_flw; rw [if_pos (by assumption)]
    rw [e] at hq
    exact hq

theorem x_cmp1 {c q : Nat} (h : q < 1048576) : nI (c * 1048576) ||| (nI q &&& nI 1048575) = nI (c * 1048576 + q) := by
  have e1 : nI q &&& nI 1048575 = nI q := by
    rw [show nI 1048575 = nI (1048576 - 1) from rfl, nx_mask (k := 20) q rfl, Nat.mod_eq_of_lt h]
  have e2 : q ||| 1048576 * c = q + 1048576 * c := nx_orAdd (k := 20) 1048576 rfl h
  rw [e1, nx_or, Nat.or_comm, Nat.mul_comm c 1048576, e2, Nat.add_comm]
theorem am_nm1 {a : Nat} (h : a < 2 ^ 31) : ¬ nI a = -1 := fun e => by
  have := congrArg Int32.toInt e
  rw [nI_toInt h, show (-1 : Int32).toInt = -1 by decide] at this
  omega
theorem am_nsub {a b : Nat} (h : b ≤ a) : nI a - nI b = nI (a - b) := by
  have : nI (a - b) + nI b = nI a := by rw [nI_add, Nat.sub_add_cancel h]
  rw [← this, Int32.add_sub_cancel]
set_option maxRecDepth 10000 in
set_option maxHeartbeats 1000000 in
theorem c_x_code {d : Nat} (hd : 1 ≤ d) {σ : am_M} {Q : am_Q} {c q : Nat} (hc : c ≤ 6) (hq2 : q < 1048576) (hq : Q (some (.int (nI c))) σ) : am_C d 38 [.int (nI (c * 1048576 + q))] σ Q := by
  refine am_enter' (M := M_X2_code) rfl rfl rfl (by omega) (ls := [some (.int (nI (c * 1048576 + q)))]) rfl (fun d' hd' => ?_)
  refine am_run 3 (pc' := 4) (ls' := [some (.int (nI (c * 1048576 + q)))]) (st' := [.int ((nI (c * 1048576 + q)) >>> ((nI 20) &&& 31))]) (σ' := σ) rfl ?_
  refine am_top (v' := nI c) (by rw [nx_shr (by omega) (by decide)]; congr 1; omega) ?_
  refine am_reti rfl rfl ?_
  exact hq
set_option maxRecDepth 10000 in
set_option maxHeartbeats 1000000 in
theorem c_x_codeN {d : Nat} (hd : 1 ≤ d) {σ : am_M} {Q : am_Q} (hq : Q (some (.int (-1))) σ) : am_C d 38 [.int (-1)] σ Q := by
  refine am_enter' (M := M_X2_code) rfl rfl rfl (by omega) (ls := [some (.int (-1))]) rfl (fun d' hd' => ?_)
  refine am_run 3 (pc' := 4) (ls' := [some (.int (-1))]) (st' := [.int ((-1) >>> ((nI 20) &&& 31))]) (σ' := σ) rfl ?_
  refine am_top (v' := -1) (by decide) ?_
  refine am_reti rfl rfl ?_
  exact hq
set_option maxRecDepth 10000 in
set_option maxHeartbeats 1000000 in
theorem c_x_points {d : Nat} (hd : 1 ≤ d) {σ : am_M} {Q : am_Q} {c q : Nat} (hc : c ≤ 6) (hq2 : q < 1048576) (hq : Q (some (.int (nI q))) σ) : am_C d 39 [.int (nI (c * 1048576 + q))] σ Q := by
  refine am_enter' (M := M_X2_points) rfl rfl rfl (by omega) (ls := [some (.int (nI (c * 1048576 + q)))]) rfl (fun d' hd' => ?_)
  refine am_run 3 (pc' := 4) (ls' := [some (.int (nI (c * 1048576 + q)))]) (st' := [.int (nI (c * 1048576 + q) &&& nI 1048575)]) (σ' := σ) rfl ?_
  refine am_top (v' := nI q) (by rw [show nI 1048575 = nI (1048576 - 1) from rfl, nx_mask (k := 20) _ rfl]; congr 1; omega) ?_
  refine am_reti rfl rfl ?_
  exact hq
set_option maxRecDepth 10000 in
set_option maxHeartbeats 1000000 in
theorem c_x_completion {d : Nat} (hd : 1 ≤ d) {σ : am_M} {Q : am_Q} {c q : Nat} (hc : c ≤ 6) (hq2 : q < 1048576) (hq : Q (some (.int (nI (c * 1048576 + (if c = 1 then q else 0))))) σ) : am_C d 40 [.int (nI c), .int (nI q)] σ Q := by
  refine am_enter' (M := M_X2_completion) rfl rfl rfl (by omega) (ls := [some (.int (nI c)), some (.int (nI q))]) rfl (fun d' hd' => ?_)
  refine am_run 3 (pc' := 4) (ls' := [some (.int (nI c)), some (.int (nI q))]) (st' := [.int ((nI c) <<< ((nI 20) &&& 31))]) (σ' := σ) rfl ?_
  refine am_top (v' := nI (c * 1048576)) (nx_shl c (by decide)) ?_
  refine am_run 2 (pc' := 6) (ls' := [some (.int (nI c)), some (.int (nI q))]) (st' := [.int (nI 1), .int (nI c), .int (nI (c * 1048576))]) (σ' := σ) rfl ?_
  refine am_ic (ty := 9) (tn := 16) rfl (by decide) rfl rfl (fun (h_1 : nI c = nI 1) => ?_) (fun (h_1 : ¬ (nI c = nI 1)) => ?_)
  · have h_1 : c = 1 := (nI_eq (by omega) (by omega)).mp h_1
    refine am_run 5 (pc' := 18) (ls' := [some (.int (nI c)), some (.int (nI q))]) (st' := [.int (nI (c * 1048576) ||| (nI q &&& nI 1048575))]) (σ' := σ) rfl ?_
    refine am_reti rfl rfl ?_
    rw [if_pos h_1] at hq
    rw [x_cmp1 hq2]
    exact hq
  · have h_1 : ¬ (c = 1) := fun z => h_1 ((nI_eq (by omega) (by omega)).mpr z)
    refine am_run 2 (pc' := 18) (ls' := [some (.int (nI c)), some (.int (nI q))]) (st' := [.int (nI (c * 1048576) ||| nI 0)]) (σ' := σ) rfl ?_
    refine am_reti rfl rfl ?_
    rw [if_neg h_1, Nat.add_zero] at hq
    rw [nx_or, Nat.or_zero]
    exact hq
set_option maxRecDepth 10000 in
set_option maxHeartbeats 1000000 in
theorem c_x_ofChoice {d : Nat} {σ : am_M} {t n : Nat} {p : Pg} (hW : PW p n) (hR : TR σ t p n) {f dep : Nat} (hAN : AN σ t p n f dep) (hEX : EX σ t p n f dep) (hd : 8 * f + 14 ≤ d) {k s P : Nat} (hk : k < n) (hs : s ≤ 1048576) (hP : P < 256) (ht : p 0 k = 63) {Q : am_Q} (hqn : exB p (ex p f) (an p f) k s P = none → Q (some (.int (-1))) σ) (hqs : ∀ c q, exB p (ex p f) (an p f) k s P = some (c, q) → Q (some (.int (nI (c * 1048576 + q)))) σ) : am_C d 42 [.ref t, .int (nI k), .int (nI s), .int (nI P), .int (nI dep)] σ Q := by
  obtain ⟨w0, w1, w2, w3, w4, w5, w6⟩ := hW.2 k hk
  have hg1 : 1 ≤ p 1 k := w5 (by rw [ht]; decide)
  by_cases hs1 : s = 1048576
  · subst hs1
    refine am_enter' (M := M_X2_ofChoice) rfl rfl rfl (by omega) (ls := [some (.ref t), some (.int (nI k)), some (.int (nI 1048576)), some (.int (nI P)), some (.int (nI dep)), none, none, none]) rfl (fun d' hd' => ?_)
    refine am_run 2 (pc' := 2) (ls' := [some (.ref t), some (.int (nI k)), some (.int (nI 1048576)), some (.int (nI P)), some (.int (nI dep)), none, none, none]) (st' := [.int (nI k), .ref t]) (σ' := σ) rfl ?_
    refine am_invv (y := 115) (b := t) (as := [.int (nI k)]) (rest := []) rfl rfl rfl rfl rfl rfl (TR_kind hR) (Nat.le_of_ble_eq_true rfl) ?_
    refine c_leftOf (by omega) hW hR hk ?_
    show am_G _ M_X2_ofChoice _ 5 [some (.ref t), some (.int (nI k)), some (.int (nI 1048576)), some (.int (nI P)), some (.int (nI dep)), none, none, none] [.int (oI (p 2 k))] σ
    refine am_run 4 (pc' := 10) (ls' := [some (.ref t), some (.int (nI k)), some (.int (nI 1048576)), some (.int (nI P)), some (.int (nI dep)), some (.int (oI (p 2 k))), none, none]) (st' := [.int (nI k), .ref t, .int (nI P)]) (σ' := σ) rfl ?_
    refine am_invv (y := 118) (b := t) (as := [.int (nI k)]) (rest := [.int (nI P)]) rfl rfl rfl rfl rfl rfl (TR_kind hR) (Nat.le_of_ble_eq_true rfl) ?_
    refine c_signalOf (by omega) hW hR hk (g := p 1 k - 1) (by omega) ?_
    show am_G _ M_X2_ofChoice _ 13 [some (.ref t), some (.int (nI k)), some (.int (nI 1048576)), some (.int (nI P)), some (.int (nI dep)), some (.int (oI (p 2 k))), none, none] [.int (nI (2 ^ (p 1 k - 1))), .int (nI P)] σ
    refine am_run 1 (pc' := 14) (ls' := [some (.ref t), some (.int (nI k)), some (.int (nI 1048576)), some (.int (nI P)), some (.int (nI dep)), some (.int (oI (p 2 k))), none, none]) (st' := [.int (nI P &&& nI (2 ^ (p 1 k - 1)))]) (σ' := σ) rfl ?_
    refine am_if (ty := 21) (tn := 17) rfl (by decide) rfl rfl (fun (h_1 : nI P &&& nI (2 ^ (p 1 k - 1)) = 0) => ?_) (fun (h_1 : ¬ (nI P &&& nI (2 ^ (p 1 k - 1)) = 0)) => ?_)
    · have h_1 : P.testBit (p 1 k - 1) = false := (nx_has (a := P) (s := p 1 k - 1) (by omega) (by omega)).mp h_1
      refine am_run 4 (pc' := 27) (ls' := [some (.ref t), some (.int (nI k)), some (.int (nI 1048576)), some (.int (nI P)), some (.int (nI dep)), some (.int (oI (p 2 k))), some (.int (nI 0)), none]) (st' := [.int (nI 1048576), .int (nI 1048576)]) (σ' := σ) rfl ?_
      refine am_ic (ty := 30) (tn := 35) rfl (by decide) rfl rfl (fun (h_2 : nI 1048576 = nI 1048576) => ?_) (fun (h_2 : ¬ (nI 1048576 = nI 1048576)) => ?_)
      rotate_left
      · exact absurd (by decide) h_2
      refine am_run 5 (pc' := 47) (ls' := [some (.ref t), some (.int (nI k)), some (.int (nI 1048576)), some (.int (nI P)), some (.int (nI dep)), some (.int (oI (p 2 k))), some (.int (nI 0)), some (.int (nI 0))]) (st' := [.int (nI 0), .ref t]) (σ' := σ) rfl ?_
      refine am_if (ty := 55) (tn := 50) rfl (by decide) rfl rfl (fun (h_3 : nI 0 = 0) => ?_) (fun (h_3 : ¬ (nI 0 = 0)) => ?_)
      rotate_left
      · exact absurd (by decide) h_3
      refine am_run 2 (pc' := 57) (ls' := [some (.ref t), some (.int (nI k)), some (.int (nI 1048576)), some (.int (nI P)), some (.int (nI dep)), some (.int (oI (p 2 k))), some (.int (nI 0)), some (.int (nI 0))]) (st' := [.int (nI k), .ref t, .ref t]) (σ' := σ) rfl ?_
      refine am_invv (y := 116) (b := t) (as := [.int (nI k)]) (rest := [.ref t]) rfl rfl rfl rfl rfl rfl (TR_kind hR) (Nat.le_of_ble_eq_true rfl) ?_
      refine c_rightOf (by omega) hW hR hk ?_
      show am_G _ M_X2_ofChoice _ 60 [some (.ref t), some (.int (nI k)), some (.int (nI 1048576)), some (.int (nI P)), some (.int (nI dep)), some (.int (oI (p 2 k))), some (.int (nI 0)), some (.int (nI 0))] [.int (oI (p 3 k)), .ref t] σ
      refine am_run 3 (pc' := 64) (ls' := [some (.ref t), some (.int (nI k)), some (.int (nI 1048576)), some (.int (nI P)), some (.int (nI dep)), some (.int (oI (p 2 k))), some (.int (nI 0)), some (.int (nI 0))]) (st' := [.int (nI dep), .int (nI P), .int (nI 1048576), .int (oI (p 3 k)), .ref t]) (σ' := σ) rfl ?_
      refine am_invs (y := 41) (as := [.ref t, .int (oI (p 3 k)), .int (nI 1048576), .int (nI P), .int (nI dep)]) (rest := []) rfl rfl rfl rfl rfl rfl (Nat.le_of_ble_eq_true rfl) ?_
      refine hEX _ (by omega) (p 3 k) 1048576 P _ w3 (by omega) hP (fun he4 => ?_) (fun c4 q4 he4 hc4 hq4 hz4 => ?_)
      · show am_G _ M_X2_ofChoice _ 67 [some (.ref t), some (.int (nI k)), some (.int (nI 1048576)), some (.int (nI P)), some (.int (nI dep)), some (.int (oI (p 2 k))), some (.int (nI 0)), some (.int (nI 0))] [.int (-1)] σ
        refine am_reti rfl rfl ?_
        have e : exB p (ex p f) (an p f) k 1048576 P = none := by
          rw [exB_63 ht]
          first | rfl | (simp only [*, if_true, if_false, ne_eq, not_false_eq_true, not_true_eq_false, true_or, false_or, or_false, or_true, or_self, and_true, true_and, and_false, false_and, and_self, Bool.false_eq_true, Bool.true_eq_false, reduceIte, Bool.and_true, Bool.and_false, Bool.true_and, Bool.false_and, x_seq, x_par, x_trap, x_weak, Option.map_some, Option.map_none, Option.some.injEq, cpl, reduceCtorEq, Nat.max_def]; done) | (simp only [*, if_true, if_false, ne_eq, not_false_eq_true, not_true_eq_false, true_or, false_or, or_false, or_true, or_self, and_true, true_and, and_false, false_and, and_self, Bool.false_eq_true, Bool.true_eq_false, reduceIte, Bool.and_true, Bool.and_false, Bool.true_and, Bool.false_and, x_seq, x_par, x_trap, x_weak, Option.map_some, Option.map_none, Option.some.injEq, cpl, reduceCtorEq, Nat.max_def]; rfl)
        exact hqn e
      · show am_G _ M_X2_ofChoice _ 67 [some (.ref t), some (.int (nI k)), some (.int (nI 1048576)), some (.int (nI P)), some (.int (nI dep)), some (.int (oI (p 2 k))), some (.int (nI 0)), some (.int (nI 0))] [.int (nI (c4 * 1048576 + q4))] σ
        refine am_reti rfl rfl ?_
        have e : exB p (ex p f) (an p f) k 1048576 P = some (c4, q4) := by
          rw [exB_63 ht]
          first | rfl | (simp only [*, if_true, if_false, ne_eq, not_false_eq_true, not_true_eq_false, true_or, false_or, or_false, or_true, or_self, and_true, true_and, and_false, false_and, and_self, Bool.false_eq_true, Bool.true_eq_false, reduceIte, Bool.and_true, Bool.and_false, Bool.true_and, Bool.false_and, x_seq, x_par, x_trap, x_weak, Option.map_some, Option.map_none, Option.some.injEq, cpl, reduceCtorEq, Nat.max_def]; done) | (simp only [*, if_true, if_false, ne_eq, not_false_eq_true, not_true_eq_false, true_or, false_or, or_false, or_true, or_self, and_true, true_and, and_false, false_and, and_self, Bool.false_eq_true, Bool.true_eq_false, reduceIte, Bool.and_true, Bool.and_false, Bool.true_and, Bool.false_and, x_seq, x_par, x_trap, x_weak, Option.map_some, Option.map_none, Option.some.injEq, cpl, reduceCtorEq, Nat.max_def]; rfl)
        exact hqs _ _ e
    · have h_1 : P.testBit (p 1 k - 1) = true := by simpa using fun z => h_1 ((nx_has (a := P) (s := p 1 k - 1) (by omega) (by omega)).mpr z)
      refine am_run 5 (pc' := 27) (ls' := [some (.ref t), some (.int (nI k)), some (.int (nI 1048576)), some (.int (nI P)), some (.int (nI dep)), some (.int (oI (p 2 k))), some (.int (nI 1)), none]) (st' := [.int (nI 1048576), .int (nI 1048576)]) (σ' := σ) rfl ?_
      refine am_ic (ty := 30) (tn := 35) rfl (by decide) rfl rfl (fun (h_5 : nI 1048576 = nI 1048576) => ?_) (fun (h_5 : ¬ (nI 1048576 = nI 1048576)) => ?_)
      rotate_left
      · exact absurd (by decide) h_5
      refine am_run 5 (pc' := 47) (ls' := [some (.ref t), some (.int (nI k)), some (.int (nI 1048576)), some (.int (nI P)), some (.int (nI dep)), some (.int (oI (p 2 k))), some (.int (nI 1)), some (.int (nI 1))]) (st' := [.int (nI 1), .ref t]) (σ' := σ) rfl ?_
      refine am_if (ty := 55) (tn := 50) rfl (by decide) rfl rfl (fun (h_6 : nI 1 = 0) => ?_) (fun (h_6 : ¬ (nI 1 = 0)) => ?_)
      · exact absurd h_6 (by decide)
      refine am_run 5 (pc' := 64) (ls' := [some (.ref t), some (.int (nI k)), some (.int (nI 1048576)), some (.int (nI P)), some (.int (nI dep)), some (.int (oI (p 2 k))), some (.int (nI 1)), some (.int (nI 1))]) (st' := [.int (nI dep), .int (nI P), .int (nI 1048576), .int (oI (p 2 k)), .ref t]) (σ' := σ) rfl ?_
      refine am_invs (y := 41) (as := [.ref t, .int (oI (p 2 k)), .int (nI 1048576), .int (nI P), .int (nI dep)]) (rest := []) rfl rfl rfl rfl rfl rfl (Nat.le_of_ble_eq_true rfl) ?_
      refine hEX _ (by omega) (p 2 k) 1048576 P _ w2 (by omega) hP (fun he7 => ?_) (fun c7 q7 he7 hc7 hq7 hz7 => ?_)
      · show am_G _ M_X2_ofChoice _ 67 [some (.ref t), some (.int (nI k)), some (.int (nI 1048576)), some (.int (nI P)), some (.int (nI dep)), some (.int (oI (p 2 k))), some (.int (nI 1)), some (.int (nI 1))] [.int (-1)] σ
        refine am_reti rfl rfl ?_
        have e : exB p (ex p f) (an p f) k 1048576 P = none := by
          rw [exB_63 ht]
          first | rfl | (simp only [*, if_true, if_false, ne_eq, not_false_eq_true, not_true_eq_false, true_or, false_or, or_false, or_true, or_self, and_true, true_and, and_false, false_and, and_self, Bool.false_eq_true, Bool.true_eq_false, reduceIte, Bool.and_true, Bool.and_false, Bool.true_and, Bool.false_and, x_seq, x_par, x_trap, x_weak, Option.map_some, Option.map_none, Option.some.injEq, cpl, reduceCtorEq, Nat.max_def]; done) | (simp only [*, if_true, if_false, ne_eq, not_false_eq_true, not_true_eq_false, true_or, false_or, or_false, or_true, or_self, and_true, true_and, and_false, false_and, and_self, Bool.false_eq_true, Bool.true_eq_false, reduceIte, Bool.and_true, Bool.and_false, Bool.true_and, Bool.false_and, x_seq, x_par, x_trap, x_weak, Option.map_some, Option.map_none, Option.some.injEq, cpl, reduceCtorEq, Nat.max_def]; rfl)
        exact hqn e
      · show am_G _ M_X2_ofChoice _ 67 [some (.ref t), some (.int (nI k)), some (.int (nI 1048576)), some (.int (nI P)), some (.int (nI dep)), some (.int (oI (p 2 k))), some (.int (nI 1)), some (.int (nI 1))] [.int (nI (c7 * 1048576 + q7))] σ
        refine am_reti rfl rfl ?_
        have e : exB p (ex p f) (an p f) k 1048576 P = some (c7, q7) := by
          rw [exB_63 ht]
          first | rfl | (simp only [*, if_true, if_false, ne_eq, not_false_eq_true, not_true_eq_false, true_or, false_or, or_false, or_true, or_self, and_true, true_and, and_false, false_and, and_self, Bool.false_eq_true, Bool.true_eq_false, reduceIte, Bool.and_true, Bool.and_false, Bool.true_and, Bool.false_and, x_seq, x_par, x_trap, x_weak, Option.map_some, Option.map_none, Option.some.injEq, cpl, reduceCtorEq, Nat.max_def]; done) | (simp only [*, if_true, if_false, ne_eq, not_false_eq_true, not_true_eq_false, true_or, false_or, or_false, or_true, or_self, and_true, true_and, and_false, false_and, and_self, Bool.false_eq_true, Bool.true_eq_false, reduceIte, Bool.and_true, Bool.and_false, Bool.true_and, Bool.false_and, x_seq, x_par, x_trap, x_weak, Option.map_some, Option.map_none, Option.some.injEq, cpl, reduceCtorEq, Nat.max_def]; rfl)
        exact hqs _ _ e
  · skip
    refine am_enter' (M := M_X2_ofChoice) rfl rfl rfl (by omega) (ls := [some (.ref t), some (.int (nI k)), some (.int (nI s)), some (.int (nI P)), some (.int (nI dep)), none, none, none]) rfl (fun d' hd' => ?_)
    refine am_run 2 (pc' := 2) (ls' := [some (.ref t), some (.int (nI k)), some (.int (nI s)), some (.int (nI P)), some (.int (nI dep)), none, none, none]) (st' := [.int (nI k), .ref t]) (σ' := σ) rfl ?_
    refine am_invv (y := 115) (b := t) (as := [.int (nI k)]) (rest := []) rfl rfl rfl rfl rfl rfl (TR_kind hR) (Nat.le_of_ble_eq_true rfl) ?_
    refine c_leftOf (by omega) hW hR hk ?_
    show am_G _ M_X2_ofChoice _ 5 [some (.ref t), some (.int (nI k)), some (.int (nI s)), some (.int (nI P)), some (.int (nI dep)), none, none, none] [.int (oI (p 2 k))] σ
    refine am_run 4 (pc' := 10) (ls' := [some (.ref t), some (.int (nI k)), some (.int (nI s)), some (.int (nI P)), some (.int (nI dep)), some (.int (oI (p 2 k))), none, none]) (st' := [.int (nI k), .ref t, .int (nI P)]) (σ' := σ) rfl ?_
    refine am_invv (y := 118) (b := t) (as := [.int (nI k)]) (rest := [.int (nI P)]) rfl rfl rfl rfl rfl rfl (TR_kind hR) (Nat.le_of_ble_eq_true rfl) ?_
    refine c_signalOf (by omega) hW hR hk (g := p 1 k - 1) (by omega) ?_
    show am_G _ M_X2_ofChoice _ 13 [some (.ref t), some (.int (nI k)), some (.int (nI s)), some (.int (nI P)), some (.int (nI dep)), some (.int (oI (p 2 k))), none, none] [.int (nI (2 ^ (p 1 k - 1))), .int (nI P)] σ
    refine am_run 1 (pc' := 14) (ls' := [some (.ref t), some (.int (nI k)), some (.int (nI s)), some (.int (nI P)), some (.int (nI dep)), some (.int (oI (p 2 k))), none, none]) (st' := [.int (nI P &&& nI (2 ^ (p 1 k - 1)))]) (σ' := σ) rfl ?_
    refine am_if (ty := 21) (tn := 17) rfl (by decide) rfl rfl (fun (h_1 : nI P &&& nI (2 ^ (p 1 k - 1)) = 0) => ?_) (fun (h_1 : ¬ (nI P &&& nI (2 ^ (p 1 k - 1)) = 0)) => ?_)
    · have h_1 : P.testBit (p 1 k - 1) = false := (nx_has (a := P) (s := p 1 k - 1) (by omega) (by omega)).mp h_1
      refine am_run 4 (pc' := 27) (ls' := [some (.ref t), some (.int (nI k)), some (.int (nI s)), some (.int (nI P)), some (.int (nI dep)), some (.int (oI (p 2 k))), some (.int (nI 0)), none]) (st' := [.int (nI 1048576), .int (nI s)]) (σ' := σ) rfl ?_
      refine am_ic (ty := 30) (tn := 35) rfl (by decide) rfl rfl (fun (h_2 : nI s = nI 1048576) => ?_) (fun (h_2 : ¬ (nI s = nI 1048576)) => ?_)
      · have h_2 : s = 1048576 := (nI_eq (by omega) (by omega)).mp h_2
        exact absurd h_2 hs1
      have h_2 : ¬ (s = 1048576) := fun z => h_2 ((nI_eq (by omega) (by omega)).mpr z)
      refine am_run 3 (pc' := 39) (ls' := [some (.ref t), some (.int (nI k)), some (.int (nI s)), some (.int (nI P)), some (.int (nI dep)), some (.int (oI (p 2 k))), some (.int (nI 0)), none]) (st' := [.int (nI s), .int (oI (p 2 k)), .ref t]) (σ' := σ) rfl ?_
      refine am_invv (y := 119) (b := t) (as := [.int (oI (p 2 k)), .int (nI s)]) (rest := []) rfl rfl rfl rfl rfl rfl (TR_kind hR) (Nat.le_of_ble_eq_true rfl) ?_
      refine c_lv2 (by omega) hW hR w2 (fun hl_3 => ?_) (fun hl_3 => ?_)
      · show am_G _ M_X2_ofChoice _ 42 [some (.ref t), some (.int (nI k)), some (.int (nI s)), some (.int (nI P)), some (.int (nI dep)), some (.int (oI (p 2 k))), some (.int (nI 0)), none] [.int (nI 1)] σ
        refine am_run 3 (pc' := 47) (ls' := [some (.ref t), some (.int (nI k)), some (.int (nI s)), some (.int (nI P)), some (.int (nI dep)), some (.int (oI (p 2 k))), some (.int (nI 0)), some (.int (nI 1))]) (st' := [.int (nI 1), .ref t]) (σ' := σ) rfl ?_
        refine am_if (ty := 55) (tn := 50) rfl (by decide) rfl rfl (fun (h_4 : nI 1 = 0) => ?_) (fun (h_4 : ¬ (nI 1 = 0)) => ?_)
        · exact absurd h_4 (by decide)
        refine am_run 5 (pc' := 64) (ls' := [some (.ref t), some (.int (nI k)), some (.int (nI s)), some (.int (nI P)), some (.int (nI dep)), some (.int (oI (p 2 k))), some (.int (nI 0)), some (.int (nI 1))]) (st' := [.int (nI dep), .int (nI P), .int (nI s), .int (oI (p 2 k)), .ref t]) (σ' := σ) rfl ?_
        refine am_invs (y := 41) (as := [.ref t, .int (oI (p 2 k)), .int (nI s), .int (nI P), .int (nI dep)]) (rest := []) rfl rfl rfl rfl rfl rfl (Nat.le_of_ble_eq_true rfl) ?_
        refine hEX _ (by omega) (p 2 k) s P _ w2 (by omega) hP (fun he5 => ?_) (fun c5 q5 he5 hc5 hq5 hz5 => ?_)
        · show am_G _ M_X2_ofChoice _ 67 [some (.ref t), some (.int (nI k)), some (.int (nI s)), some (.int (nI P)), some (.int (nI dep)), some (.int (oI (p 2 k))), some (.int (nI 0)), some (.int (nI 1))] [.int (-1)] σ
          refine am_reti rfl rfl ?_
          have e : exB p (ex p f) (an p f) k s P = none := by
            rw [exB_63 ht]
            first | rfl | (simp only [*, if_true, if_false, ne_eq, not_false_eq_true, not_true_eq_false, true_or, false_or, or_false, or_true, or_self, and_true, true_and, and_false, false_and, and_self, Bool.false_eq_true, Bool.true_eq_false, reduceIte, Bool.and_true, Bool.and_false, Bool.true_and, Bool.false_and, x_seq, x_par, x_trap, x_weak, Option.map_some, Option.map_none, Option.some.injEq, cpl, reduceCtorEq, Nat.max_def]; done) | (simp only [*, if_true, if_false, ne_eq, not_false_eq_true, not_true_eq_false, true_or, false_or, or_false, or_true, or_self, and_true, true_and, and_false, false_and, and_self, Bool.false_eq_true, Bool.true_eq_false, reduceIte, Bool.and_true, Bool.and_false, Bool.true_and, Bool.false_and, x_seq, x_par, x_trap, x_weak, Option.map_some, Option.map_none, Option.some.injEq, cpl, reduceCtorEq, Nat.max_def]; rfl)
          exact hqn e
        · show am_G _ M_X2_ofChoice _ 67 [some (.ref t), some (.int (nI k)), some (.int (nI s)), some (.int (nI P)), some (.int (nI dep)), some (.int (oI (p 2 k))), some (.int (nI 0)), some (.int (nI 1))] [.int (nI (c5 * 1048576 + q5))] σ
          refine am_reti rfl rfl ?_
          have e : exB p (ex p f) (an p f) k s P = some (c5, q5) := by
            rw [exB_63 ht]
            first | rfl | (simp only [*, if_true, if_false, ne_eq, not_false_eq_true, not_true_eq_false, true_or, false_or, or_false, or_true, or_self, and_true, true_and, and_false, false_and, and_self, Bool.false_eq_true, Bool.true_eq_false, reduceIte, Bool.and_true, Bool.and_false, Bool.true_and, Bool.false_and, x_seq, x_par, x_trap, x_weak, Option.map_some, Option.map_none, Option.some.injEq, cpl, reduceCtorEq, Nat.max_def]; done) | (simp only [*, if_true, if_false, ne_eq, not_false_eq_true, not_true_eq_false, true_or, false_or, or_false, or_true, or_self, and_true, true_and, and_false, false_and, and_self, Bool.false_eq_true, Bool.true_eq_false, reduceIte, Bool.and_true, Bool.and_false, Bool.true_and, Bool.false_and, x_seq, x_par, x_trap, x_weak, Option.map_some, Option.map_none, Option.some.injEq, cpl, reduceCtorEq, Nat.max_def]; rfl)
          exact hqs _ _ e
      · show am_G _ M_X2_ofChoice _ 42 [some (.ref t), some (.int (nI k)), some (.int (nI s)), some (.int (nI P)), some (.int (nI dep)), some (.int (oI (p 2 k))), some (.int (nI 0)), none] [.int (nI 0)] σ
        refine am_run 3 (pc' := 47) (ls' := [some (.ref t), some (.int (nI k)), some (.int (nI s)), some (.int (nI P)), some (.int (nI dep)), some (.int (oI (p 2 k))), some (.int (nI 0)), some (.int (nI 0))]) (st' := [.int (nI 0), .ref t]) (σ' := σ) rfl ?_
        refine am_if (ty := 55) (tn := 50) rfl (by decide) rfl rfl (fun (h_6 : nI 0 = 0) => ?_) (fun (h_6 : ¬ (nI 0 = 0)) => ?_)
        rotate_left
        · exact absurd (by decide) h_6
        refine am_run 2 (pc' := 57) (ls' := [some (.ref t), some (.int (nI k)), some (.int (nI s)), some (.int (nI P)), some (.int (nI dep)), some (.int (oI (p 2 k))), some (.int (nI 0)), some (.int (nI 0))]) (st' := [.int (nI k), .ref t, .ref t]) (σ' := σ) rfl ?_
        refine am_invv (y := 116) (b := t) (as := [.int (nI k)]) (rest := [.ref t]) rfl rfl rfl rfl rfl rfl (TR_kind hR) (Nat.le_of_ble_eq_true rfl) ?_
        refine c_rightOf (by omega) hW hR hk ?_
        show am_G _ M_X2_ofChoice _ 60 [some (.ref t), some (.int (nI k)), some (.int (nI s)), some (.int (nI P)), some (.int (nI dep)), some (.int (oI (p 2 k))), some (.int (nI 0)), some (.int (nI 0))] [.int (oI (p 3 k)), .ref t] σ
        refine am_run 3 (pc' := 64) (ls' := [some (.ref t), some (.int (nI k)), some (.int (nI s)), some (.int (nI P)), some (.int (nI dep)), some (.int (oI (p 2 k))), some (.int (nI 0)), some (.int (nI 0))]) (st' := [.int (nI dep), .int (nI P), .int (nI s), .int (oI (p 3 k)), .ref t]) (σ' := σ) rfl ?_
        refine am_invs (y := 41) (as := [.ref t, .int (oI (p 3 k)), .int (nI s), .int (nI P), .int (nI dep)]) (rest := []) rfl rfl rfl rfl rfl rfl (Nat.le_of_ble_eq_true rfl) ?_
        refine hEX _ (by omega) (p 3 k) s P _ w3 (by omega) hP (fun he7 => ?_) (fun c7 q7 he7 hc7 hq7 hz7 => ?_)
        · show am_G _ M_X2_ofChoice _ 67 [some (.ref t), some (.int (nI k)), some (.int (nI s)), some (.int (nI P)), some (.int (nI dep)), some (.int (oI (p 2 k))), some (.int (nI 0)), some (.int (nI 0))] [.int (-1)] σ
          refine am_reti rfl rfl ?_
          have e : exB p (ex p f) (an p f) k s P = none := by
            rw [exB_63 ht]
            first | rfl | (simp only [*, if_true, if_false, ne_eq, not_false_eq_true, not_true_eq_false, true_or, false_or, or_false, or_true, or_self, and_true, true_and, and_false, false_and, and_self, Bool.false_eq_true, Bool.true_eq_false, reduceIte, Bool.and_true, Bool.and_false, Bool.true_and, Bool.false_and, x_seq, x_par, x_trap, x_weak, Option.map_some, Option.map_none, Option.some.injEq, cpl, reduceCtorEq, Nat.max_def]; done) | (simp only [*, if_true, if_false, ne_eq, not_false_eq_true, not_true_eq_false, true_or, false_or, or_false, or_true, or_self, and_true, true_and, and_false, false_and, and_self, Bool.false_eq_true, Bool.true_eq_false, reduceIte, Bool.and_true, Bool.and_false, Bool.true_and, Bool.false_and, x_seq, x_par, x_trap, x_weak, Option.map_some, Option.map_none, Option.some.injEq, cpl, reduceCtorEq, Nat.max_def]; rfl)
          exact hqn e
        · show am_G _ M_X2_ofChoice _ 67 [some (.ref t), some (.int (nI k)), some (.int (nI s)), some (.int (nI P)), some (.int (nI dep)), some (.int (oI (p 2 k))), some (.int (nI 0)), some (.int (nI 0))] [.int (nI (c7 * 1048576 + q7))] σ
          refine am_reti rfl rfl ?_
          have e : exB p (ex p f) (an p f) k s P = some (c7, q7) := by
            rw [exB_63 ht]
            first | rfl | (simp only [*, if_true, if_false, ne_eq, not_false_eq_true, not_true_eq_false, true_or, false_or, or_false, or_true, or_self, and_true, true_and, and_false, false_and, and_self, Bool.false_eq_true, Bool.true_eq_false, reduceIte, Bool.and_true, Bool.and_false, Bool.true_and, Bool.false_and, x_seq, x_par, x_trap, x_weak, Option.map_some, Option.map_none, Option.some.injEq, cpl, reduceCtorEq, Nat.max_def]; done) | (simp only [*, if_true, if_false, ne_eq, not_false_eq_true, not_true_eq_false, true_or, false_or, or_false, or_true, or_self, and_true, true_and, and_false, false_and, and_self, Bool.false_eq_true, Bool.true_eq_false, reduceIte, Bool.and_true, Bool.and_false, Bool.true_and, Bool.false_and, x_seq, x_par, x_trap, x_weak, Option.map_some, Option.map_none, Option.some.injEq, cpl, reduceCtorEq, Nat.max_def]; rfl)
          exact hqs _ _ e
    · have h_1 : P.testBit (p 1 k - 1) = true := by simpa using fun z => h_1 ((nx_has (a := P) (s := p 1 k - 1) (by omega) (by omega)).mpr z)
      refine am_run 5 (pc' := 27) (ls' := [some (.ref t), some (.int (nI k)), some (.int (nI s)), some (.int (nI P)), some (.int (nI dep)), some (.int (oI (p 2 k))), some (.int (nI 1)), none]) (st' := [.int (nI 1048576), .int (nI s)]) (σ' := σ) rfl ?_
      refine am_ic (ty := 30) (tn := 35) rfl (by decide) rfl rfl (fun (h_8 : nI s = nI 1048576) => ?_) (fun (h_8 : ¬ (nI s = nI 1048576)) => ?_)
      · have h_8 : s = 1048576 := (nI_eq (by omega) (by omega)).mp h_8
        exact absurd h_8 hs1
      have h_8 : ¬ (s = 1048576) := fun z => h_8 ((nI_eq (by omega) (by omega)).mpr z)
      refine am_run 3 (pc' := 39) (ls' := [some (.ref t), some (.int (nI k)), some (.int (nI s)), some (.int (nI P)), some (.int (nI dep)), some (.int (oI (p 2 k))), some (.int (nI 1)), none]) (st' := [.int (nI s), .int (oI (p 2 k)), .ref t]) (σ' := σ) rfl ?_
      refine am_invv (y := 119) (b := t) (as := [.int (oI (p 2 k)), .int (nI s)]) (rest := []) rfl rfl rfl rfl rfl rfl (TR_kind hR) (Nat.le_of_ble_eq_true rfl) ?_
      refine c_lv2 (by omega) hW hR w2 (fun hl_9 => ?_) (fun hl_9 => ?_)
      · show am_G _ M_X2_ofChoice _ 42 [some (.ref t), some (.int (nI k)), some (.int (nI s)), some (.int (nI P)), some (.int (nI dep)), some (.int (oI (p 2 k))), some (.int (nI 1)), none] [.int (nI 1)] σ
        refine am_run 3 (pc' := 47) (ls' := [some (.ref t), some (.int (nI k)), some (.int (nI s)), some (.int (nI P)), some (.int (nI dep)), some (.int (oI (p 2 k))), some (.int (nI 1)), some (.int (nI 1))]) (st' := [.int (nI 1), .ref t]) (σ' := σ) rfl ?_
        refine am_if (ty := 55) (tn := 50) rfl (by decide) rfl rfl (fun (h_10 : nI 1 = 0) => ?_) (fun (h_10 : ¬ (nI 1 = 0)) => ?_)
        · exact absurd h_10 (by decide)
        refine am_run 5 (pc' := 64) (ls' := [some (.ref t), some (.int (nI k)), some (.int (nI s)), some (.int (nI P)), some (.int (nI dep)), some (.int (oI (p 2 k))), some (.int (nI 1)), some (.int (nI 1))]) (st' := [.int (nI dep), .int (nI P), .int (nI s), .int (oI (p 2 k)), .ref t]) (σ' := σ) rfl ?_
        refine am_invs (y := 41) (as := [.ref t, .int (oI (p 2 k)), .int (nI s), .int (nI P), .int (nI dep)]) (rest := []) rfl rfl rfl rfl rfl rfl (Nat.le_of_ble_eq_true rfl) ?_
        refine hEX _ (by omega) (p 2 k) s P _ w2 (by omega) hP (fun he11 => ?_) (fun c11 q11 he11 hc11 hq11 hz11 => ?_)
        · show am_G _ M_X2_ofChoice _ 67 [some (.ref t), some (.int (nI k)), some (.int (nI s)), some (.int (nI P)), some (.int (nI dep)), some (.int (oI (p 2 k))), some (.int (nI 1)), some (.int (nI 1))] [.int (-1)] σ
          refine am_reti rfl rfl ?_
          have e : exB p (ex p f) (an p f) k s P = none := by
            rw [exB_63 ht]
            first | rfl | (simp only [*, if_true, if_false, ne_eq, not_false_eq_true, not_true_eq_false, true_or, false_or, or_false, or_true, or_self, and_true, true_and, and_false, false_and, and_self, Bool.false_eq_true, Bool.true_eq_false, reduceIte, Bool.and_true, Bool.and_false, Bool.true_and, Bool.false_and, x_seq, x_par, x_trap, x_weak, Option.map_some, Option.map_none, Option.some.injEq, cpl, reduceCtorEq, Nat.max_def]; done) | (simp only [*, if_true, if_false, ne_eq, not_false_eq_true, not_true_eq_false, true_or, false_or, or_false, or_true, or_self, and_true, true_and, and_false, false_and, and_self, Bool.false_eq_true, Bool.true_eq_false, reduceIte, Bool.and_true, Bool.and_false, Bool.true_and, Bool.false_and, x_seq, x_par, x_trap, x_weak, Option.map_some, Option.map_none, Option.some.injEq, cpl, reduceCtorEq, Nat.max_def]; rfl)
          exact hqn e
        · show am_G _ M_X2_ofChoice _ 67 [some (.ref t), some (.int (nI k)), some (.int (nI s)), some (.int (nI P)), some (.int (nI dep)), some (.int (oI (p 2 k))), some (.int (nI 1)), some (.int (nI 1))] [.int (nI (c11 * 1048576 + q11))] σ
          refine am_reti rfl rfl ?_
          have e : exB p (ex p f) (an p f) k s P = some (c11, q11) := by
            rw [exB_63 ht]
            first | rfl | (simp only [*, if_true, if_false, ne_eq, not_false_eq_true, not_true_eq_false, true_or, false_or, or_false, or_true, or_self, and_true, true_and, and_false, false_and, and_self, Bool.false_eq_true, Bool.true_eq_false, reduceIte, Bool.and_true, Bool.and_false, Bool.true_and, Bool.false_and, x_seq, x_par, x_trap, x_weak, Option.map_some, Option.map_none, Option.some.injEq, cpl, reduceCtorEq, Nat.max_def]; done) | (simp only [*, if_true, if_false, ne_eq, not_false_eq_true, not_true_eq_false, true_or, false_or, or_false, or_true, or_self, and_true, true_and, and_false, false_and, and_self, Bool.false_eq_true, Bool.true_eq_false, reduceIte, Bool.and_true, Bool.and_false, Bool.true_and, Bool.false_and, x_seq, x_par, x_trap, x_weak, Option.map_some, Option.map_none, Option.some.injEq, cpl, reduceCtorEq, Nat.max_def]; rfl)
          exact hqs _ _ e
      · show am_G _ M_X2_ofChoice _ 42 [some (.ref t), some (.int (nI k)), some (.int (nI s)), some (.int (nI P)), some (.int (nI dep)), some (.int (oI (p 2 k))), some (.int (nI 1)), none] [.int (nI 0)] σ
        refine am_run 3 (pc' := 47) (ls' := [some (.ref t), some (.int (nI k)), some (.int (nI s)), some (.int (nI P)), some (.int (nI dep)), some (.int (oI (p 2 k))), some (.int (nI 1)), some (.int (nI 0))]) (st' := [.int (nI 0), .ref t]) (σ' := σ) rfl ?_
        refine am_if (ty := 55) (tn := 50) rfl (by decide) rfl rfl (fun (h_12 : nI 0 = 0) => ?_) (fun (h_12 : ¬ (nI 0 = 0)) => ?_)
        rotate_left
        · exact absurd (by decide) h_12
        refine am_run 2 (pc' := 57) (ls' := [some (.ref t), some (.int (nI k)), some (.int (nI s)), some (.int (nI P)), some (.int (nI dep)), some (.int (oI (p 2 k))), some (.int (nI 1)), some (.int (nI 0))]) (st' := [.int (nI k), .ref t, .ref t]) (σ' := σ) rfl ?_
        refine am_invv (y := 116) (b := t) (as := [.int (nI k)]) (rest := [.ref t]) rfl rfl rfl rfl rfl rfl (TR_kind hR) (Nat.le_of_ble_eq_true rfl) ?_
        refine c_rightOf (by omega) hW hR hk ?_
        show am_G _ M_X2_ofChoice _ 60 [some (.ref t), some (.int (nI k)), some (.int (nI s)), some (.int (nI P)), some (.int (nI dep)), some (.int (oI (p 2 k))), some (.int (nI 1)), some (.int (nI 0))] [.int (oI (p 3 k)), .ref t] σ
        refine am_run 3 (pc' := 64) (ls' := [some (.ref t), some (.int (nI k)), some (.int (nI s)), some (.int (nI P)), some (.int (nI dep)), some (.int (oI (p 2 k))), some (.int (nI 1)), some (.int (nI 0))]) (st' := [.int (nI dep), .int (nI P), .int (nI s), .int (oI (p 3 k)), .ref t]) (σ' := σ) rfl ?_
        refine am_invs (y := 41) (as := [.ref t, .int (oI (p 3 k)), .int (nI s), .int (nI P), .int (nI dep)]) (rest := []) rfl rfl rfl rfl rfl rfl (Nat.le_of_ble_eq_true rfl) ?_
        refine hEX _ (by omega) (p 3 k) s P _ w3 (by omega) hP (fun he13 => ?_) (fun c13 q13 he13 hc13 hq13 hz13 => ?_)
        · show am_G _ M_X2_ofChoice _ 67 [some (.ref t), some (.int (nI k)), some (.int (nI s)), some (.int (nI P)), some (.int (nI dep)), some (.int (oI (p 2 k))), some (.int (nI 1)), some (.int (nI 0))] [.int (-1)] σ
          refine am_reti rfl rfl ?_
          have e : exB p (ex p f) (an p f) k s P = none := by
            rw [exB_63 ht]
            first | rfl | (simp only [*, if_true, if_false, ne_eq, not_false_eq_true, not_true_eq_false, true_or, false_or, or_false, or_true, or_self, and_true, true_and, and_false, false_and, and_self, Bool.false_eq_true, Bool.true_eq_false, reduceIte, Bool.and_true, Bool.and_false, Bool.true_and, Bool.false_and, x_seq, x_par, x_trap, x_weak, Option.map_some, Option.map_none, Option.some.injEq, cpl, reduceCtorEq, Nat.max_def]; done) | (simp only [*, if_true, if_false, ne_eq, not_false_eq_true, not_true_eq_false, true_or, false_or, or_false, or_true, or_self, and_true, true_and, and_false, false_and, and_self, Bool.false_eq_true, Bool.true_eq_false, reduceIte, Bool.and_true, Bool.and_false, Bool.true_and, Bool.false_and, x_seq, x_par, x_trap, x_weak, Option.map_some, Option.map_none, Option.some.injEq, cpl, reduceCtorEq, Nat.max_def]; rfl)
          exact hqn e
        · show am_G _ M_X2_ofChoice _ 67 [some (.ref t), some (.int (nI k)), some (.int (nI s)), some (.int (nI P)), some (.int (nI dep)), some (.int (oI (p 2 k))), some (.int (nI 1)), some (.int (nI 0))] [.int (nI (c13 * 1048576 + q13))] σ
          refine am_reti rfl rfl ?_
          have e : exB p (ex p f) (an p f) k s P = some (c13, q13) := by
            rw [exB_63 ht]
            first | rfl | (simp only [*, if_true, if_false, ne_eq, not_false_eq_true, not_true_eq_false, true_or, false_or, or_false, or_true, or_self, and_true, true_and, and_false, false_and, and_self, Bool.false_eq_true, Bool.true_eq_false, reduceIte, Bool.and_true, Bool.and_false, Bool.true_and, Bool.false_and, x_seq, x_par, x_trap, x_weak, Option.map_some, Option.map_none, Option.some.injEq, cpl, reduceCtorEq, Nat.max_def]; done) | (simp only [*, if_true, if_false, ne_eq, not_false_eq_true, not_true_eq_false, true_or, false_or, or_false, or_true, or_self, and_true, true_and, and_false, false_and, and_self, Bool.false_eq_true, Bool.true_eq_false, reduceIte, Bool.and_true, Bool.and_false, Bool.true_and, Bool.false_and, x_seq, x_par, x_trap, x_weak, Option.map_some, Option.map_none, Option.some.injEq, cpl, reduceCtorEq, Nat.max_def]; rfl)
          exact hqs _ _ e
set_option maxRecDepth 10000 in
set_option maxHeartbeats 1000000 in
theorem c_x_ofSequence {d : Nat} {σ : am_M} {t n : Nat} {p : Pg} (hW : PW p n) (hR : TR σ t p n) {f dep : Nat} (hAN : AN σ t p n f dep) (hEX : EX σ t p n f dep) (hd : 8 * f + 14 ≤ d) {k s P : Nat} (hk : k < n) (hs : s ≤ 1048576) (hP : P < 256) (ht : p 0 k = 59) {Q : am_Q} (hqn : exB p (ex p f) (an p f) k s P = none → Q (some (.int (-1))) σ) (hqs : ∀ c q, exB p (ex p f) (an p f) k s P = some (c, q) → Q (some (.int (nI (c * 1048576 + q)))) σ) : am_C d 43 [.ref t, .int (nI k), .int (nI s), .int (nI P), .int (nI dep)] σ Q := by
  obtain ⟨w0, w1, w2, w3, w4, w5, w6⟩ := hW.2 k hk
  by_cases hs1 : s = 1048576
  · subst hs1
    refine am_enter' (M := M_X2_ofSequence) rfl rfl rfl (by omega) (ls := [some (.ref t), some (.int (nI k)), some (.int (nI 1048576)), some (.int (nI P)), some (.int (nI dep)), none, none, none]) rfl (fun d' hd' => ?_)
    refine am_run 2 (pc' := 2) (ls' := [some (.ref t), some (.int (nI k)), some (.int (nI 1048576)), some (.int (nI P)), some (.int (nI dep)), none, none, none]) (st' := [.int (nI k), .ref t]) (σ' := σ) rfl ?_
    refine am_invv (y := 115) (b := t) (as := [.int (nI k)]) (rest := []) rfl rfl rfl rfl rfl rfl (TR_kind hR) (Nat.le_of_ble_eq_true rfl) ?_
    refine c_leftOf (by omega) hW hR hk ?_
    show am_G _ M_X2_ofSequence _ 5 [some (.ref t), some (.int (nI k)), some (.int (nI 1048576)), some (.int (nI P)), some (.int (nI dep)), none, none, none] [.int (oI (p 2 k))] σ
    refine am_run 3 (pc' := 9) (ls' := [some (.ref t), some (.int (nI k)), some (.int (nI 1048576)), some (.int (nI P)), some (.int (nI dep)), some (.int (oI (p 2 k))), none, none]) (st' := [.int (nI k), .ref t]) (σ' := σ) rfl ?_
    refine am_invv (y := 116) (b := t) (as := [.int (nI k)]) (rest := []) rfl rfl rfl rfl rfl rfl (TR_kind hR) (Nat.le_of_ble_eq_true rfl) ?_
    refine c_rightOf (by omega) hW hR hk ?_
    show am_G _ M_X2_ofSequence _ 12 [some (.ref t), some (.int (nI k)), some (.int (nI 1048576)), some (.int (nI P)), some (.int (nI dep)), some (.int (oI (p 2 k))), none, none] [.int (oI (p 3 k))] σ
    refine am_run 3 (pc' := 17) (ls' := [some (.ref t), some (.int (nI k)), some (.int (nI 1048576)), some (.int (nI P)), some (.int (nI dep)), some (.int (oI (p 2 k))), some (.int (oI (p 3 k))), none]) (st' := [.int (nI 1048576), .int (nI 1048576)]) (σ' := σ) rfl ?_
    refine am_ic (ty := 41) (tn := 20) rfl (by decide) rfl rfl (fun (h_1 : nI 1048576 = nI 1048576) => ?_) (fun (h_1 : ¬ (nI 1048576 = nI 1048576)) => ?_)
    rotate_left
    · exact absurd (by decide) h_1
    refine am_run 5 (pc' := 48) (ls' := [some (.ref t), some (.int (nI k)), some (.int (nI 1048576)), some (.int (nI P)), some (.int (nI dep)), some (.int (oI (p 2 k))), some (.int (oI (p 3 k))), none]) (st' := [.int (nI dep), .int (nI P), .int (nI 1048576), .int (oI (p 2 k)), .ref t]) (σ' := σ) rfl ?_
    refine am_invs (y := 41) (as := [.ref t, .int (oI (p 2 k)), .int (nI 1048576), .int (nI P), .int (nI dep)]) (rest := []) rfl rfl rfl rfl rfl rfl (Nat.le_of_ble_eq_true rfl) ?_
    refine hEX _ (by omega) (p 2 k) 1048576 P _ w2 (by omega) hP (fun he2 => ?_) (fun c2 q2 he2 hc2 hq2 hz2 => ?_)
    · show am_G _ M_X2_ofSequence _ 51 [some (.ref t), some (.int (nI k)), some (.int (nI 1048576)), some (.int (nI P)), some (.int (nI dep)), some (.int (oI (p 2 k))), some (.int (oI (p 3 k))), none] [.int (-1)] σ
      refine am_run 2 (pc' := 55) (ls' := [some (.ref t), some (.int (nI k)), some (.int (nI 1048576)), some (.int (nI P)), some (.int (nI dep)), some (.int (oI (p 2 k))), some (.int (oI (p 3 k))), some (.int (-1))]) (st' := [.int (-1)]) (σ' := σ) rfl ?_
      refine am_invs (y := 38) (as := [.int (-1)]) (rest := []) rfl rfl rfl rfl rfl rfl (Nat.le_of_ble_eq_true rfl) ?_
      refine c_x_codeN (by omega) ?_
      show am_G _ M_X2_ofSequence _ 58 [some (.ref t), some (.int (nI k)), some (.int (nI 1048576)), some (.int (nI P)), some (.int (nI dep)), some (.int (oI (p 2 k))), some (.int (oI (p 3 k))), some (.int (-1))] [.int (-1)] σ
      refine am_if (ty := 61) (tn := 75) rfl (by decide) rfl rfl (fun (h_3 : -1 = 0) => ?_) (fun (h_3 : ¬ (-1 = 0)) => ?_)
      · exact absurd h_3 (by decide)
      refine am_run 1 (pc' := 77) (ls' := [some (.ref t), some (.int (nI k)), some (.int (nI 1048576)), some (.int (nI P)), some (.int (nI dep)), some (.int (oI (p 2 k))), some (.int (oI (p 3 k))), some (.int (-1))]) (st' := [.int (-1)]) (σ' := σ) rfl ?_
      refine am_reti rfl rfl ?_
      have e : exB p (ex p f) (an p f) k 1048576 P = none := by
        rw [exB_59 ht]
        first | rfl | (simp only [*, if_true, if_false, ne_eq, not_false_eq_true, not_true_eq_false, true_or, false_or, or_false, or_true, or_self, and_true, true_and, and_false, false_and, and_self, Bool.false_eq_true, Bool.true_eq_false, reduceIte, Bool.and_true, Bool.and_false, Bool.true_and, Bool.false_and, x_seq, x_par, x_trap, x_weak, Option.map_some, Option.map_none, Option.some.injEq, cpl, reduceCtorEq, Nat.max_def]; done) | (simp only [*, if_true, if_false, ne_eq, not_false_eq_true, not_true_eq_false, true_or, false_or, or_false, or_true, or_self, and_true, true_and, and_false, false_and, and_self, Bool.false_eq_true, Bool.true_eq_false, reduceIte, Bool.and_true, Bool.and_false, Bool.true_and, Bool.false_and, x_seq, x_par, x_trap, x_weak, Option.map_some, Option.map_none, Option.some.injEq, cpl, reduceCtorEq, Nat.max_def]; rfl)
      exact hqn e
    · show am_G _ M_X2_ofSequence _ 51 [some (.ref t), some (.int (nI k)), some (.int (nI 1048576)), some (.int (nI P)), some (.int (nI dep)), some (.int (oI (p 2 k))), some (.int (oI (p 3 k))), none] [.int (nI (c2 * 1048576 + q2))] σ
      refine am_run 2 (pc' := 55) (ls' := [some (.ref t), some (.int (nI k)), some (.int (nI 1048576)), some (.int (nI P)), some (.int (nI dep)), some (.int (oI (p 2 k))), some (.int (oI (p 3 k))), some (.int (nI (c2 * 1048576 + q2)))]) (st' := [.int (nI (c2 * 1048576 + q2))]) (σ' := σ) rfl ?_
      refine am_invs (y := 38) (as := [.int (nI (c2 * 1048576 + q2))]) (rest := []) rfl rfl rfl rfl rfl rfl (Nat.le_of_ble_eq_true rfl) ?_
      refine c_x_code (by omega) (c := c2) (q := q2) (by first | omega | decide | exact or_lt20 (by omega) (by omega)) (by first | omega | decide | exact or_lt20 (by omega) (by omega)) ?_
      show am_G _ M_X2_ofSequence _ 58 [some (.ref t), some (.int (nI k)), some (.int (nI 1048576)), some (.int (nI P)), some (.int (nI dep)), some (.int (oI (p 2 k))), some (.int (oI (p 3 k))), some (.int (nI (c2 * 1048576 + q2)))] [.int (nI c2)] σ
      refine am_if (ty := 61) (tn := 75) rfl (by decide) rfl rfl (fun (h_4 : nI c2 = 0) => ?_) (fun (h_4 : ¬ (nI c2 = 0)) => ?_)
      · have h_4 : c2 = 0 := (am_n0 (by omega)).mp h_4
        refine am_run 5 (pc' := 69) (ls' := [some (.ref t), some (.int (nI k)), some (.int (nI 1048576)), some (.int (nI P)), some (.int (nI dep)), some (.int (oI (p 2 k))), some (.int (oI (p 3 k))), some (.int (nI (c2 * 1048576 + q2)))]) (st' := [.int (nI dep), .int (nI P), .int (nI 1048576), .int (oI (p 3 k)), .ref t]) (σ' := σ) rfl ?_
        refine am_invs (y := 41) (as := [.ref t, .int (oI (p 3 k)), .int (nI 1048576), .int (nI P), .int (nI dep)]) (rest := []) rfl rfl rfl rfl rfl rfl (Nat.le_of_ble_eq_true rfl) ?_
        refine hEX _ (by omega) (p 3 k) 1048576 P _ w3 (by omega) hP (fun he5 => ?_) (fun c5 q5 he5 hc5 hq5 hz5 => ?_)
        · show am_G _ M_X2_ofSequence _ 72 [some (.ref t), some (.int (nI k)), some (.int (nI 1048576)), some (.int (nI P)), some (.int (nI dep)), some (.int (oI (p 2 k))), some (.int (oI (p 3 k))), some (.int (nI (c2 * 1048576 + q2)))] [.int (-1)] σ
          refine am_run 1 (pc' := 77) (ls' := [some (.ref t), some (.int (nI k)), some (.int (nI 1048576)), some (.int (nI P)), some (.int (nI dep)), some (.int (oI (p 2 k))), some (.int (oI (p 3 k))), some (.int (nI (c2 * 1048576 + q2)))]) (st' := [.int (-1)]) (σ' := σ) rfl ?_
          refine am_reti rfl rfl ?_
          have e : exB p (ex p f) (an p f) k 1048576 P = none := by
            rw [exB_59 ht]
            first | rfl | (simp only [*, if_true, if_false, ne_eq, not_false_eq_true, not_true_eq_false, true_or, false_or, or_false, or_true, or_self, and_true, true_and, and_false, false_and, and_self, Bool.false_eq_true, Bool.true_eq_false, reduceIte, Bool.and_true, Bool.and_false, Bool.true_and, Bool.false_and, x_seq, x_par, x_trap, x_weak, Option.map_some, Option.map_none, Option.some.injEq, cpl, reduceCtorEq, Nat.max_def]; done) | (simp only [*, if_true, if_false, ne_eq, not_false_eq_true, not_true_eq_false, true_or, false_or, or_false, or_true, or_self, and_true, true_and, and_false, false_and, and_self, Bool.false_eq_true, Bool.true_eq_false, reduceIte, Bool.and_true, Bool.and_false, Bool.true_and, Bool.false_and, x_seq, x_par, x_trap, x_weak, Option.map_some, Option.map_none, Option.some.injEq, cpl, reduceCtorEq, Nat.max_def]; rfl)
          exact hqn e
        · show am_G _ M_X2_ofSequence _ 72 [some (.ref t), some (.int (nI k)), some (.int (nI 1048576)), some (.int (nI P)), some (.int (nI dep)), some (.int (oI (p 2 k))), some (.int (oI (p 3 k))), some (.int (nI (c2 * 1048576 + q2)))] [.int (nI (c5 * 1048576 + q5))] σ
          refine am_run 1 (pc' := 77) (ls' := [some (.ref t), some (.int (nI k)), some (.int (nI 1048576)), some (.int (nI P)), some (.int (nI dep)), some (.int (oI (p 2 k))), some (.int (oI (p 3 k))), some (.int (nI (c2 * 1048576 + q2)))]) (st' := [.int (nI (c5 * 1048576 + q5))]) (σ' := σ) rfl ?_
          refine am_reti rfl rfl ?_
          have e : exB p (ex p f) (an p f) k 1048576 P = some (c5, q5) := by
            rw [exB_59 ht]
            first | rfl | (simp only [*, if_true, if_false, ne_eq, not_false_eq_true, not_true_eq_false, true_or, false_or, or_false, or_true, or_self, and_true, true_and, and_false, false_and, and_self, Bool.false_eq_true, Bool.true_eq_false, reduceIte, Bool.and_true, Bool.and_false, Bool.true_and, Bool.false_and, x_seq, x_par, x_trap, x_weak, Option.map_some, Option.map_none, Option.some.injEq, cpl, reduceCtorEq, Nat.max_def]; done) | (simp only [*, if_true, if_false, ne_eq, not_false_eq_true, not_true_eq_false, true_or, false_or, or_false, or_true, or_self, and_true, true_and, and_false, false_and, and_self, Bool.false_eq_true, Bool.true_eq_false, reduceIte, Bool.and_true, Bool.and_false, Bool.true_and, Bool.false_and, x_seq, x_par, x_trap, x_weak, Option.map_some, Option.map_none, Option.some.injEq, cpl, reduceCtorEq, Nat.max_def]; rfl)
          exact hqs _ _ e
      · have h_4 : ¬ (c2 = 0) := fun z => h_4 ((am_n0 (by omega)).mpr z)
        refine am_run 1 (pc' := 77) (ls' := [some (.ref t), some (.int (nI k)), some (.int (nI 1048576)), some (.int (nI P)), some (.int (nI dep)), some (.int (oI (p 2 k))), some (.int (oI (p 3 k))), some (.int (nI (c2 * 1048576 + q2)))]) (st' := [.int (nI (c2 * 1048576 + q2))]) (σ' := σ) rfl ?_
        refine am_reti rfl rfl ?_
        have e : exB p (ex p f) (an p f) k 1048576 P = some (c2, q2) := by
          rw [exB_59 ht]
          first | rfl | (simp only [*, if_true, if_false, ne_eq, not_false_eq_true, not_true_eq_false, true_or, false_or, or_false, or_true, or_self, and_true, true_and, and_false, false_and, and_self, Bool.false_eq_true, Bool.true_eq_false, reduceIte, Bool.and_true, Bool.and_false, Bool.true_and, Bool.false_and, x_seq, x_par, x_trap, x_weak, Option.map_some, Option.map_none, Option.some.injEq, cpl, reduceCtorEq, Nat.max_def]; done) | (simp only [*, if_true, if_false, ne_eq, not_false_eq_true, not_true_eq_false, true_or, false_or, or_false, or_true, or_self, and_true, true_and, and_false, false_and, and_self, Bool.false_eq_true, Bool.true_eq_false, reduceIte, Bool.and_true, Bool.and_false, Bool.true_and, Bool.false_and, x_seq, x_par, x_trap, x_weak, Option.map_some, Option.map_none, Option.some.injEq, cpl, reduceCtorEq, Nat.max_def]; rfl)
        exact hqs _ _ e
  · skip
    refine am_enter' (M := M_X2_ofSequence) rfl rfl rfl (by omega) (ls := [some (.ref t), some (.int (nI k)), some (.int (nI s)), some (.int (nI P)), some (.int (nI dep)), none, none, none]) rfl (fun d' hd' => ?_)
    refine am_run 2 (pc' := 2) (ls' := [some (.ref t), some (.int (nI k)), some (.int (nI s)), some (.int (nI P)), some (.int (nI dep)), none, none, none]) (st' := [.int (nI k), .ref t]) (σ' := σ) rfl ?_
    refine am_invv (y := 115) (b := t) (as := [.int (nI k)]) (rest := []) rfl rfl rfl rfl rfl rfl (TR_kind hR) (Nat.le_of_ble_eq_true rfl) ?_
    refine c_leftOf (by omega) hW hR hk ?_
    show am_G _ M_X2_ofSequence _ 5 [some (.ref t), some (.int (nI k)), some (.int (nI s)), some (.int (nI P)), some (.int (nI dep)), none, none, none] [.int (oI (p 2 k))] σ
    refine am_run 3 (pc' := 9) (ls' := [some (.ref t), some (.int (nI k)), some (.int (nI s)), some (.int (nI P)), some (.int (nI dep)), some (.int (oI (p 2 k))), none, none]) (st' := [.int (nI k), .ref t]) (σ' := σ) rfl ?_
    refine am_invv (y := 116) (b := t) (as := [.int (nI k)]) (rest := []) rfl rfl rfl rfl rfl rfl (TR_kind hR) (Nat.le_of_ble_eq_true rfl) ?_
    refine c_rightOf (by omega) hW hR hk ?_
    show am_G _ M_X2_ofSequence _ 12 [some (.ref t), some (.int (nI k)), some (.int (nI s)), some (.int (nI P)), some (.int (nI dep)), some (.int (oI (p 2 k))), none, none] [.int (oI (p 3 k))] σ
    refine am_run 3 (pc' := 17) (ls' := [some (.ref t), some (.int (nI k)), some (.int (nI s)), some (.int (nI P)), some (.int (nI dep)), some (.int (oI (p 2 k))), some (.int (oI (p 3 k))), none]) (st' := [.int (nI 1048576), .int (nI s)]) (σ' := σ) rfl ?_
    refine am_ic (ty := 41) (tn := 20) rfl (by decide) rfl rfl (fun (h_1 : nI s = nI 1048576) => ?_) (fun (h_1 : ¬ (nI s = nI 1048576)) => ?_)
    · have h_1 : s = 1048576 := (nI_eq (by omega) (by omega)).mp h_1
      exact absurd h_1 hs1
    have h_1 : ¬ (s = 1048576) := fun z => h_1 ((nI_eq (by omega) (by omega)).mpr z)
    refine am_run 3 (pc' := 24) (ls' := [some (.ref t), some (.int (nI k)), some (.int (nI s)), some (.int (nI P)), some (.int (nI dep)), some (.int (oI (p 2 k))), some (.int (oI (p 3 k))), none]) (st' := [.int (nI s), .int (oI (p 2 k)), .ref t]) (σ' := σ) rfl ?_
    refine am_invv (y := 119) (b := t) (as := [.int (oI (p 2 k)), .int (nI s)]) (rest := []) rfl rfl rfl rfl rfl rfl (TR_kind hR) (Nat.le_of_ble_eq_true rfl) ?_
    refine c_lv2 (by omega) hW hR w2 (fun hl_2 => ?_) (fun hl_2 => ?_)
    · show am_G _ M_X2_ofSequence _ 27 [some (.ref t), some (.int (nI k)), some (.int (nI s)), some (.int (nI P)), some (.int (nI dep)), some (.int (oI (p 2 k))), some (.int (oI (p 3 k))), none] [.int (nI 1)] σ
      refine am_if (ty := 30) (tn := 41) rfl (by decide) rfl rfl (fun (h_3 : nI 1 = 0) => ?_) (fun (h_3 : ¬ (nI 1 = 0)) => ?_)
      · exact absurd h_3 (by decide)
      refine am_run 5 (pc' := 48) (ls' := [some (.ref t), some (.int (nI k)), some (.int (nI s)), some (.int (nI P)), some (.int (nI dep)), some (.int (oI (p 2 k))), some (.int (oI (p 3 k))), none]) (st' := [.int (nI dep), .int (nI P), .int (nI s), .int (oI (p 2 k)), .ref t]) (σ' := σ) rfl ?_
      refine am_invs (y := 41) (as := [.ref t, .int (oI (p 2 k)), .int (nI s), .int (nI P), .int (nI dep)]) (rest := []) rfl rfl rfl rfl rfl rfl (Nat.le_of_ble_eq_true rfl) ?_
      refine hEX _ (by omega) (p 2 k) s P _ w2 (by omega) hP (fun he4 => ?_) (fun c4 q4 he4 hc4 hq4 hz4 => ?_)
      · show am_G _ M_X2_ofSequence _ 51 [some (.ref t), some (.int (nI k)), some (.int (nI s)), some (.int (nI P)), some (.int (nI dep)), some (.int (oI (p 2 k))), some (.int (oI (p 3 k))), none] [.int (-1)] σ
        refine am_run 2 (pc' := 55) (ls' := [some (.ref t), some (.int (nI k)), some (.int (nI s)), some (.int (nI P)), some (.int (nI dep)), some (.int (oI (p 2 k))), some (.int (oI (p 3 k))), some (.int (-1))]) (st' := [.int (-1)]) (σ' := σ) rfl ?_
        refine am_invs (y := 38) (as := [.int (-1)]) (rest := []) rfl rfl rfl rfl rfl rfl (Nat.le_of_ble_eq_true rfl) ?_
        refine c_x_codeN (by omega) ?_
        show am_G _ M_X2_ofSequence _ 58 [some (.ref t), some (.int (nI k)), some (.int (nI s)), some (.int (nI P)), some (.int (nI dep)), some (.int (oI (p 2 k))), some (.int (oI (p 3 k))), some (.int (-1))] [.int (-1)] σ
        refine am_if (ty := 61) (tn := 75) rfl (by decide) rfl rfl (fun (h_5 : -1 = 0) => ?_) (fun (h_5 : ¬ (-1 = 0)) => ?_)
        · exact absurd h_5 (by decide)
        refine am_run 1 (pc' := 77) (ls' := [some (.ref t), some (.int (nI k)), some (.int (nI s)), some (.int (nI P)), some (.int (nI dep)), some (.int (oI (p 2 k))), some (.int (oI (p 3 k))), some (.int (-1))]) (st' := [.int (-1)]) (σ' := σ) rfl ?_
        refine am_reti rfl rfl ?_
        have e : exB p (ex p f) (an p f) k s P = none := by
          rw [exB_59 ht]
          first | rfl | (simp only [*, if_true, if_false, ne_eq, not_false_eq_true, not_true_eq_false, true_or, false_or, or_false, or_true, or_self, and_true, true_and, and_false, false_and, and_self, Bool.false_eq_true, Bool.true_eq_false, reduceIte, Bool.and_true, Bool.and_false, Bool.true_and, Bool.false_and, x_seq, x_par, x_trap, x_weak, Option.map_some, Option.map_none, Option.some.injEq, cpl, reduceCtorEq, Nat.max_def]; done) | (simp only [*, if_true, if_false, ne_eq, not_false_eq_true, not_true_eq_false, true_or, false_or, or_false, or_true, or_self, and_true, true_and, and_false, false_and, and_self, Bool.false_eq_true, Bool.true_eq_false, reduceIte, Bool.and_true, Bool.and_false, Bool.true_and, Bool.false_and, x_seq, x_par, x_trap, x_weak, Option.map_some, Option.map_none, Option.some.injEq, cpl, reduceCtorEq, Nat.max_def]; rfl)
        exact hqn e
      · show am_G _ M_X2_ofSequence _ 51 [some (.ref t), some (.int (nI k)), some (.int (nI s)), some (.int (nI P)), some (.int (nI dep)), some (.int (oI (p 2 k))), some (.int (oI (p 3 k))), none] [.int (nI (c4 * 1048576 + q4))] σ
        refine am_run 2 (pc' := 55) (ls' := [some (.ref t), some (.int (nI k)), some (.int (nI s)), some (.int (nI P)), some (.int (nI dep)), some (.int (oI (p 2 k))), some (.int (oI (p 3 k))), some (.int (nI (c4 * 1048576 + q4)))]) (st' := [.int (nI (c4 * 1048576 + q4))]) (σ' := σ) rfl ?_
        refine am_invs (y := 38) (as := [.int (nI (c4 * 1048576 + q4))]) (rest := []) rfl rfl rfl rfl rfl rfl (Nat.le_of_ble_eq_true rfl) ?_
        refine c_x_code (by omega) (c := c4) (q := q4) (by first | omega | decide | exact or_lt20 (by omega) (by omega)) (by first | omega | decide | exact or_lt20 (by omega) (by omega)) ?_
        show am_G _ M_X2_ofSequence _ 58 [some (.ref t), some (.int (nI k)), some (.int (nI s)), some (.int (nI P)), some (.int (nI dep)), some (.int (oI (p 2 k))), some (.int (oI (p 3 k))), some (.int (nI (c4 * 1048576 + q4)))] [.int (nI c4)] σ
        refine am_if (ty := 61) (tn := 75) rfl (by decide) rfl rfl (fun (h_6 : nI c4 = 0) => ?_) (fun (h_6 : ¬ (nI c4 = 0)) => ?_)
        · have h_6 : c4 = 0 := (am_n0 (by omega)).mp h_6
          refine am_run 5 (pc' := 69) (ls' := [some (.ref t), some (.int (nI k)), some (.int (nI s)), some (.int (nI P)), some (.int (nI dep)), some (.int (oI (p 2 k))), some (.int (oI (p 3 k))), some (.int (nI (c4 * 1048576 + q4)))]) (st' := [.int (nI dep), .int (nI P), .int (nI 1048576), .int (oI (p 3 k)), .ref t]) (σ' := σ) rfl ?_
          refine am_invs (y := 41) (as := [.ref t, .int (oI (p 3 k)), .int (nI 1048576), .int (nI P), .int (nI dep)]) (rest := []) rfl rfl rfl rfl rfl rfl (Nat.le_of_ble_eq_true rfl) ?_
          refine hEX _ (by omega) (p 3 k) 1048576 P _ w3 (by omega) hP (fun he7 => ?_) (fun c7 q7 he7 hc7 hq7 hz7 => ?_)
          · show am_G _ M_X2_ofSequence _ 72 [some (.ref t), some (.int (nI k)), some (.int (nI s)), some (.int (nI P)), some (.int (nI dep)), some (.int (oI (p 2 k))), some (.int (oI (p 3 k))), some (.int (nI (c4 * 1048576 + q4)))] [.int (-1)] σ
            refine am_run 1 (pc' := 77) (ls' := [some (.ref t), some (.int (nI k)), some (.int (nI s)), some (.int (nI P)), some (.int (nI dep)), some (.int (oI (p 2 k))), some (.int (oI (p 3 k))), some (.int (nI (c4 * 1048576 + q4)))]) (st' := [.int (-1)]) (σ' := σ) rfl ?_
            refine am_reti rfl rfl ?_
            have e : exB p (ex p f) (an p f) k s P = none := by
              rw [exB_59 ht]
              first | rfl | (simp only [*, if_true, if_false, ne_eq, not_false_eq_true, not_true_eq_false, true_or, false_or, or_false, or_true, or_self, and_true, true_and, and_false, false_and, and_self, Bool.false_eq_true, Bool.true_eq_false, reduceIte, Bool.and_true, Bool.and_false, Bool.true_and, Bool.false_and, x_seq, x_par, x_trap, x_weak, Option.map_some, Option.map_none, Option.some.injEq, cpl, reduceCtorEq, Nat.max_def]; done) | (simp only [*, if_true, if_false, ne_eq, not_false_eq_true, not_true_eq_false, true_or, false_or, or_false, or_true, or_self, and_true, true_and, and_false, false_and, and_self, Bool.false_eq_true, Bool.true_eq_false, reduceIte, Bool.and_true, Bool.and_false, Bool.true_and, Bool.false_and, x_seq, x_par, x_trap, x_weak, Option.map_some, Option.map_none, Option.some.injEq, cpl, reduceCtorEq, Nat.max_def]; rfl)
            exact hqn e
          · show am_G _ M_X2_ofSequence _ 72 [some (.ref t), some (.int (nI k)), some (.int (nI s)), some (.int (nI P)), some (.int (nI dep)), some (.int (oI (p 2 k))), some (.int (oI (p 3 k))), some (.int (nI (c4 * 1048576 + q4)))] [.int (nI (c7 * 1048576 + q7))] σ
            refine am_run 1 (pc' := 77) (ls' := [some (.ref t), some (.int (nI k)), some (.int (nI s)), some (.int (nI P)), some (.int (nI dep)), some (.int (oI (p 2 k))), some (.int (oI (p 3 k))), some (.int (nI (c4 * 1048576 + q4)))]) (st' := [.int (nI (c7 * 1048576 + q7))]) (σ' := σ) rfl ?_
            refine am_reti rfl rfl ?_
            have e : exB p (ex p f) (an p f) k s P = some (c7, q7) := by
              rw [exB_59 ht]
              first | rfl | (simp only [*, if_true, if_false, ne_eq, not_false_eq_true, not_true_eq_false, true_or, false_or, or_false, or_true, or_self, and_true, true_and, and_false, false_and, and_self, Bool.false_eq_true, Bool.true_eq_false, reduceIte, Bool.and_true, Bool.and_false, Bool.true_and, Bool.false_and, x_seq, x_par, x_trap, x_weak, Option.map_some, Option.map_none, Option.some.injEq, cpl, reduceCtorEq, Nat.max_def]; done) | (simp only [*, if_true, if_false, ne_eq, not_false_eq_true, not_true_eq_false, true_or, false_or, or_false, or_true, or_self, and_true, true_and, and_false, false_and, and_self, Bool.false_eq_true, Bool.true_eq_false, reduceIte, Bool.and_true, Bool.and_false, Bool.true_and, Bool.false_and, x_seq, x_par, x_trap, x_weak, Option.map_some, Option.map_none, Option.some.injEq, cpl, reduceCtorEq, Nat.max_def]; rfl)
            exact hqs _ _ e
        · have h_6 : ¬ (c4 = 0) := fun z => h_6 ((am_n0 (by omega)).mpr z)
          refine am_run 1 (pc' := 77) (ls' := [some (.ref t), some (.int (nI k)), some (.int (nI s)), some (.int (nI P)), some (.int (nI dep)), some (.int (oI (p 2 k))), some (.int (oI (p 3 k))), some (.int (nI (c4 * 1048576 + q4)))]) (st' := [.int (nI (c4 * 1048576 + q4))]) (σ' := σ) rfl ?_
          refine am_reti rfl rfl ?_
          have e : exB p (ex p f) (an p f) k s P = some (c4, q4) := by
            rw [exB_59 ht]
            first | rfl | (simp only [*, if_true, if_false, ne_eq, not_false_eq_true, not_true_eq_false, true_or, false_or, or_false, or_true, or_self, and_true, true_and, and_false, false_and, and_self, Bool.false_eq_true, Bool.true_eq_false, reduceIte, Bool.and_true, Bool.and_false, Bool.true_and, Bool.false_and, x_seq, x_par, x_trap, x_weak, Option.map_some, Option.map_none, Option.some.injEq, cpl, reduceCtorEq, Nat.max_def]; done) | (simp only [*, if_true, if_false, ne_eq, not_false_eq_true, not_true_eq_false, true_or, false_or, or_false, or_true, or_self, and_true, true_and, and_false, false_and, and_self, Bool.false_eq_true, Bool.true_eq_false, reduceIte, Bool.and_true, Bool.and_false, Bool.true_and, Bool.false_and, x_seq, x_par, x_trap, x_weak, Option.map_some, Option.map_none, Option.some.injEq, cpl, reduceCtorEq, Nat.max_def]; rfl)
          exact hqs _ _ e
    · show am_G _ M_X2_ofSequence _ 27 [some (.ref t), some (.int (nI k)), some (.int (nI s)), some (.int (nI P)), some (.int (nI dep)), some (.int (oI (p 2 k))), some (.int (oI (p 3 k))), none] [.int (nI 0)] σ
      refine am_if (ty := 30) (tn := 41) rfl (by decide) rfl rfl (fun (h_8 : nI 0 = 0) => ?_) (fun (h_8 : ¬ (nI 0 = 0)) => ?_)
      rotate_left
      · exact absurd (by decide) h_8
      refine am_run 5 (pc' := 37) (ls' := [some (.ref t), some (.int (nI k)), some (.int (nI s)), some (.int (nI P)), some (.int (nI dep)), some (.int (oI (p 2 k))), some (.int (oI (p 3 k))), none]) (st' := [.int (nI dep), .int (nI P), .int (nI s), .int (oI (p 3 k)), .ref t]) (σ' := σ) rfl ?_
      refine am_invs (y := 41) (as := [.ref t, .int (oI (p 3 k)), .int (nI s), .int (nI P), .int (nI dep)]) (rest := []) rfl rfl rfl rfl rfl rfl (Nat.le_of_ble_eq_true rfl) ?_
      refine hEX _ (by omega) (p 3 k) s P _ w3 (by omega) hP (fun he9 => ?_) (fun c9 q9 he9 hc9 hq9 hz9 => ?_)
      · show am_G _ M_X2_ofSequence _ 40 [some (.ref t), some (.int (nI k)), some (.int (nI s)), some (.int (nI P)), some (.int (nI dep)), some (.int (oI (p 2 k))), some (.int (oI (p 3 k))), none] [.int (-1)] σ
        refine am_reti rfl rfl ?_
        have e : exB p (ex p f) (an p f) k s P = none := by
          rw [exB_59 ht]
          first | rfl | (simp only [*, if_true, if_false, ne_eq, not_false_eq_true, not_true_eq_false, true_or, false_or, or_false, or_true, or_self, and_true, true_and, and_false, false_and, and_self, Bool.false_eq_true, Bool.true_eq_false, reduceIte, Bool.and_true, Bool.and_false, Bool.true_and, Bool.false_and, x_seq, x_par, x_trap, x_weak, Option.map_some, Option.map_none, Option.some.injEq, cpl, reduceCtorEq, Nat.max_def]; done) | (simp only [*, if_true, if_false, ne_eq, not_false_eq_true, not_true_eq_false, true_or, false_or, or_false, or_true, or_self, and_true, true_and, and_false, false_and, and_self, Bool.false_eq_true, Bool.true_eq_false, reduceIte, Bool.and_true, Bool.and_false, Bool.true_and, Bool.false_and, x_seq, x_par, x_trap, x_weak, Option.map_some, Option.map_none, Option.some.injEq, cpl, reduceCtorEq, Nat.max_def]; rfl)
        exact hqn e
      · show am_G _ M_X2_ofSequence _ 40 [some (.ref t), some (.int (nI k)), some (.int (nI s)), some (.int (nI P)), some (.int (nI dep)), some (.int (oI (p 2 k))), some (.int (oI (p 3 k))), none] [.int (nI (c9 * 1048576 + q9))] σ
        refine am_reti rfl rfl ?_
        have e : exB p (ex p f) (an p f) k s P = some (c9, q9) := by
          rw [exB_59 ht]
          first | rfl | (simp only [*, if_true, if_false, ne_eq, not_false_eq_true, not_true_eq_false, true_or, false_or, or_false, or_true, or_self, and_true, true_and, and_false, false_and, and_self, Bool.false_eq_true, Bool.true_eq_false, reduceIte, Bool.and_true, Bool.and_false, Bool.true_and, Bool.false_and, x_seq, x_par, x_trap, x_weak, Option.map_some, Option.map_none, Option.some.injEq, cpl, reduceCtorEq, Nat.max_def]; done) | (simp only [*, if_true, if_false, ne_eq, not_false_eq_true, not_true_eq_false, true_or, false_or, or_false, or_true, or_self, and_true, true_and, and_false, false_and, and_self, Bool.false_eq_true, Bool.true_eq_false, reduceIte, Bool.and_true, Bool.and_false, Bool.true_and, Bool.false_and, x_seq, x_par, x_trap, x_weak, Option.map_some, Option.map_none, Option.some.injEq, cpl, reduceCtorEq, Nat.max_def]; rfl)
        exact hqs _ _ e
set_option maxRecDepth 10000 in
set_option maxHeartbeats 1000000 in
theorem c_x_ofOperand {d : Nat} {σ : am_M} {t n : Nat} {p : Pg} (hW : PW p n) (hR : TR σ t p n) {f dep : Nat} (hEX : EX σ t p n f dep) (hd : 8 * f + 13 ≤ d) {x s P : Nat} (w2 : x ≤ n) (hs : s ≤ 1048576) (hP : P < 256) {Q : am_Q} (hqn : (if s = ST ∨ lv p x s = true then ex p f x s P else some (0, 0)) = none → Q (some (.int (-1))) σ) (hqs : ∀ c q, (if s = ST ∨ lv p x s = true then ex p f x s P else some (0, 0)) = some (c, q) → c ≤ 6 → q < 1048576 → Q (some (.int (nI (c * 1048576 + q)))) σ) : am_C d 45 [.ref t, .int (oI x), .int (nI s), .int (nI P), .int (nI dep)] σ Q := by
  by_cases hs1 : s = 1048576
  · subst hs1
    refine am_enter' (M := M_X2_ofOperand) rfl rfl rfl (by omega) (ls := [some (.ref t), some (.int (oI x)), some (.int (nI 1048576)), some (.int (nI P)), some (.int (nI dep)), none]) rfl (fun d' hd' => ?_)
    refine am_run 2 (pc' := 3) (ls' := [some (.ref t), some (.int (oI x)), some (.int (nI 1048576)), some (.int (nI P)), some (.int (nI dep)), none]) (st' := [.int (nI 1048576), .int (nI 1048576)]) (σ' := σ) rfl ?_
    refine am_ic (ty := 15) (tn := 6) rfl (by decide) rfl rfl (fun (h_1 : nI 1048576 = nI 1048576) => ?_) (fun (h_1 : ¬ (nI 1048576 = nI 1048576)) => ?_)
    rotate_left
    · exact absurd (by decide) h_1
    refine am_run 4 (pc' := 24) (ls' := [some (.ref t), some (.int (oI x)), some (.int (nI 1048576)), some (.int (nI P)), some (.int (nI dep)), some (.int (nI 1))]) (st' := [.int (nI 1)]) (σ' := σ) rfl ?_
    refine am_if (ty := 39) (tn := 27) rfl (by decide) rfl rfl (fun (h_2 : nI 1 = 0) => ?_) (fun (h_2 : ¬ (nI 1 = 0)) => ?_)
    · exact absurd h_2 (by decide)
    refine am_run 5 (pc' := 33) (ls' := [some (.ref t), some (.int (oI x)), some (.int (nI 1048576)), some (.int (nI P)), some (.int (nI dep)), some (.int (nI 1))]) (st' := [.int (nI dep), .int (nI P), .int (nI 1048576), .int (oI x), .ref t]) (σ' := σ) rfl ?_
    refine am_invs (y := 41) (as := [.ref t, .int (oI x), .int (nI 1048576), .int (nI P), .int (nI dep)]) (rest := []) rfl rfl rfl rfl rfl rfl (Nat.le_of_ble_eq_true rfl) ?_
    refine hEX _ (by omega) (x) 1048576 P _ w2 (by omega) hP (fun he3 => ?_) (fun c3 q3 he3 hc3 hq3 hz3 => ?_)
    · show am_G _ M_X2_ofOperand _ 36 [some (.ref t), some (.int (oI x)), some (.int (nI 1048576)), some (.int (nI P)), some (.int (nI dep)), some (.int (nI 1))] [.int (-1)] σ
      refine am_run 1 (pc' := 44) (ls' := [some (.ref t), some (.int (oI x)), some (.int (nI 1048576)), some (.int (nI P)), some (.int (nI dep)), some (.int (nI 1))]) (st' := [.int (-1)]) (σ' := σ) rfl ?_
      refine am_reti rfl rfl ?_
      exact hqn (by first | rfl | (simp only [*, if_true, if_false, ne_eq, not_false_eq_true, not_true_eq_false, true_or, false_or, or_false, or_true, or_self, and_true, true_and, and_false, false_and, and_self, Bool.false_eq_true, Bool.true_eq_false, reduceIte, Bool.and_true, Bool.and_false, Bool.true_and, Bool.false_and, x_seq, x_par, x_trap, x_weak, Option.map_some, Option.map_none, Option.some.injEq, cpl, reduceCtorEq, Nat.max_def]; done) | (simp only [*, if_true, if_false, ne_eq, not_false_eq_true, not_true_eq_false, true_or, false_or, or_false, or_true, or_self, and_true, true_and, and_false, false_and, and_self, Bool.false_eq_true, Bool.true_eq_false, reduceIte, Bool.and_true, Bool.and_false, Bool.true_and, Bool.false_and, x_seq, x_par, x_trap, x_weak, Option.map_some, Option.map_none, Option.some.injEq, cpl, reduceCtorEq, Nat.max_def]; rfl))
    · show am_G _ M_X2_ofOperand _ 36 [some (.ref t), some (.int (oI x)), some (.int (nI 1048576)), some (.int (nI P)), some (.int (nI dep)), some (.int (nI 1))] [.int (nI (c3 * 1048576 + q3))] σ
      refine am_run 1 (pc' := 44) (ls' := [some (.ref t), some (.int (oI x)), some (.int (nI 1048576)), some (.int (nI P)), some (.int (nI dep)), some (.int (nI 1))]) (st' := [.int (nI (c3 * 1048576 + q3))]) (σ' := σ) rfl ?_
      refine am_reti rfl rfl ?_
      exact hqs _ _ (by first | rfl | (simp only [*, if_true, if_false, ne_eq, not_false_eq_true, not_true_eq_false, true_or, false_or, or_false, or_true, or_self, and_true, true_and, and_false, false_and, and_self, Bool.false_eq_true, Bool.true_eq_false, reduceIte, Bool.and_true, Bool.and_false, Bool.true_and, Bool.false_and, x_seq, x_par, x_trap, x_weak, Option.map_some, Option.map_none, Option.some.injEq, cpl, reduceCtorEq, Nat.max_def]; done) | (simp only [*, if_true, if_false, ne_eq, not_false_eq_true, not_true_eq_false, true_or, false_or, or_false, or_true, or_self, and_true, true_and, and_false, false_and, and_self, Bool.false_eq_true, Bool.true_eq_false, reduceIte, Bool.and_true, Bool.and_false, Bool.true_and, Bool.false_and, x_seq, x_par, x_trap, x_weak, Option.map_some, Option.map_none, Option.some.injEq, cpl, reduceCtorEq, Nat.max_def]; rfl)) (by omega) (by omega)
  · skip
    refine am_enter' (M := M_X2_ofOperand) rfl rfl rfl (by omega) (ls := [some (.ref t), some (.int (oI x)), some (.int (nI s)), some (.int (nI P)), some (.int (nI dep)), none]) rfl (fun d' hd' => ?_)
    refine am_run 2 (pc' := 3) (ls' := [some (.ref t), some (.int (oI x)), some (.int (nI s)), some (.int (nI P)), some (.int (nI dep)), none]) (st' := [.int (nI 1048576), .int (nI s)]) (σ' := σ) rfl ?_
    refine am_ic (ty := 15) (tn := 6) rfl (by decide) rfl rfl (fun (h_1 : nI s = nI 1048576) => ?_) (fun (h_1 : ¬ (nI s = nI 1048576)) => ?_)
    · have h_1 : s = 1048576 := (nI_eq (by omega) (by omega)).mp h_1
      exact absurd h_1 hs1
    have h_1 : ¬ (s = 1048576) := fun z => h_1 ((nI_eq (by omega) (by omega)).mpr z)
    refine am_run 3 (pc' := 9) (ls' := [some (.ref t), some (.int (oI x)), some (.int (nI s)), some (.int (nI P)), some (.int (nI dep)), none]) (st' := [.int (nI s), .int (oI x), .ref t]) (σ' := σ) rfl ?_
    refine am_invv (y := 119) (b := t) (as := [.int (oI x), .int (nI s)]) (rest := []) rfl rfl rfl rfl rfl rfl (TR_kind hR) (Nat.le_of_ble_eq_true rfl) ?_
    refine c_lv2 (by omega) hW hR w2 (fun hl_2 => ?_) (fun hl_2 => ?_)
    · show am_G _ M_X2_ofOperand _ 12 [some (.ref t), some (.int (oI x)), some (.int (nI s)), some (.int (nI P)), some (.int (nI dep)), none] [.int (nI 1)] σ
      refine am_if (ty := 19) (tn := 15) rfl (by decide) rfl rfl (fun (h_3 : nI 1 = 0) => ?_) (fun (h_3 : ¬ (nI 1 = 0)) => ?_)
      · exact absurd h_3 (by decide)
      refine am_run 4 (pc' := 24) (ls' := [some (.ref t), some (.int (oI x)), some (.int (nI s)), some (.int (nI P)), some (.int (nI dep)), some (.int (nI 1))]) (st' := [.int (nI 1)]) (σ' := σ) rfl ?_
      refine am_if (ty := 39) (tn := 27) rfl (by decide) rfl rfl (fun (h_4 : nI 1 = 0) => ?_) (fun (h_4 : ¬ (nI 1 = 0)) => ?_)
      · exact absurd h_4 (by decide)
      refine am_run 5 (pc' := 33) (ls' := [some (.ref t), some (.int (oI x)), some (.int (nI s)), some (.int (nI P)), some (.int (nI dep)), some (.int (nI 1))]) (st' := [.int (nI dep), .int (nI P), .int (nI s), .int (oI x), .ref t]) (σ' := σ) rfl ?_
      refine am_invs (y := 41) (as := [.ref t, .int (oI x), .int (nI s), .int (nI P), .int (nI dep)]) (rest := []) rfl rfl rfl rfl rfl rfl (Nat.le_of_ble_eq_true rfl) ?_
      refine hEX _ (by omega) (x) s P _ w2 (by omega) hP (fun he5 => ?_) (fun c5 q5 he5 hc5 hq5 hz5 => ?_)
      · show am_G _ M_X2_ofOperand _ 36 [some (.ref t), some (.int (oI x)), some (.int (nI s)), some (.int (nI P)), some (.int (nI dep)), some (.int (nI 1))] [.int (-1)] σ
        refine am_run 1 (pc' := 44) (ls' := [some (.ref t), some (.int (oI x)), some (.int (nI s)), some (.int (nI P)), some (.int (nI dep)), some (.int (nI 1))]) (st' := [.int (-1)]) (σ' := σ) rfl ?_
        refine am_reti rfl rfl ?_
        exact hqn (by first | rfl | (simp only [*, if_true, if_false, ne_eq, not_false_eq_true, not_true_eq_false, true_or, false_or, or_false, or_true, or_self, and_true, true_and, and_false, false_and, and_self, Bool.false_eq_true, Bool.true_eq_false, reduceIte, Bool.and_true, Bool.and_false, Bool.true_and, Bool.false_and, x_seq, x_par, x_trap, x_weak, Option.map_some, Option.map_none, Option.some.injEq, cpl, reduceCtorEq, Nat.max_def]; done) | (simp only [*, if_true, if_false, ne_eq, not_false_eq_true, not_true_eq_false, true_or, false_or, or_false, or_true, or_self, and_true, true_and, and_false, false_and, and_self, Bool.false_eq_true, Bool.true_eq_false, reduceIte, Bool.and_true, Bool.and_false, Bool.true_and, Bool.false_and, x_seq, x_par, x_trap, x_weak, Option.map_some, Option.map_none, Option.some.injEq, cpl, reduceCtorEq, Nat.max_def]; rfl))
      · show am_G _ M_X2_ofOperand _ 36 [some (.ref t), some (.int (oI x)), some (.int (nI s)), some (.int (nI P)), some (.int (nI dep)), some (.int (nI 1))] [.int (nI (c5 * 1048576 + q5))] σ
        refine am_run 1 (pc' := 44) (ls' := [some (.ref t), some (.int (oI x)), some (.int (nI s)), some (.int (nI P)), some (.int (nI dep)), some (.int (nI 1))]) (st' := [.int (nI (c5 * 1048576 + q5))]) (σ' := σ) rfl ?_
        refine am_reti rfl rfl ?_
        exact hqs _ _ (by first | rfl | (simp only [*, if_true, if_false, ne_eq, not_false_eq_true, not_true_eq_false, true_or, false_or, or_false, or_true, or_self, and_true, true_and, and_false, false_and, and_self, Bool.false_eq_true, Bool.true_eq_false, reduceIte, Bool.and_true, Bool.and_false, Bool.true_and, Bool.false_and, x_seq, x_par, x_trap, x_weak, Option.map_some, Option.map_none, Option.some.injEq, cpl, reduceCtorEq, Nat.max_def]; done) | (simp only [*, if_true, if_false, ne_eq, not_false_eq_true, not_true_eq_false, true_or, false_or, or_false, or_true, or_self, and_true, true_and, and_false, false_and, and_self, Bool.false_eq_true, Bool.true_eq_false, reduceIte, Bool.and_true, Bool.and_false, Bool.true_and, Bool.false_and, x_seq, x_par, x_trap, x_weak, Option.map_some, Option.map_none, Option.some.injEq, cpl, reduceCtorEq, Nat.max_def]; rfl)) (by omega) (by omega)
    · show am_G _ M_X2_ofOperand _ 12 [some (.ref t), some (.int (oI x)), some (.int (nI s)), some (.int (nI P)), some (.int (nI dep)), none] [.int (nI 0)] σ
      refine am_if (ty := 19) (tn := 15) rfl (by decide) rfl rfl (fun (h_6 : nI 0 = 0) => ?_) (fun (h_6 : ¬ (nI 0 = 0)) => ?_)
      rotate_left
      · exact absurd (by decide) h_6
      refine am_run 3 (pc' := 24) (ls' := [some (.ref t), some (.int (oI x)), some (.int (nI s)), some (.int (nI P)), some (.int (nI dep)), some (.int (nI 0))]) (st' := [.int (nI 0)]) (σ' := σ) rfl ?_
      refine am_if (ty := 39) (tn := 27) rfl (by decide) rfl rfl (fun (h_7 : nI 0 = 0) => ?_) (fun (h_7 : ¬ (nI 0 = 0)) => ?_)
      rotate_left
      · exact absurd (by decide) h_7
      refine am_run 2 (pc' := 41) (ls' := [some (.ref t), some (.int (oI x)), some (.int (nI s)), some (.int (nI P)), some (.int (nI dep)), some (.int (nI 0))]) (st' := [.int (nI 0), .int (nI 0)]) (σ' := σ) rfl ?_
      refine am_invs (y := 40) (as := [.int (nI 0), .int (nI 0)]) (rest := []) rfl rfl rfl rfl rfl rfl (Nat.le_of_ble_eq_true rfl) ?_
      refine c_x_completion (by omega) (c := 0) (q := 0) (by decide) (by first | omega | decide | exact or_lt20 (by omega) (by omega)) ?_
      show am_G _ M_X2_ofOperand _ 44 [some (.ref t), some (.int (oI x)), some (.int (nI s)), some (.int (nI P)), some (.int (nI dep)), some (.int (nI 0))] [.int (nI (0 * 1048576 + 0))] σ
      refine am_reti rfl rfl ?_
      exact hqs _ _ (by first | rfl | (simp only [*, if_true, if_false, ne_eq, not_false_eq_true, not_true_eq_false, true_or, false_or, or_false, or_true, or_self, and_true, true_and, and_false, false_and, and_self, Bool.false_eq_true, Bool.true_eq_false, reduceIte, Bool.and_true, Bool.and_false, Bool.true_and, Bool.false_and, x_seq, x_par, x_trap, x_weak, Option.map_some, Option.map_none, Option.some.injEq, cpl, reduceCtorEq, Nat.max_def]; done) | (simp only [*, if_true, if_false, ne_eq, not_false_eq_true, not_true_eq_false, true_or, false_or, or_false, or_true, or_self, and_true, true_and, and_false, false_and, and_self, Bool.false_eq_true, Bool.true_eq_false, reduceIte, Bool.and_true, Bool.and_false, Bool.true_and, Bool.false_and, x_seq, x_par, x_trap, x_weak, Option.map_some, Option.map_none, Option.some.injEq, cpl, reduceCtorEq, Nat.max_def]; rfl)) (by omega) (by omega)
set_option maxRecDepth 10000 in
set_option maxHeartbeats 1000000 in
theorem c_x_ofParallel {d : Nat} {σ : am_M} {t n : Nat} {p : Pg} (hW : PW p n) (hR : TR σ t p n) {f dep : Nat} (hAN : AN σ t p n f dep) (hEX : EX σ t p n f dep) (hd : 8 * f + 16 ≤ d) {k s P : Nat} (hk : k < n) (hs : s ≤ 1048576) (hP : P < 256) (ht : p 0 k = 124) {Q : am_Q} (hqn : exB p (ex p f) (an p f) k s P = none → Q (some (.int (-1))) σ) (hqs : ∀ c q, exB p (ex p f) (an p f) k s P = some (c, q) → Q (some (.int (nI (c * 1048576 + q)))) σ) : am_C d 44 [.ref t, .int (nI k), .int (nI s), .int (nI P), .int (nI dep)] σ Q := by
  obtain ⟨w0, w1, w2, w3, w4, w5, w6⟩ := hW.2 k hk
  by_cases hs1 : s = 1048576
  · subst hs1
    refine am_enter' (M := M_X2_ofParallel) rfl rfl rfl (by omega) (ls := [some (.ref t), some (.int (nI k)), some (.int (nI 1048576)), some (.int (nI P)), some (.int (nI dep)), none, none]) rfl (fun d' hd' => ?_)
    refine am_run 3 (pc' := 3) (ls' := [some (.ref t), some (.int (nI k)), some (.int (nI 1048576)), some (.int (nI P)), some (.int (nI dep)), none, none]) (st' := [.int (nI k), .ref t, .ref t]) (σ' := σ) rfl ?_
    refine am_invv (y := 115) (b := t) (as := [.int (nI k)]) (rest := [.ref t]) rfl rfl rfl rfl rfl rfl (TR_kind hR) (Nat.le_of_ble_eq_true rfl) ?_
    refine c_leftOf (by omega) hW hR hk ?_
    show am_G _ M_X2_ofParallel _ 6 [some (.ref t), some (.int (nI k)), some (.int (nI 1048576)), some (.int (nI P)), some (.int (nI dep)), none, none] [.int (oI (p 2 k)), .ref t] σ
    refine am_run 3 (pc' := 10) (ls' := [some (.ref t), some (.int (nI k)), some (.int (nI 1048576)), some (.int (nI P)), some (.int (nI dep)), none, none]) (st' := [.int (nI dep), .int (nI P), .int (nI 1048576), .int (oI (p 2 k)), .ref t]) (σ' := σ) rfl ?_
    refine am_invs (y := 45) (as := [.ref t, .int (oI (p 2 k)), .int (nI 1048576), .int (nI P), .int (nI dep)]) (rest := []) rfl rfl rfl rfl rfl rfl (Nat.le_of_ble_eq_true rfl) ?_
    refine c_x_ofOperand hW hR hEX (by omega) w2 (by omega) hP (fun heA => ?_) (fun cA qA heA hcA hqA => ?_)
    · show am_G _ M_X2_ofParallel _ 13 [some (.ref t), some (.int (nI k)), some (.int (nI 1048576)), some (.int (nI P)), some (.int (nI dep)), none, none] [.int (-1)] σ
      refine am_run 4 (pc' := 18) (ls' := [some (.ref t), some (.int (nI k)), some (.int (nI 1048576)), some (.int (nI P)), some (.int (nI dep)), some (.int (-1)), none]) (st' := [.int (nI k), .ref t, .ref t]) (σ' := σ) rfl ?_
      refine am_invv (y := 116) (b := t) (as := [.int (nI k)]) (rest := [.ref t]) rfl rfl rfl rfl rfl rfl (TR_kind hR) (Nat.le_of_ble_eq_true rfl) ?_
      refine c_rightOf (by omega) hW hR hk ?_
      show am_G _ M_X2_ofParallel _ 21 [some (.ref t), some (.int (nI k)), some (.int (nI 1048576)), some (.int (nI P)), some (.int (nI dep)), some (.int (-1)), none] [.int (oI (p 3 k)), .ref t] σ
      refine am_run 3 (pc' := 25) (ls' := [some (.ref t), some (.int (nI k)), some (.int (nI 1048576)), some (.int (nI P)), some (.int (nI dep)), some (.int (-1)), none]) (st' := [.int (nI dep), .int (nI P), .int (nI 1048576), .int (oI (p 3 k)), .ref t]) (σ' := σ) rfl ?_
      refine am_invs (y := 45) (as := [.ref t, .int (oI (p 3 k)), .int (nI 1048576), .int (nI P), .int (nI dep)]) (rest := []) rfl rfl rfl rfl rfl rfl (Nat.le_of_ble_eq_true rfl) ?_
      refine c_x_ofOperand hW hR hEX (by omega) w3 (by omega) hP (fun heB => ?_) (fun cB qB heB hcB hqB => ?_)
      · show am_G _ M_X2_ofParallel _ 28 [some (.ref t), some (.int (nI k)), some (.int (nI 1048576)), some (.int (nI P)), some (.int (nI dep)), some (.int (-1)), none] [.int (-1)] σ
        refine am_run 3 (pc' := 33) (ls' := [some (.ref t), some (.int (nI k)), some (.int (nI 1048576)), some (.int (nI P)), some (.int (nI dep)), some (.int (-1)), some (.int (-1))]) (st' := [.int (-1), .int (-1)]) (σ' := σ) rfl ?_
        refine am_ic (ty := 42) (tn := 36) rfl (by decide) rfl rfl (fun (h_3 : -1 = -1) => ?_) (fun (h_3 : ¬ (-1 = -1)) => ?_)
        rotate_left
        · exact absurd (by decide) h_3
        refine am_run 1 (pc' := 43) (ls' := [some (.ref t), some (.int (nI k)), some (.int (nI 1048576)), some (.int (nI P)), some (.int (nI dep)), some (.int (-1)), some (.int (-1))]) (st' := [.int (-1)]) (σ' := σ) rfl ?_
        refine am_reti rfl rfl ?_
        have e : exB p (ex p f) (an p f) k 1048576 P = none := by
          rw [exB_124 ht]
          first | (rw [heA, heB]; rfl) | (rw [heA]; rfl)
        exact hqn e
      · show am_G _ M_X2_ofParallel _ 28 [some (.ref t), some (.int (nI k)), some (.int (nI 1048576)), some (.int (nI P)), some (.int (nI dep)), some (.int (-1)), none] [.int (nI (cB * 1048576 + qB))] σ
        refine am_run 3 (pc' := 33) (ls' := [some (.ref t), some (.int (nI k)), some (.int (nI 1048576)), some (.int (nI P)), some (.int (nI dep)), some (.int (-1)), some (.int (nI (cB * 1048576 + qB)))]) (st' := [.int (-1), .int (-1)]) (σ' := σ) rfl ?_
        refine am_ic (ty := 42) (tn := 36) rfl (by decide) rfl rfl (fun (h_4 : -1 = -1) => ?_) (fun (h_4 : ¬ (-1 = -1)) => ?_)
        rotate_left
        · exact absurd (by decide) h_4
        refine am_run 1 (pc' := 43) (ls' := [some (.ref t), some (.int (nI k)), some (.int (nI 1048576)), some (.int (nI P)), some (.int (nI dep)), some (.int (-1)), some (.int (nI (cB * 1048576 + qB)))]) (st' := [.int (-1)]) (σ' := σ) rfl ?_
        refine am_reti rfl rfl ?_
        have e : exB p (ex p f) (an p f) k 1048576 P = none := by
          rw [exB_124 ht]
          first | (rw [heA, heB]; rfl) | (rw [heA]; rfl)
        exact hqn e
    · show am_G _ M_X2_ofParallel _ 13 [some (.ref t), some (.int (nI k)), some (.int (nI 1048576)), some (.int (nI P)), some (.int (nI dep)), none, none] [.int (nI (cA * 1048576 + qA))] σ
      refine am_run 4 (pc' := 18) (ls' := [some (.ref t), some (.int (nI k)), some (.int (nI 1048576)), some (.int (nI P)), some (.int (nI dep)), some (.int (nI (cA * 1048576 + qA))), none]) (st' := [.int (nI k), .ref t, .ref t]) (σ' := σ) rfl ?_
      refine am_invv (y := 116) (b := t) (as := [.int (nI k)]) (rest := [.ref t]) rfl rfl rfl rfl rfl rfl (TR_kind hR) (Nat.le_of_ble_eq_true rfl) ?_
      refine c_rightOf (by omega) hW hR hk ?_
      show am_G _ M_X2_ofParallel _ 21 [some (.ref t), some (.int (nI k)), some (.int (nI 1048576)), some (.int (nI P)), some (.int (nI dep)), some (.int (nI (cA * 1048576 + qA))), none] [.int (oI (p 3 k)), .ref t] σ
      refine am_run 3 (pc' := 25) (ls' := [some (.ref t), some (.int (nI k)), some (.int (nI 1048576)), some (.int (nI P)), some (.int (nI dep)), some (.int (nI (cA * 1048576 + qA))), none]) (st' := [.int (nI dep), .int (nI P), .int (nI 1048576), .int (oI (p 3 k)), .ref t]) (σ' := σ) rfl ?_
      refine am_invs (y := 45) (as := [.ref t, .int (oI (p 3 k)), .int (nI 1048576), .int (nI P), .int (nI dep)]) (rest := []) rfl rfl rfl rfl rfl rfl (Nat.le_of_ble_eq_true rfl) ?_
      refine c_x_ofOperand hW hR hEX (by omega) w3 (by omega) hP (fun heB => ?_) (fun cB qB heB hcB hqB => ?_)
      · show am_G _ M_X2_ofParallel _ 28 [some (.ref t), some (.int (nI k)), some (.int (nI 1048576)), some (.int (nI P)), some (.int (nI dep)), some (.int (nI (cA * 1048576 + qA))), none] [.int (-1)] σ
        refine am_run 3 (pc' := 33) (ls' := [some (.ref t), some (.int (nI k)), some (.int (nI 1048576)), some (.int (nI P)), some (.int (nI dep)), some (.int (nI (cA * 1048576 + qA))), some (.int (-1))]) (st' := [.int (-1), .int (nI (cA * 1048576 + qA))]) (σ' := σ) rfl ?_
        refine am_ic (ty := 42) (tn := 36) rfl (by decide) rfl rfl (fun (h_6 : nI (cA * 1048576 + qA) = -1) => ?_) (fun (h_6 : ¬ (nI (cA * 1048576 + qA) = -1)) => ?_)
        · exact absurd h_6 (am_nm1 (by omega))
        refine am_run 2 (pc' := 39) (ls' := [some (.ref t), some (.int (nI k)), some (.int (nI 1048576)), some (.int (nI P)), some (.int (nI dep)), some (.int (nI (cA * 1048576 + qA))), some (.int (-1))]) (st' := [.int (-1), .int (-1)]) (σ' := σ) rfl ?_
        refine am_ic (ty := 42) (tn := 44) rfl (by decide) rfl rfl (fun (h_7 : -1 = -1) => ?_) (fun (h_7 : ¬ (-1 = -1)) => ?_)
        rotate_left
        · exact absurd (by decide) h_7
        refine am_run 1 (pc' := 43) (ls' := [some (.ref t), some (.int (nI k)), some (.int (nI 1048576)), some (.int (nI P)), some (.int (nI dep)), some (.int (nI (cA * 1048576 + qA))), some (.int (-1))]) (st' := [.int (-1)]) (σ' := σ) rfl ?_
        refine am_reti rfl rfl ?_
        have e : exB p (ex p f) (an p f) k 1048576 P = none := by
          rw [exB_124 ht]
          first | (rw [heA, heB]; rfl) | (rw [heA]; rfl)
        exact hqn e
      · show am_G _ M_X2_ofParallel _ 28 [some (.ref t), some (.int (nI k)), some (.int (nI 1048576)), some (.int (nI P)), some (.int (nI dep)), some (.int (nI (cA * 1048576 + qA))), none] [.int (nI (cB * 1048576 + qB))] σ
        refine am_run 3 (pc' := 33) (ls' := [some (.ref t), some (.int (nI k)), some (.int (nI 1048576)), some (.int (nI P)), some (.int (nI dep)), some (.int (nI (cA * 1048576 + qA))), some (.int (nI (cB * 1048576 + qB)))]) (st' := [.int (-1), .int (nI (cA * 1048576 + qA))]) (σ' := σ) rfl ?_
        refine am_ic (ty := 42) (tn := 36) rfl (by decide) rfl rfl (fun (h_8 : nI (cA * 1048576 + qA) = -1) => ?_) (fun (h_8 : ¬ (nI (cA * 1048576 + qA) = -1)) => ?_)
        · exact absurd h_8 (am_nm1 (by omega))
        refine am_run 2 (pc' := 39) (ls' := [some (.ref t), some (.int (nI k)), some (.int (nI 1048576)), some (.int (nI P)), some (.int (nI dep)), some (.int (nI (cA * 1048576 + qA))), some (.int (nI (cB * 1048576 + qB)))]) (st' := [.int (-1), .int (nI (cB * 1048576 + qB))]) (σ' := σ) rfl ?_
        refine am_ic (ty := 42) (tn := 44) rfl (by decide) rfl rfl (fun (h_9 : nI (cB * 1048576 + qB) = -1) => ?_) (fun (h_9 : ¬ (nI (cB * 1048576 + qB) = -1)) => ?_)
        · exact absurd h_9 (am_nm1 (by omega))
        refine am_run 1 (pc' := 46) (ls' := [some (.ref t), some (.int (nI k)), some (.int (nI 1048576)), some (.int (nI P)), some (.int (nI dep)), some (.int (nI (cA * 1048576 + qA))), some (.int (nI (cB * 1048576 + qB)))]) (st' := [.int (nI (cA * 1048576 + qA))]) (σ' := σ) rfl ?_
        refine am_invs (y := 38) (as := [.int (nI (cA * 1048576 + qA))]) (rest := []) rfl rfl rfl rfl rfl rfl (Nat.le_of_ble_eq_true rfl) ?_
        refine c_x_code (by omega) (c := cA) (q := qA) (by first | omega | decide | exact or_lt20 (by omega) (by omega)) (by first | omega | decide | exact or_lt20 (by omega) (by omega)) ?_
        show am_G _ M_X2_ofParallel _ 49 [some (.ref t), some (.int (nI k)), some (.int (nI 1048576)), some (.int (nI P)), some (.int (nI dep)), some (.int (nI (cA * 1048576 + qA))), some (.int (nI (cB * 1048576 + qB)))] [.int (nI cA)] σ
        refine am_run 1 (pc' := 51) (ls' := [some (.ref t), some (.int (nI k)), some (.int (nI 1048576)), some (.int (nI P)), some (.int (nI dep)), some (.int (nI (cA * 1048576 + qA))), some (.int (nI (cB * 1048576 + qB)))]) (st' := [.int (nI (cB * 1048576 + qB)), .int (nI cA)]) (σ' := σ) rfl ?_
        refine am_invs (y := 38) (as := [.int (nI (cB * 1048576 + qB))]) (rest := [.int (nI cA)]) rfl rfl rfl rfl rfl rfl (Nat.le_of_ble_eq_true rfl) ?_
        refine c_x_code (by omega) (c := cB) (q := qB) (by first | omega | decide | exact or_lt20 (by omega) (by omega)) (by first | omega | decide | exact or_lt20 (by omega) (by omega)) ?_
        show am_G _ M_X2_ofParallel _ 54 [some (.ref t), some (.int (nI k)), some (.int (nI 1048576)), some (.int (nI P)), some (.int (nI dep)), some (.int (nI (cA * 1048576 + qA))), some (.int (nI (cB * 1048576 + qB)))] [.int (nI cB), .int (nI cA)] σ
        refine am_mxr (b := true) rfl rfl (Nat.le_of_ble_eq_true rfl) ?_
        refine am_top (v' := nI (max cA cB)) (pq_max (by omega) (by omega)) ?_
        refine am_run 1 (pc' := 59) (ls' := [some (.ref t), some (.int (nI k)), some (.int (nI 1048576)), some (.int (nI P)), some (.int (nI dep)), some (.int (nI (cA * 1048576 + qA))), some (.int (nI (cB * 1048576 + qB)))]) (st' := [.int (nI (cA * 1048576 + qA)), .int (nI (max cA cB))]) (σ' := σ) rfl ?_
        refine am_invs (y := 39) (as := [.int (nI (cA * 1048576 + qA))]) (rest := [.int (nI (max cA cB))]) rfl rfl rfl rfl rfl rfl (Nat.le_of_ble_eq_true rfl) ?_
        refine c_x_points (by omega) (c := cA) (q := qA) (by first | omega | decide | exact or_lt20 (by omega) (by omega)) (by first | omega | decide | exact or_lt20 (by omega) (by omega)) ?_
        show am_G _ M_X2_ofParallel _ 62 [some (.ref t), some (.int (nI k)), some (.int (nI 1048576)), some (.int (nI P)), some (.int (nI dep)), some (.int (nI (cA * 1048576 + qA))), some (.int (nI (cB * 1048576 + qB)))] [.int (nI qA), .int (nI (max cA cB))] σ
        refine am_run 1 (pc' := 64) (ls' := [some (.ref t), some (.int (nI k)), some (.int (nI 1048576)), some (.int (nI P)), some (.int (nI dep)), some (.int (nI (cA * 1048576 + qA))), some (.int (nI (cB * 1048576 + qB)))]) (st' := [.int (nI (cB * 1048576 + qB)), .int (nI qA), .int (nI (max cA cB))]) (σ' := σ) rfl ?_
        refine am_invs (y := 39) (as := [.int (nI (cB * 1048576 + qB))]) (rest := [.int (nI qA), .int (nI (max cA cB))]) rfl rfl rfl rfl rfl rfl (Nat.le_of_ble_eq_true rfl) ?_
        refine c_x_points (by omega) (c := cB) (q := qB) (by first | omega | decide | exact or_lt20 (by omega) (by omega)) (by first | omega | decide | exact or_lt20 (by omega) (by omega)) ?_
        show am_G _ M_X2_ofParallel _ 67 [some (.ref t), some (.int (nI k)), some (.int (nI 1048576)), some (.int (nI P)), some (.int (nI dep)), some (.int (nI (cA * 1048576 + qA))), some (.int (nI (cB * 1048576 + qB)))] [.int (nI qB), .int (nI qA), .int (nI (max cA cB))] σ
        refine am_run 1 (pc' := 68) (ls' := [some (.ref t), some (.int (nI k)), some (.int (nI 1048576)), some (.int (nI P)), some (.int (nI dep)), some (.int (nI (cA * 1048576 + qA))), some (.int (nI (cB * 1048576 + qB)))]) (st' := [.int (nI qA ||| nI qB), .int (nI (max cA cB))]) (σ' := σ) rfl ?_
        refine am_top (v' := nI (qA ||| qB)) (nx_or _ _) ?_
        refine am_invs (y := 40) (as := [.int (nI (max cA cB)), .int (nI (qA ||| qB))]) (rest := []) rfl rfl rfl rfl rfl rfl (Nat.le_of_ble_eq_true rfl) ?_
        refine c_x_completion (by omega) (c := max cA cB) (q := qA ||| qB) (by first | omega | decide | exact or_lt20 (by omega) (by omega)) (by first | omega | decide | exact or_lt20 (by omega) (by omega)) ?_
        show am_G _ M_X2_ofParallel _ 71 [some (.ref t), some (.int (nI k)), some (.int (nI 1048576)), some (.int (nI P)), some (.int (nI dep)), some (.int (nI (cA * 1048576 + qA))), some (.int (nI (cB * 1048576 + qB)))] [.int (nI ((max cA cB) * 1048576 + (if max cA cB = 1 then qA ||| qB else 0)))] σ
        refine am_reti rfl rfl ?_
        have e : exB p (ex p f) (an p f) k 1048576 P = some ((max cA cB), (if max cA cB = 1 then qA ||| qB else 0)) := by
          rw [exB_124 ht]
          first | (rw [heA, heB]; rfl) | (rw [heA]; rfl)
        exact hqs _ _ e
  · skip
    refine am_enter' (M := M_X2_ofParallel) rfl rfl rfl (by omega) (ls := [some (.ref t), some (.int (nI k)), some (.int (nI s)), some (.int (nI P)), some (.int (nI dep)), none, none]) rfl (fun d' hd' => ?_)
    refine am_run 3 (pc' := 3) (ls' := [some (.ref t), some (.int (nI k)), some (.int (nI s)), some (.int (nI P)), some (.int (nI dep)), none, none]) (st' := [.int (nI k), .ref t, .ref t]) (σ' := σ) rfl ?_
    refine am_invv (y := 115) (b := t) (as := [.int (nI k)]) (rest := [.ref t]) rfl rfl rfl rfl rfl rfl (TR_kind hR) (Nat.le_of_ble_eq_true rfl) ?_
    refine c_leftOf (by omega) hW hR hk ?_
    show am_G _ M_X2_ofParallel _ 6 [some (.ref t), some (.int (nI k)), some (.int (nI s)), some (.int (nI P)), some (.int (nI dep)), none, none] [.int (oI (p 2 k)), .ref t] σ
    refine am_run 3 (pc' := 10) (ls' := [some (.ref t), some (.int (nI k)), some (.int (nI s)), some (.int (nI P)), some (.int (nI dep)), none, none]) (st' := [.int (nI dep), .int (nI P), .int (nI s), .int (oI (p 2 k)), .ref t]) (σ' := σ) rfl ?_
    refine am_invs (y := 45) (as := [.ref t, .int (oI (p 2 k)), .int (nI s), .int (nI P), .int (nI dep)]) (rest := []) rfl rfl rfl rfl rfl rfl (Nat.le_of_ble_eq_true rfl) ?_
    refine c_x_ofOperand hW hR hEX (by omega) w2 (by omega) hP (fun heA => ?_) (fun cA qA heA hcA hqA => ?_)
    · show am_G _ M_X2_ofParallel _ 13 [some (.ref t), some (.int (nI k)), some (.int (nI s)), some (.int (nI P)), some (.int (nI dep)), none, none] [.int (-1)] σ
      refine am_run 4 (pc' := 18) (ls' := [some (.ref t), some (.int (nI k)), some (.int (nI s)), some (.int (nI P)), some (.int (nI dep)), some (.int (-1)), none]) (st' := [.int (nI k), .ref t, .ref t]) (σ' := σ) rfl ?_
      refine am_invv (y := 116) (b := t) (as := [.int (nI k)]) (rest := [.ref t]) rfl rfl rfl rfl rfl rfl (TR_kind hR) (Nat.le_of_ble_eq_true rfl) ?_
      refine c_rightOf (by omega) hW hR hk ?_
      show am_G _ M_X2_ofParallel _ 21 [some (.ref t), some (.int (nI k)), some (.int (nI s)), some (.int (nI P)), some (.int (nI dep)), some (.int (-1)), none] [.int (oI (p 3 k)), .ref t] σ
      refine am_run 3 (pc' := 25) (ls' := [some (.ref t), some (.int (nI k)), some (.int (nI s)), some (.int (nI P)), some (.int (nI dep)), some (.int (-1)), none]) (st' := [.int (nI dep), .int (nI P), .int (nI s), .int (oI (p 3 k)), .ref t]) (σ' := σ) rfl ?_
      refine am_invs (y := 45) (as := [.ref t, .int (oI (p 3 k)), .int (nI s), .int (nI P), .int (nI dep)]) (rest := []) rfl rfl rfl rfl rfl rfl (Nat.le_of_ble_eq_true rfl) ?_
      refine c_x_ofOperand hW hR hEX (by omega) w3 (by omega) hP (fun heB => ?_) (fun cB qB heB hcB hqB => ?_)
      · show am_G _ M_X2_ofParallel _ 28 [some (.ref t), some (.int (nI k)), some (.int (nI s)), some (.int (nI P)), some (.int (nI dep)), some (.int (-1)), none] [.int (-1)] σ
        refine am_run 3 (pc' := 33) (ls' := [some (.ref t), some (.int (nI k)), some (.int (nI s)), some (.int (nI P)), some (.int (nI dep)), some (.int (-1)), some (.int (-1))]) (st' := [.int (-1), .int (-1)]) (σ' := σ) rfl ?_
        refine am_ic (ty := 42) (tn := 36) rfl (by decide) rfl rfl (fun (h_3 : -1 = -1) => ?_) (fun (h_3 : ¬ (-1 = -1)) => ?_)
        rotate_left
        · exact absurd (by decide) h_3
        refine am_run 1 (pc' := 43) (ls' := [some (.ref t), some (.int (nI k)), some (.int (nI s)), some (.int (nI P)), some (.int (nI dep)), some (.int (-1)), some (.int (-1))]) (st' := [.int (-1)]) (σ' := σ) rfl ?_
        refine am_reti rfl rfl ?_
        have e : exB p (ex p f) (an p f) k s P = none := by
          rw [exB_124 ht]
          first | (rw [heA, heB]; rfl) | (rw [heA]; rfl)
        exact hqn e
      · show am_G _ M_X2_ofParallel _ 28 [some (.ref t), some (.int (nI k)), some (.int (nI s)), some (.int (nI P)), some (.int (nI dep)), some (.int (-1)), none] [.int (nI (cB * 1048576 + qB))] σ
        refine am_run 3 (pc' := 33) (ls' := [some (.ref t), some (.int (nI k)), some (.int (nI s)), some (.int (nI P)), some (.int (nI dep)), some (.int (-1)), some (.int (nI (cB * 1048576 + qB)))]) (st' := [.int (-1), .int (-1)]) (σ' := σ) rfl ?_
        refine am_ic (ty := 42) (tn := 36) rfl (by decide) rfl rfl (fun (h_4 : -1 = -1) => ?_) (fun (h_4 : ¬ (-1 = -1)) => ?_)
        rotate_left
        · exact absurd (by decide) h_4
        refine am_run 1 (pc' := 43) (ls' := [some (.ref t), some (.int (nI k)), some (.int (nI s)), some (.int (nI P)), some (.int (nI dep)), some (.int (-1)), some (.int (nI (cB * 1048576 + qB)))]) (st' := [.int (-1)]) (σ' := σ) rfl ?_
        refine am_reti rfl rfl ?_
        have e : exB p (ex p f) (an p f) k s P = none := by
          rw [exB_124 ht]
          first | (rw [heA, heB]; rfl) | (rw [heA]; rfl)
        exact hqn e
    · show am_G _ M_X2_ofParallel _ 13 [some (.ref t), some (.int (nI k)), some (.int (nI s)), some (.int (nI P)), some (.int (nI dep)), none, none] [.int (nI (cA * 1048576 + qA))] σ
      refine am_run 4 (pc' := 18) (ls' := [some (.ref t), some (.int (nI k)), some (.int (nI s)), some (.int (nI P)), some (.int (nI dep)), some (.int (nI (cA * 1048576 + qA))), none]) (st' := [.int (nI k), .ref t, .ref t]) (σ' := σ) rfl ?_
      refine am_invv (y := 116) (b := t) (as := [.int (nI k)]) (rest := [.ref t]) rfl rfl rfl rfl rfl rfl (TR_kind hR) (Nat.le_of_ble_eq_true rfl) ?_
      refine c_rightOf (by omega) hW hR hk ?_
      show am_G _ M_X2_ofParallel _ 21 [some (.ref t), some (.int (nI k)), some (.int (nI s)), some (.int (nI P)), some (.int (nI dep)), some (.int (nI (cA * 1048576 + qA))), none] [.int (oI (p 3 k)), .ref t] σ
      refine am_run 3 (pc' := 25) (ls' := [some (.ref t), some (.int (nI k)), some (.int (nI s)), some (.int (nI P)), some (.int (nI dep)), some (.int (nI (cA * 1048576 + qA))), none]) (st' := [.int (nI dep), .int (nI P), .int (nI s), .int (oI (p 3 k)), .ref t]) (σ' := σ) rfl ?_
      refine am_invs (y := 45) (as := [.ref t, .int (oI (p 3 k)), .int (nI s), .int (nI P), .int (nI dep)]) (rest := []) rfl rfl rfl rfl rfl rfl (Nat.le_of_ble_eq_true rfl) ?_
      refine c_x_ofOperand hW hR hEX (by omega) w3 (by omega) hP (fun heB => ?_) (fun cB qB heB hcB hqB => ?_)
      · show am_G _ M_X2_ofParallel _ 28 [some (.ref t), some (.int (nI k)), some (.int (nI s)), some (.int (nI P)), some (.int (nI dep)), some (.int (nI (cA * 1048576 + qA))), none] [.int (-1)] σ
        refine am_run 3 (pc' := 33) (ls' := [some (.ref t), some (.int (nI k)), some (.int (nI s)), some (.int (nI P)), some (.int (nI dep)), some (.int (nI (cA * 1048576 + qA))), some (.int (-1))]) (st' := [.int (-1), .int (nI (cA * 1048576 + qA))]) (σ' := σ) rfl ?_
        refine am_ic (ty := 42) (tn := 36) rfl (by decide) rfl rfl (fun (h_6 : nI (cA * 1048576 + qA) = -1) => ?_) (fun (h_6 : ¬ (nI (cA * 1048576 + qA) = -1)) => ?_)
        · exact absurd h_6 (am_nm1 (by omega))
        refine am_run 2 (pc' := 39) (ls' := [some (.ref t), some (.int (nI k)), some (.int (nI s)), some (.int (nI P)), some (.int (nI dep)), some (.int (nI (cA * 1048576 + qA))), some (.int (-1))]) (st' := [.int (-1), .int (-1)]) (σ' := σ) rfl ?_
        refine am_ic (ty := 42) (tn := 44) rfl (by decide) rfl rfl (fun (h_7 : -1 = -1) => ?_) (fun (h_7 : ¬ (-1 = -1)) => ?_)
        rotate_left
        · exact absurd (by decide) h_7
        refine am_run 1 (pc' := 43) (ls' := [some (.ref t), some (.int (nI k)), some (.int (nI s)), some (.int (nI P)), some (.int (nI dep)), some (.int (nI (cA * 1048576 + qA))), some (.int (-1))]) (st' := [.int (-1)]) (σ' := σ) rfl ?_
        refine am_reti rfl rfl ?_
        have e : exB p (ex p f) (an p f) k s P = none := by
          rw [exB_124 ht]
          first | (rw [heA, heB]; rfl) | (rw [heA]; rfl)
        exact hqn e
      · show am_G _ M_X2_ofParallel _ 28 [some (.ref t), some (.int (nI k)), some (.int (nI s)), some (.int (nI P)), some (.int (nI dep)), some (.int (nI (cA * 1048576 + qA))), none] [.int (nI (cB * 1048576 + qB))] σ
        refine am_run 3 (pc' := 33) (ls' := [some (.ref t), some (.int (nI k)), some (.int (nI s)), some (.int (nI P)), some (.int (nI dep)), some (.int (nI (cA * 1048576 + qA))), some (.int (nI (cB * 1048576 + qB)))]) (st' := [.int (-1), .int (nI (cA * 1048576 + qA))]) (σ' := σ) rfl ?_
        refine am_ic (ty := 42) (tn := 36) rfl (by decide) rfl rfl (fun (h_8 : nI (cA * 1048576 + qA) = -1) => ?_) (fun (h_8 : ¬ (nI (cA * 1048576 + qA) = -1)) => ?_)
        · exact absurd h_8 (am_nm1 (by omega))
        refine am_run 2 (pc' := 39) (ls' := [some (.ref t), some (.int (nI k)), some (.int (nI s)), some (.int (nI P)), some (.int (nI dep)), some (.int (nI (cA * 1048576 + qA))), some (.int (nI (cB * 1048576 + qB)))]) (st' := [.int (-1), .int (nI (cB * 1048576 + qB))]) (σ' := σ) rfl ?_
        refine am_ic (ty := 42) (tn := 44) rfl (by decide) rfl rfl (fun (h_9 : nI (cB * 1048576 + qB) = -1) => ?_) (fun (h_9 : ¬ (nI (cB * 1048576 + qB) = -1)) => ?_)
        · exact absurd h_9 (am_nm1 (by omega))
        refine am_run 1 (pc' := 46) (ls' := [some (.ref t), some (.int (nI k)), some (.int (nI s)), some (.int (nI P)), some (.int (nI dep)), some (.int (nI (cA * 1048576 + qA))), some (.int (nI (cB * 1048576 + qB)))]) (st' := [.int (nI (cA * 1048576 + qA))]) (σ' := σ) rfl ?_
        refine am_invs (y := 38) (as := [.int (nI (cA * 1048576 + qA))]) (rest := []) rfl rfl rfl rfl rfl rfl (Nat.le_of_ble_eq_true rfl) ?_
        refine c_x_code (by omega) (c := cA) (q := qA) (by first | omega | decide | exact or_lt20 (by omega) (by omega)) (by first | omega | decide | exact or_lt20 (by omega) (by omega)) ?_
        show am_G _ M_X2_ofParallel _ 49 [some (.ref t), some (.int (nI k)), some (.int (nI s)), some (.int (nI P)), some (.int (nI dep)), some (.int (nI (cA * 1048576 + qA))), some (.int (nI (cB * 1048576 + qB)))] [.int (nI cA)] σ
        refine am_run 1 (pc' := 51) (ls' := [some (.ref t), some (.int (nI k)), some (.int (nI s)), some (.int (nI P)), some (.int (nI dep)), some (.int (nI (cA * 1048576 + qA))), some (.int (nI (cB * 1048576 + qB)))]) (st' := [.int (nI (cB * 1048576 + qB)), .int (nI cA)]) (σ' := σ) rfl ?_
        refine am_invs (y := 38) (as := [.int (nI (cB * 1048576 + qB))]) (rest := [.int (nI cA)]) rfl rfl rfl rfl rfl rfl (Nat.le_of_ble_eq_true rfl) ?_
        refine c_x_code (by omega) (c := cB) (q := qB) (by first | omega | decide | exact or_lt20 (by omega) (by omega)) (by first | omega | decide | exact or_lt20 (by omega) (by omega)) ?_
        show am_G _ M_X2_ofParallel _ 54 [some (.ref t), some (.int (nI k)), some (.int (nI s)), some (.int (nI P)), some (.int (nI dep)), some (.int (nI (cA * 1048576 + qA))), some (.int (nI (cB * 1048576 + qB)))] [.int (nI cB), .int (nI cA)] σ
        refine am_mxr (b := true) rfl rfl (Nat.le_of_ble_eq_true rfl) ?_
        refine am_top (v' := nI (max cA cB)) (pq_max (by omega) (by omega)) ?_
        refine am_run 1 (pc' := 59) (ls' := [some (.ref t), some (.int (nI k)), some (.int (nI s)), some (.int (nI P)), some (.int (nI dep)), some (.int (nI (cA * 1048576 + qA))), some (.int (nI (cB * 1048576 + qB)))]) (st' := [.int (nI (cA * 1048576 + qA)), .int (nI (max cA cB))]) (σ' := σ) rfl ?_
        refine am_invs (y := 39) (as := [.int (nI (cA * 1048576 + qA))]) (rest := [.int (nI (max cA cB))]) rfl rfl rfl rfl rfl rfl (Nat.le_of_ble_eq_true rfl) ?_
        refine c_x_points (by omega) (c := cA) (q := qA) (by first | omega | decide | exact or_lt20 (by omega) (by omega)) (by first | omega | decide | exact or_lt20 (by omega) (by omega)) ?_
        show am_G _ M_X2_ofParallel _ 62 [some (.ref t), some (.int (nI k)), some (.int (nI s)), some (.int (nI P)), some (.int (nI dep)), some (.int (nI (cA * 1048576 + qA))), some (.int (nI (cB * 1048576 + qB)))] [.int (nI qA), .int (nI (max cA cB))] σ
        refine am_run 1 (pc' := 64) (ls' := [some (.ref t), some (.int (nI k)), some (.int (nI s)), some (.int (nI P)), some (.int (nI dep)), some (.int (nI (cA * 1048576 + qA))), some (.int (nI (cB * 1048576 + qB)))]) (st' := [.int (nI (cB * 1048576 + qB)), .int (nI qA), .int (nI (max cA cB))]) (σ' := σ) rfl ?_
        refine am_invs (y := 39) (as := [.int (nI (cB * 1048576 + qB))]) (rest := [.int (nI qA), .int (nI (max cA cB))]) rfl rfl rfl rfl rfl rfl (Nat.le_of_ble_eq_true rfl) ?_
        refine c_x_points (by omega) (c := cB) (q := qB) (by first | omega | decide | exact or_lt20 (by omega) (by omega)) (by first | omega | decide | exact or_lt20 (by omega) (by omega)) ?_
        show am_G _ M_X2_ofParallel _ 67 [some (.ref t), some (.int (nI k)), some (.int (nI s)), some (.int (nI P)), some (.int (nI dep)), some (.int (nI (cA * 1048576 + qA))), some (.int (nI (cB * 1048576 + qB)))] [.int (nI qB), .int (nI qA), .int (nI (max cA cB))] σ
        refine am_run 1 (pc' := 68) (ls' := [some (.ref t), some (.int (nI k)), some (.int (nI s)), some (.int (nI P)), some (.int (nI dep)), some (.int (nI (cA * 1048576 + qA))), some (.int (nI (cB * 1048576 + qB)))]) (st' := [.int (nI qA ||| nI qB), .int (nI (max cA cB))]) (σ' := σ) rfl ?_
        refine am_top (v' := nI (qA ||| qB)) (nx_or _ _) ?_
        refine am_invs (y := 40) (as := [.int (nI (max cA cB)), .int (nI (qA ||| qB))]) (rest := []) rfl rfl rfl rfl rfl rfl (Nat.le_of_ble_eq_true rfl) ?_
        refine c_x_completion (by omega) (c := max cA cB) (q := qA ||| qB) (by first | omega | decide | exact or_lt20 (by omega) (by omega)) (by first | omega | decide | exact or_lt20 (by omega) (by omega)) ?_
        show am_G _ M_X2_ofParallel _ 71 [some (.ref t), some (.int (nI k)), some (.int (nI s)), some (.int (nI P)), some (.int (nI dep)), some (.int (nI (cA * 1048576 + qA))), some (.int (nI (cB * 1048576 + qB)))] [.int (nI ((max cA cB) * 1048576 + (if max cA cB = 1 then qA ||| qB else 0)))] σ
        refine am_reti rfl rfl ?_
        have e : exB p (ex p f) (an p f) k s P = some ((max cA cB), (if max cA cB = 1 then qA ||| qB else 0)) := by
          rw [exB_124 ht]
          first | (rw [heA, heB]; rfl) | (rw [heA]; rfl)
        exact hqs _ _ e
set_option maxRecDepth 10000 in
set_option maxHeartbeats 1000000 in
theorem c_x_ofLoop {d : Nat} {σ : am_M} {t n : Nat} {p : Pg} (hW : PW p n) (hR : TR σ t p n) {f dep : Nat} (hEX : EX σ t p n f dep) (hd : 8 * f + 14 ≤ d) {x s P : Nat} (w2 : x ≤ n) (hs : s ≤ 1048576) (hP : P < 256) {Q : am_Q} (hqn : (if s = ST then ex p f x s P else x_seq (ex p f x s P) (ex p f x ST P)) = none → Q (some (.int (-1))) σ) (hqs : ∀ c q, (if s = ST then ex p f x s P else x_seq (ex p f x s P) (ex p f x ST P)) = some (c, q) → Q (some (.int (nI (c * 1048576 + q)))) σ) : am_C d 46 [.ref t, .int (oI x), .int (nI s), .int (nI P), .int (nI dep)] σ Q := by
  by_cases hs1 : s = 1048576
  · subst hs1
    refine am_enter' (M := M_X2_ofLoop) rfl rfl rfl (by omega) (ls := [some (.ref t), some (.int (oI x)), some (.int (nI 1048576)), some (.int (nI P)), some (.int (nI dep)), none, none]) rfl (fun d' hd' => ?_)
    refine am_run 5 (pc' := 6) (ls' := [some (.ref t), some (.int (oI x)), some (.int (nI 1048576)), some (.int (nI P)), some (.int (nI dep)), none, none]) (st' := [.int (nI dep), .int (nI P), .int (nI 1048576), .int (oI x), .ref t]) (σ' := σ) rfl ?_
    refine am_invs (y := 41) (as := [.ref t, .int (oI x), .int (nI 1048576), .int (nI P), .int (nI dep)]) (rest := []) rfl rfl rfl rfl rfl rfl (Nat.le_of_ble_eq_true rfl) ?_
    refine hEX _ (by omega) (x) 1048576 P _ w2 (by omega) hP (fun he1 => ?_) (fun c1 q1 he1 hc1 hq1 hz1 => ?_)
    · show am_G _ M_X2_ofLoop _ 9 [some (.ref t), some (.int (oI x)), some (.int (nI 1048576)), some (.int (nI P)), some (.int (nI dep)), none, none] [.int (-1)] σ
      refine am_run 3 (pc' := 14) (ls' := [some (.ref t), some (.int (oI x)), some (.int (nI 1048576)), some (.int (nI P)), some (.int (nI dep)), some (.int (-1)), none]) (st' := [.int (nI 1048576), .int (nI 1048576)]) (σ' := σ) rfl ?_
      refine am_ic (ty := 29) (tn := 17) rfl (by decide) rfl rfl (fun (h_2 : nI 1048576 = nI 1048576) => ?_) (fun (h_2 : ¬ (nI 1048576 = nI 1048576)) => ?_)
      rotate_left
      · exact absurd (by decide) h_2
      refine am_run 3 (pc' := 34) (ls' := [some (.ref t), some (.int (oI x)), some (.int (nI 1048576)), some (.int (nI P)), some (.int (nI dep)), some (.int (-1)), some (.int (nI 0))]) (st' := [.int (nI 0)]) (σ' := σ) rfl ?_
      refine am_if (ty := 50) (tn := 37) rfl (by decide) rfl rfl (fun (h_3 : nI 0 = 0) => ?_) (fun (h_3 : ¬ (nI 0 = 0)) => ?_)
      rotate_left
      · exact absurd (by decide) h_3
      refine am_run 1 (pc' := 52) (ls' := [some (.ref t), some (.int (oI x)), some (.int (nI 1048576)), some (.int (nI P)), some (.int (nI dep)), some (.int (-1)), some (.int (nI 0))]) (st' := [.int (-1)]) (σ' := σ) rfl ?_
      refine am_reti rfl rfl ?_
      exact hqn (by first | rfl | (simp only [*, if_true, if_false, ne_eq, not_false_eq_true, not_true_eq_false, true_or, false_or, or_false, or_true, or_self, and_true, true_and, and_false, false_and, and_self, Bool.false_eq_true, Bool.true_eq_false, reduceIte, Bool.and_true, Bool.and_false, Bool.true_and, Bool.false_and, x_seq, x_par, x_trap, x_weak, Option.map_some, Option.map_none, Option.some.injEq, cpl, reduceCtorEq, Nat.max_def]; done) | (simp only [*, if_true, if_false, ne_eq, not_false_eq_true, not_true_eq_false, true_or, false_or, or_false, or_true, or_self, and_true, true_and, and_false, false_and, and_self, Bool.false_eq_true, Bool.true_eq_false, reduceIte, Bool.and_true, Bool.and_false, Bool.true_and, Bool.false_and, x_seq, x_par, x_trap, x_weak, Option.map_some, Option.map_none, Option.some.injEq, cpl, reduceCtorEq, Nat.max_def]; rfl))
    · show am_G _ M_X2_ofLoop _ 9 [some (.ref t), some (.int (oI x)), some (.int (nI 1048576)), some (.int (nI P)), some (.int (nI dep)), none, none] [.int (nI (c1 * 1048576 + q1))] σ
      refine am_run 3 (pc' := 14) (ls' := [some (.ref t), some (.int (oI x)), some (.int (nI 1048576)), some (.int (nI P)), some (.int (nI dep)), some (.int (nI (c1 * 1048576 + q1))), none]) (st' := [.int (nI 1048576), .int (nI 1048576)]) (σ' := σ) rfl ?_
      refine am_ic (ty := 29) (tn := 17) rfl (by decide) rfl rfl (fun (h_4 : nI 1048576 = nI 1048576) => ?_) (fun (h_4 : ¬ (nI 1048576 = nI 1048576)) => ?_)
      rotate_left
      · exact absurd (by decide) h_4
      refine am_run 3 (pc' := 34) (ls' := [some (.ref t), some (.int (oI x)), some (.int (nI 1048576)), some (.int (nI P)), some (.int (nI dep)), some (.int (nI (c1 * 1048576 + q1))), some (.int (nI 0))]) (st' := [.int (nI 0)]) (σ' := σ) rfl ?_
      refine am_if (ty := 50) (tn := 37) rfl (by decide) rfl rfl (fun (h_5 : nI 0 = 0) => ?_) (fun (h_5 : ¬ (nI 0 = 0)) => ?_)
      rotate_left
      · exact absurd (by decide) h_5
      refine am_run 1 (pc' := 52) (ls' := [some (.ref t), some (.int (oI x)), some (.int (nI 1048576)), some (.int (nI P)), some (.int (nI dep)), some (.int (nI (c1 * 1048576 + q1))), some (.int (nI 0))]) (st' := [.int (nI (c1 * 1048576 + q1))]) (σ' := σ) rfl ?_
      refine am_reti rfl rfl ?_
      exact hqs _ _ (by first | rfl | (simp only [*, if_true, if_false, ne_eq, not_false_eq_true, not_true_eq_false, true_or, false_or, or_false, or_true, or_self, and_true, true_and, and_false, false_and, and_self, Bool.false_eq_true, Bool.true_eq_false, reduceIte, Bool.and_true, Bool.and_false, Bool.true_and, Bool.false_and, x_seq, x_par, x_trap, x_weak, Option.map_some, Option.map_none, Option.some.injEq, cpl, reduceCtorEq, Nat.max_def]; done) | (simp only [*, if_true, if_false, ne_eq, not_false_eq_true, not_true_eq_false, true_or, false_or, or_false, or_true, or_self, and_true, true_and, and_false, false_and, and_self, Bool.false_eq_true, Bool.true_eq_false, reduceIte, Bool.and_true, Bool.and_false, Bool.true_and, Bool.false_and, x_seq, x_par, x_trap, x_weak, Option.map_some, Option.map_none, Option.some.injEq, cpl, reduceCtorEq, Nat.max_def]; rfl))
  · skip
    refine am_enter' (M := M_X2_ofLoop) rfl rfl rfl (by omega) (ls := [some (.ref t), some (.int (oI x)), some (.int (nI s)), some (.int (nI P)), some (.int (nI dep)), none, none]) rfl (fun d' hd' => ?_)
    refine am_run 5 (pc' := 6) (ls' := [some (.ref t), some (.int (oI x)), some (.int (nI s)), some (.int (nI P)), some (.int (nI dep)), none, none]) (st' := [.int (nI dep), .int (nI P), .int (nI s), .int (oI x), .ref t]) (σ' := σ) rfl ?_
    refine am_invs (y := 41) (as := [.ref t, .int (oI x), .int (nI s), .int (nI P), .int (nI dep)]) (rest := []) rfl rfl rfl rfl rfl rfl (Nat.le_of_ble_eq_true rfl) ?_
    refine hEX _ (by omega) (x) s P _ w2 (by omega) hP (fun he1 => ?_) (fun c1 q1 he1 hc1 hq1 hz1 => ?_)
    · show am_G _ M_X2_ofLoop _ 9 [some (.ref t), some (.int (oI x)), some (.int (nI s)), some (.int (nI P)), some (.int (nI dep)), none, none] [.int (-1)] σ
      refine am_run 3 (pc' := 14) (ls' := [some (.ref t), some (.int (oI x)), some (.int (nI s)), some (.int (nI P)), some (.int (nI dep)), some (.int (-1)), none]) (st' := [.int (nI 1048576), .int (nI s)]) (σ' := σ) rfl ?_
      refine am_ic (ty := 29) (tn := 17) rfl (by decide) rfl rfl (fun (h_2 : nI s = nI 1048576) => ?_) (fun (h_2 : ¬ (nI s = nI 1048576)) => ?_)
      · have h_2 : s = 1048576 := (nI_eq (by omega) (by omega)).mp h_2
        exact absurd h_2 hs1
      have h_2 : ¬ (s = 1048576) := fun z => h_2 ((nI_eq (by omega) (by omega)).mpr z)
      refine am_run 1 (pc' := 19) (ls' := [some (.ref t), some (.int (oI x)), some (.int (nI s)), some (.int (nI P)), some (.int (nI dep)), some (.int (-1)), none]) (st' := [.int (-1)]) (σ' := σ) rfl ?_
      refine am_invs (y := 38) (as := [.int (-1)]) (rest := []) rfl rfl rfl rfl rfl rfl (Nat.le_of_ble_eq_true rfl) ?_
      refine c_x_codeN (by omega) ?_
      show am_G _ M_X2_ofLoop _ 22 [some (.ref t), some (.int (oI x)), some (.int (nI s)), some (.int (nI P)), some (.int (nI dep)), some (.int (-1)), none] [.int (-1)] σ
      refine am_if (ty := 25) (tn := 29) rfl (by decide) rfl rfl (fun (h_3 : -1 = 0) => ?_) (fun (h_3 : ¬ (-1 = 0)) => ?_)
      · exact absurd h_3 (by decide)
      refine am_run 3 (pc' := 34) (ls' := [some (.ref t), some (.int (oI x)), some (.int (nI s)), some (.int (nI P)), some (.int (nI dep)), some (.int (-1)), some (.int (nI 0))]) (st' := [.int (nI 0)]) (σ' := σ) rfl ?_
      refine am_if (ty := 50) (tn := 37) rfl (by decide) rfl rfl (fun (h_4 : nI 0 = 0) => ?_) (fun (h_4 : ¬ (nI 0 = 0)) => ?_)
      rotate_left
      · exact absurd (by decide) h_4
      refine am_run 1 (pc' := 52) (ls' := [some (.ref t), some (.int (oI x)), some (.int (nI s)), some (.int (nI P)), some (.int (nI dep)), some (.int (-1)), some (.int (nI 0))]) (st' := [.int (-1)]) (σ' := σ) rfl ?_
      refine am_reti rfl rfl ?_
      exact hqn (by first | rfl | (simp only [*, if_true, if_false, ne_eq, not_false_eq_true, not_true_eq_false, true_or, false_or, or_false, or_true, or_self, and_true, true_and, and_false, false_and, and_self, Bool.false_eq_true, Bool.true_eq_false, reduceIte, Bool.and_true, Bool.and_false, Bool.true_and, Bool.false_and, x_seq, x_par, x_trap, x_weak, Option.map_some, Option.map_none, Option.some.injEq, cpl, reduceCtorEq, Nat.max_def]; done) | (simp only [*, if_true, if_false, ne_eq, not_false_eq_true, not_true_eq_false, true_or, false_or, or_false, or_true, or_self, and_true, true_and, and_false, false_and, and_self, Bool.false_eq_true, Bool.true_eq_false, reduceIte, Bool.and_true, Bool.and_false, Bool.true_and, Bool.false_and, x_seq, x_par, x_trap, x_weak, Option.map_some, Option.map_none, Option.some.injEq, cpl, reduceCtorEq, Nat.max_def]; rfl))
    · show am_G _ M_X2_ofLoop _ 9 [some (.ref t), some (.int (oI x)), some (.int (nI s)), some (.int (nI P)), some (.int (nI dep)), none, none] [.int (nI (c1 * 1048576 + q1))] σ
      refine am_run 3 (pc' := 14) (ls' := [some (.ref t), some (.int (oI x)), some (.int (nI s)), some (.int (nI P)), some (.int (nI dep)), some (.int (nI (c1 * 1048576 + q1))), none]) (st' := [.int (nI 1048576), .int (nI s)]) (σ' := σ) rfl ?_
      refine am_ic (ty := 29) (tn := 17) rfl (by decide) rfl rfl (fun (h_5 : nI s = nI 1048576) => ?_) (fun (h_5 : ¬ (nI s = nI 1048576)) => ?_)
      · have h_5 : s = 1048576 := (nI_eq (by omega) (by omega)).mp h_5
        exact absurd h_5 hs1
      have h_5 : ¬ (s = 1048576) := fun z => h_5 ((nI_eq (by omega) (by omega)).mpr z)
      refine am_run 1 (pc' := 19) (ls' := [some (.ref t), some (.int (oI x)), some (.int (nI s)), some (.int (nI P)), some (.int (nI dep)), some (.int (nI (c1 * 1048576 + q1))), none]) (st' := [.int (nI (c1 * 1048576 + q1))]) (σ' := σ) rfl ?_
      refine am_invs (y := 38) (as := [.int (nI (c1 * 1048576 + q1))]) (rest := []) rfl rfl rfl rfl rfl rfl (Nat.le_of_ble_eq_true rfl) ?_
      refine c_x_code (by omega) (c := c1) (q := q1) (by first | omega | decide | exact or_lt20 (by omega) (by omega)) (by first | omega | decide | exact or_lt20 (by omega) (by omega)) ?_
      show am_G _ M_X2_ofLoop _ 22 [some (.ref t), some (.int (oI x)), some (.int (nI s)), some (.int (nI P)), some (.int (nI dep)), some (.int (nI (c1 * 1048576 + q1))), none] [.int (nI c1)] σ
      refine am_if (ty := 25) (tn := 29) rfl (by decide) rfl rfl (fun (h_6 : nI c1 = 0) => ?_) (fun (h_6 : ¬ (nI c1 = 0)) => ?_)
      · have h_6 : c1 = 0 := (am_n0 (by omega)).mp h_6
        refine am_run 4 (pc' := 34) (ls' := [some (.ref t), some (.int (oI x)), some (.int (nI s)), some (.int (nI P)), some (.int (nI dep)), some (.int (nI (c1 * 1048576 + q1))), some (.int (nI 1))]) (st' := [.int (nI 1)]) (σ' := σ) rfl ?_
        refine am_if (ty := 50) (tn := 37) rfl (by decide) rfl rfl (fun (h_7 : nI 1 = 0) => ?_) (fun (h_7 : ¬ (nI 1 = 0)) => ?_)
        · exact absurd h_7 (by decide)
        refine am_run 5 (pc' := 44) (ls' := [some (.ref t), some (.int (oI x)), some (.int (nI s)), some (.int (nI P)), some (.int (nI dep)), some (.int (nI (c1 * 1048576 + q1))), some (.int (nI 1))]) (st' := [.int (nI dep), .int (nI P), .int (nI 1048576), .int (oI x), .ref t]) (σ' := σ) rfl ?_
        refine am_invs (y := 41) (as := [.ref t, .int (oI x), .int (nI 1048576), .int (nI P), .int (nI dep)]) (rest := []) rfl rfl rfl rfl rfl rfl (Nat.le_of_ble_eq_true rfl) ?_
        refine hEX _ (by omega) (x) 1048576 P _ w2 (by omega) hP (fun he8 => ?_) (fun c8 q8 he8 hc8 hq8 hz8 => ?_)
        · show am_G _ M_X2_ofLoop _ 47 [some (.ref t), some (.int (oI x)), some (.int (nI s)), some (.int (nI P)), some (.int (nI dep)), some (.int (nI (c1 * 1048576 + q1))), some (.int (nI 1))] [.int (-1)] σ
          refine am_run 1 (pc' := 52) (ls' := [some (.ref t), some (.int (oI x)), some (.int (nI s)), some (.int (nI P)), some (.int (nI dep)), some (.int (nI (c1 * 1048576 + q1))), some (.int (nI 1))]) (st' := [.int (-1)]) (σ' := σ) rfl ?_
          refine am_reti rfl rfl ?_
          exact hqn (by first | rfl | (simp only [*, if_true, if_false, ne_eq, not_false_eq_true, not_true_eq_false, true_or, false_or, or_false, or_true, or_self, and_true, true_and, and_false, false_and, and_self, Bool.false_eq_true, Bool.true_eq_false, reduceIte, Bool.and_true, Bool.and_false, Bool.true_and, Bool.false_and, x_seq, x_par, x_trap, x_weak, Option.map_some, Option.map_none, Option.some.injEq, cpl, reduceCtorEq, Nat.max_def]; done) | (simp only [*, if_true, if_false, ne_eq, not_false_eq_true, not_true_eq_false, true_or, false_or, or_false, or_true, or_self, and_true, true_and, and_false, false_and, and_self, Bool.false_eq_true, Bool.true_eq_false, reduceIte, Bool.and_true, Bool.and_false, Bool.true_and, Bool.false_and, x_seq, x_par, x_trap, x_weak, Option.map_some, Option.map_none, Option.some.injEq, cpl, reduceCtorEq, Nat.max_def]; rfl))
        · show am_G _ M_X2_ofLoop _ 47 [some (.ref t), some (.int (oI x)), some (.int (nI s)), some (.int (nI P)), some (.int (nI dep)), some (.int (nI (c1 * 1048576 + q1))), some (.int (nI 1))] [.int (nI (c8 * 1048576 + q8))] σ
          refine am_run 1 (pc' := 52) (ls' := [some (.ref t), some (.int (oI x)), some (.int (nI s)), some (.int (nI P)), some (.int (nI dep)), some (.int (nI (c1 * 1048576 + q1))), some (.int (nI 1))]) (st' := [.int (nI (c8 * 1048576 + q8))]) (σ' := σ) rfl ?_
          refine am_reti rfl rfl ?_
          exact hqs _ _ (by first | rfl | (simp only [*, if_true, if_false, ne_eq, not_false_eq_true, not_true_eq_false, true_or, false_or, or_false, or_true, or_self, and_true, true_and, and_false, false_and, and_self, Bool.false_eq_true, Bool.true_eq_false, reduceIte, Bool.and_true, Bool.and_false, Bool.true_and, Bool.false_and, x_seq, x_par, x_trap, x_weak, Option.map_some, Option.map_none, Option.some.injEq, cpl, reduceCtorEq, Nat.max_def]; done) | (simp only [*, if_true, if_false, ne_eq, not_false_eq_true, not_true_eq_false, true_or, false_or, or_false, or_true, or_self, and_true, true_and, and_false, false_and, and_self, Bool.false_eq_true, Bool.true_eq_false, reduceIte, Bool.and_true, Bool.and_false, Bool.true_and, Bool.false_and, x_seq, x_par, x_trap, x_weak, Option.map_some, Option.map_none, Option.some.injEq, cpl, reduceCtorEq, Nat.max_def]; rfl))
      · have h_6 : ¬ (c1 = 0) := fun z => h_6 ((am_n0 (by omega)).mpr z)
        refine am_run 3 (pc' := 34) (ls' := [some (.ref t), some (.int (oI x)), some (.int (nI s)), some (.int (nI P)), some (.int (nI dep)), some (.int (nI (c1 * 1048576 + q1))), some (.int (nI 0))]) (st' := [.int (nI 0)]) (σ' := σ) rfl ?_
        refine am_if (ty := 50) (tn := 37) rfl (by decide) rfl rfl (fun (h_9 : nI 0 = 0) => ?_) (fun (h_9 : ¬ (nI 0 = 0)) => ?_)
        rotate_left
        · exact absurd (by decide) h_9
        refine am_run 1 (pc' := 52) (ls' := [some (.ref t), some (.int (oI x)), some (.int (nI s)), some (.int (nI P)), some (.int (nI dep)), some (.int (nI (c1 * 1048576 + q1))), some (.int (nI 0))]) (st' := [.int (nI (c1 * 1048576 + q1))]) (σ' := σ) rfl ?_
        refine am_reti rfl rfl ?_
        exact hqs _ _ (by first | rfl | (simp only [*, if_true, if_false, ne_eq, not_false_eq_true, not_true_eq_false, true_or, false_or, or_false, or_true, or_self, and_true, true_and, and_false, false_and, and_self, Bool.false_eq_true, Bool.true_eq_false, reduceIte, Bool.and_true, Bool.and_false, Bool.true_and, Bool.false_and, x_seq, x_par, x_trap, x_weak, Option.map_some, Option.map_none, Option.some.injEq, cpl, reduceCtorEq, Nat.max_def]; done) | (simp only [*, if_true, if_false, ne_eq, not_false_eq_true, not_true_eq_false, true_or, false_or, or_false, or_true, or_self, and_true, true_and, and_false, false_and, and_self, Bool.false_eq_true, Bool.true_eq_false, reduceIte, Bool.and_true, Bool.and_false, Bool.true_and, Bool.false_and, x_seq, x_par, x_trap, x_weak, Option.map_some, Option.map_none, Option.some.injEq, cpl, reduceCtorEq, Nat.max_def]; rfl))
set_option maxRecDepth 10000 in
set_option maxHeartbeats 1000000 in
theorem c_x_ofTrapN {d : Nat} (hd : 3 ≤ d) {σ : am_M} {Q : am_Q} (hq : Q (some (.int (-1))) σ) : am_C d 47 [.int (-1)] σ Q := by
  refine am_enter' (M := M_X2_ofTrap) rfl rfl rfl (by omega) (ls := [some (.int (-1)), none]) rfl (fun d' hd' => ?_)
  refine am_run 1 (pc' := 1) (ls' := [some (.int (-1)), none]) (st' := [.int (-1)]) (σ' := σ) rfl ?_
  refine am_invs (y := 38) (as := [.int (-1)]) (rest := []) rfl rfl rfl rfl rfl rfl (Nat.le_of_ble_eq_true rfl) ?_
  refine c_x_codeN (by omega) ?_
  show am_G _ M_X2_ofTrap _ 4 [some (.int (-1)), none] [.int (-1)] σ
  refine am_run 3 (pc' := 7) (ls' := [some (.int (-1)), some (.int (-1))]) (st' := [.int (nI 2), .int (-1)]) (σ' := σ) rfl ?_
  refine am_ic (ty := 10) (tn := 12) rfl (by decide) rfl rfl (fun (h_1 : -1 < nI 2) => ?_) (fun (h_1 : ¬ (-1 < nI 2)) => ?_)
  rotate_left
  · exact absurd (by decide) h_1
  refine am_run 1 (pc' := 11) (ls' := [some (.int (-1)), some (.int (-1))]) (st' := [.int (-1)]) (σ' := σ) rfl ?_
  refine am_reti rfl rfl ?_
  exact hq
set_option maxRecDepth 10000 in
set_option maxHeartbeats 1000000 in
theorem c_x_ofTrap {d : Nat} (hd : 3 ≤ d) {σ : am_M} {c q : Nat} (hc : c ≤ 6) (hq2 : q < 1048576) {Q : am_Q} (hq : ∀ c2 q2, x_trap (some (c, q)) = some (c2, q2) → Q (some (.int (nI (c2 * 1048576 + q2)))) σ) : am_C d 47 [.int (nI (c * 1048576 + q))] σ Q := by
  refine am_enter' (M := M_X2_ofTrap) rfl rfl rfl (by omega) (ls := [some (.int (nI (c * 1048576 + q))), none]) rfl (fun d' hd' => ?_)
  refine am_run 1 (pc' := 1) (ls' := [some (.int (nI (c * 1048576 + q))), none]) (st' := [.int (nI (c * 1048576 + q))]) (σ' := σ) rfl ?_
  refine am_invs (y := 38) (as := [.int (nI (c * 1048576 + q))]) (rest := []) rfl rfl rfl rfl rfl rfl (Nat.le_of_ble_eq_true rfl) ?_
  refine c_x_code (by omega) (c := c) (q := q) (by first | omega | decide | exact or_lt20 (by omega) (by omega)) (by first | omega | decide | exact or_lt20 (by omega) (by omega)) ?_
  show am_G _ M_X2_ofTrap _ 4 [some (.int (nI (c * 1048576 + q))), none] [.int (nI c)] σ
  refine am_run 3 (pc' := 7) (ls' := [some (.int (nI (c * 1048576 + q))), some (.int (nI c))]) (st' := [.int (nI 2), .int (nI c)]) (σ' := σ) rfl ?_
  refine am_ic (ty := 10) (tn := 12) rfl (by decide) rfl rfl (fun (h_1 : nI c < nI 2) => ?_) (fun (h_1 : ¬ (nI c < nI 2)) => ?_)
  · have h_1 : c < 2 := (nI_ltI (by omega) (by omega)).mp h_1
    refine am_run 1 (pc' := 11) (ls' := [some (.int (nI (c * 1048576 + q))), some (.int (nI c))]) (st' := [.int (nI (c * 1048576 + q))]) (σ' := σ) rfl ?_
    refine am_reti rfl rfl ?_
    exact hq _ _ (by first | (simp only [*, if_true, if_false, ne_eq, not_false_eq_true, not_true_eq_false, true_or, false_or, or_false, or_true, or_self, and_true, true_and, and_false, false_and, and_self, Bool.false_eq_true, Bool.true_eq_false, reduceIte, Bool.and_true, Bool.and_false, Bool.true_and, Bool.false_and, x_seq, x_par, x_trap, x_weak, Option.map_some, Option.map_none, Option.some.injEq, cpl, reduceCtorEq, Nat.max_def]; done) | (simp only [*, if_true, if_false, ne_eq, not_false_eq_true, not_true_eq_false, true_or, false_or, or_false, or_true, or_self, and_true, true_and, and_false, false_and, and_self, Bool.false_eq_true, Bool.true_eq_false, reduceIte, Bool.and_true, Bool.and_false, Bool.true_and, Bool.false_and, x_seq, x_par, x_trap, x_weak, Option.map_some, Option.map_none, Option.some.injEq, cpl, reduceCtorEq, Nat.max_def]; rfl) | (simp only [*, if_true, if_false, ne_eq, not_false_eq_true, not_true_eq_false, true_or, false_or, or_false, or_true, or_self, and_true, true_and, and_false, false_and, and_self, Bool.false_eq_true, Bool.true_eq_false, reduceIte, Bool.and_true, Bool.and_false, Bool.true_and, Bool.false_and, x_seq, x_par, x_trap, x_weak, Option.map_some, Option.map_none, Option.some.injEq, cpl, reduceCtorEq, Nat.max_def]; simp))
  · have h_1 : ¬ (c < 2) := fun z => h_1 ((nI_ltI (by omega) (by omega)).mpr z)
    refine am_run 2 (pc' := 14) (ls' := [some (.int (nI (c * 1048576 + q))), some (.int (nI c))]) (st' := [.int (nI 2), .int (nI c)]) (σ' := σ) rfl ?_
    refine am_ic (ty := 17) (tn := 21) rfl (by decide) rfl rfl (fun (h_2 : nI c = nI 2) => ?_) (fun (h_2 : ¬ (nI c = nI 2)) => ?_)
    · have h_2 : c = 2 := (nI_eq (by omega) (by omega)).mp h_2
      refine am_run 2 (pc' := 24) (ls' := [some (.int (nI (c * 1048576 + q))), some (.int (nI c))]) (st' := [.int (nI 0)]) (σ' := σ) rfl ?_
      refine am_top (v' := nI 0) rfl ?_
      refine am_run 1 (pc' := 25) (ls' := [some (.int (nI (c * 1048576 + q))), some (.int (nI c))]) (st' := [.int (nI 0), .int (nI 0)]) (σ' := σ) rfl ?_
      refine am_invs (y := 40) (as := [.int (nI 0), .int (nI 0)]) (rest := []) rfl rfl rfl rfl rfl rfl (Nat.le_of_ble_eq_true rfl) ?_
      refine c_x_completion (by omega) (c := 0) (q := 0) (by decide) (by first | omega | decide | exact or_lt20 (by omega) (by omega)) ?_
      show am_G _ M_X2_ofTrap _ 28 [some (.int (nI (c * 1048576 + q))), some (.int (nI c))] [.int (nI (0 * 1048576 + 0))] σ
      refine am_reti rfl rfl ?_
      exact hq _ _ (by first | (simp only [*, if_true, if_false, ne_eq, not_false_eq_true, not_true_eq_false, true_or, false_or, or_false, or_true, or_self, and_true, true_and, and_false, false_and, and_self, Bool.false_eq_true, Bool.true_eq_false, reduceIte, Bool.and_true, Bool.and_false, Bool.true_and, Bool.false_and, x_seq, x_par, x_trap, x_weak, Option.map_some, Option.map_none, Option.some.injEq, cpl, reduceCtorEq, Nat.max_def]; done) | (simp only [*, if_true, if_false, ne_eq, not_false_eq_true, not_true_eq_false, true_or, false_or, or_false, or_true, or_self, and_true, true_and, and_false, false_and, and_self, Bool.false_eq_true, Bool.true_eq_false, reduceIte, Bool.and_true, Bool.and_false, Bool.true_and, Bool.false_and, x_seq, x_par, x_trap, x_weak, Option.map_some, Option.map_none, Option.some.injEq, cpl, reduceCtorEq, Nat.max_def]; rfl) | (simp only [*, if_true, if_false, ne_eq, not_false_eq_true, not_true_eq_false, true_or, false_or, or_false, or_true, or_self, and_true, true_and, and_false, false_and, and_self, Bool.false_eq_true, Bool.true_eq_false, reduceIte, Bool.and_true, Bool.and_false, Bool.true_and, Bool.false_and, x_seq, x_par, x_trap, x_weak, Option.map_some, Option.map_none, Option.some.injEq, cpl, reduceCtorEq, Nat.max_def]; simp))
    · have h_2 : ¬ (c = 2) := fun z => h_2 ((nI_eq (by omega) (by omega)).mpr z)
      refine am_run 3 (pc' := 24) (ls' := [some (.int (nI (c * 1048576 + q))), some (.int (nI c))]) (st' := [.int (nI c - nI 1)]) (σ' := σ) rfl ?_
      refine am_top (v' := nI (c - 1)) (am_nsub (by omega)) ?_
      refine am_run 1 (pc' := 25) (ls' := [some (.int (nI (c * 1048576 + q))), some (.int (nI c))]) (st' := [.int (nI 0), .int (nI (c - 1))]) (σ' := σ) rfl ?_
      refine am_invs (y := 40) (as := [.int (nI (c - 1)), .int (nI 0)]) (rest := []) rfl rfl rfl rfl rfl rfl (Nat.le_of_ble_eq_true rfl) ?_
      refine c_x_completion (by omega) (c := c - 1) (q := 0) (by first | omega | decide | exact or_lt20 (by omega) (by omega)) (by first | omega | decide | exact or_lt20 (by omega) (by omega)) ?_
      show am_G _ M_X2_ofTrap _ 28 [some (.int (nI (c * 1048576 + q))), some (.int (nI c))] [.int (nI ((c - 1) * 1048576 + (if c - 1 = 1 then 0 else 0)))] σ
      refine am_reti rfl rfl ?_
      exact hq _ _ (by first | (simp only [*, if_true, if_false, ne_eq, not_false_eq_true, not_true_eq_false, true_or, false_or, or_false, or_true, or_self, and_true, true_and, and_false, false_and, and_self, Bool.false_eq_true, Bool.true_eq_false, reduceIte, Bool.and_true, Bool.and_false, Bool.true_and, Bool.false_and, x_seq, x_par, x_trap, x_weak, Option.map_some, Option.map_none, Option.some.injEq, cpl, reduceCtorEq, Nat.max_def]; done) | (simp only [*, if_true, if_false, ne_eq, not_false_eq_true, not_true_eq_false, true_or, false_or, or_false, or_true, or_self, and_true, true_and, and_false, false_and, and_self, Bool.false_eq_true, Bool.true_eq_false, reduceIte, Bool.and_true, Bool.and_false, Bool.true_and, Bool.false_and, x_seq, x_par, x_trap, x_weak, Option.map_some, Option.map_none, Option.some.injEq, cpl, reduceCtorEq, Nat.max_def]; rfl) | (simp only [*, if_true, if_false, ne_eq, not_false_eq_true, not_true_eq_false, true_or, false_or, or_false, or_true, or_self, and_true, true_and, and_false, false_and, and_self, Bool.false_eq_true, Bool.true_eq_false, reduceIte, Bool.and_true, Bool.and_false, Bool.true_and, Bool.false_and, x_seq, x_par, x_trap, x_weak, Option.map_some, Option.map_none, Option.some.injEq, cpl, reduceCtorEq, Nat.max_def]; simp))
set_option maxRecDepth 10000 in
set_option maxHeartbeats 1000000 in
theorem c_x_ofAbortA {d : Nat} {σ : am_M} {t n : Nat} {p : Pg} (hW : PW p n) (hR : TR σ t p n) {f dep : Nat} (hAN : AN σ t p n f dep) (hEX : EX σ t p n f dep) (hd : 8 * f + 14 ≤ d) {k s P : Nat} (hk : k < n) (hs : s ≤ 1048576) (hP : P < 256) (ht : p 0 k = 64) {Q : am_Q} (hqn : exB p (ex p f) (an p f) k s P = none → Q (some (.int (-1))) σ) (hqs : ∀ c q, exB p (ex p f) (an p f) k s P = some (c, q) → Q (some (.int (nI (c * 1048576 + q)))) σ) : am_C d 48 [.ref t, .int (nI k), .int (nI s), .int (nI P), .int (nI dep)] σ Q := by
  obtain ⟨w0, w1, w2, w3, w4, w5, w6⟩ := hW.2 k hk
  have hg1 : 1 ≤ p 1 k := w5 (by rw [ht]; decide)
  by_cases hs1 : s = 1048576
  · subst hs1
    refine am_enter' (M := M_X2_ofAbort) rfl rfl rfl (by omega) (ls := [some (.ref t), some (.int (nI k)), some (.int (nI 1048576)), some (.int (nI P)), some (.int (nI dep)), none, none]) rfl (fun d' hd' => ?_)
    refine am_run 2 (pc' := 3) (ls' := [some (.ref t), some (.int (nI k)), some (.int (nI 1048576)), some (.int (nI P)), some (.int (nI dep)), none, none]) (st' := [.int (nI 1048576), .int (nI 1048576)]) (σ' := σ) rfl ?_
    refine am_ic (ty := 20) (tn := 6) rfl (by decide) rfl rfl (fun (h_1 : nI 1048576 = nI 1048576) => ?_) (fun (h_1 : ¬ (nI 1048576 = nI 1048576)) => ?_)
    rotate_left
    · exact absurd (by decide) h_1
    refine am_run 3 (pc' := 25) (ls' := [some (.ref t), some (.int (nI k)), some (.int (nI 1048576)), some (.int (nI P)), some (.int (nI dep)), some (.int (nI 0)), none]) (st' := [.int (nI 0)]) (σ' := σ) rfl ?_
    refine am_if (ty := 44) (tn := 28) rfl (by decide) rfl rfl (fun (h_2 : nI 0 = 0) => ?_) (fun (h_2 : ¬ (nI 0 = 0)) => ?_)
    rotate_left
    · exact absurd (by decide) h_2
    refine am_run 3 (pc' := 47) (ls' := [some (.ref t), some (.int (nI k)), some (.int (nI 1048576)), some (.int (nI P)), some (.int (nI dep)), some (.int (nI 0)), none]) (st' := [.int (nI k), .ref t, .ref t]) (σ' := σ) rfl ?_
    refine am_invv (y := 115) (b := t) (as := [.int (nI k)]) (rest := [.ref t]) rfl rfl rfl rfl rfl rfl (TR_kind hR) (Nat.le_of_ble_eq_true rfl) ?_
    refine c_leftOf (by omega) hW hR hk ?_
    show am_G _ M_X2_ofAbort _ 50 [some (.ref t), some (.int (nI k)), some (.int (nI 1048576)), some (.int (nI P)), some (.int (nI dep)), some (.int (nI 0)), none] [.int (oI (p 2 k)), .ref t] σ
    refine am_run 3 (pc' := 54) (ls' := [some (.ref t), some (.int (nI k)), some (.int (nI 1048576)), some (.int (nI P)), some (.int (nI dep)), some (.int (nI 0)), none]) (st' := [.int (nI dep), .int (nI P), .int (nI 1048576), .int (oI (p 2 k)), .ref t]) (σ' := σ) rfl ?_
    refine am_invs (y := 41) (as := [.ref t, .int (oI (p 2 k)), .int (nI 1048576), .int (nI P), .int (nI dep)]) (rest := []) rfl rfl rfl rfl rfl rfl (Nat.le_of_ble_eq_true rfl) ?_
    refine hEX _ (by omega) (p 2 k) 1048576 P _ w2 (by omega) hP (fun he3 => ?_) (fun c3 q3 he3 hc3 hq3 hz3 => ?_)
    · show am_G _ M_X2_ofAbort _ 57 [some (.ref t), some (.int (nI k)), some (.int (nI 1048576)), some (.int (nI P)), some (.int (nI dep)), some (.int (nI 0)), none] [.int (-1)] σ
      refine am_run 2 (pc' := 61) (ls' := [some (.ref t), some (.int (nI k)), some (.int (nI 1048576)), some (.int (nI P)), some (.int (nI dep)), some (.int (nI 0)), some (.int (-1))]) (st' := [.int (nI 0)]) (σ' := σ) rfl ?_
      refine am_if (ty := 81) (tn := 64) rfl (by decide) rfl rfl (fun (h_4 : nI 0 = 0) => ?_) (fun (h_4 : ¬ (nI 0 = 0)) => ?_)
      rotate_left
      · exact absurd (by decide) h_4
      refine am_run 1 (pc' := 83) (ls' := [some (.ref t), some (.int (nI k)), some (.int (nI 1048576)), some (.int (nI P)), some (.int (nI dep)), some (.int (nI 0)), some (.int (-1))]) (st' := [.int (-1)]) (σ' := σ) rfl ?_
      refine am_reti rfl rfl ?_
      have e : exB p (ex p f) (an p f) k 1048576 P = none := by
        rw [exB_64 ht]
        first | rfl | (simp only [*, if_true, if_false, ne_eq, not_false_eq_true, not_true_eq_false, true_or, false_or, or_false, or_true, or_self, and_true, true_and, and_false, false_and, and_self, Bool.false_eq_true, Bool.true_eq_false, reduceIte, Bool.and_true, Bool.and_false, Bool.true_and, Bool.false_and, x_seq, x_par, x_trap, x_weak, Option.map_some, Option.map_none, Option.some.injEq, cpl, reduceCtorEq, Nat.max_def]; done) | (simp only [*, if_true, if_false, ne_eq, not_false_eq_true, not_true_eq_false, true_or, false_or, or_false, or_true, or_self, and_true, true_and, and_false, false_and, and_self, Bool.false_eq_true, Bool.true_eq_false, reduceIte, Bool.and_true, Bool.and_false, Bool.true_and, Bool.false_and, x_seq, x_par, x_trap, x_weak, Option.map_some, Option.map_none, Option.some.injEq, cpl, reduceCtorEq, Nat.max_def]; rfl)
      exact hqn e
    · show am_G _ M_X2_ofAbort _ 57 [some (.ref t), some (.int (nI k)), some (.int (nI 1048576)), some (.int (nI P)), some (.int (nI dep)), some (.int (nI 0)), none] [.int (nI (c3 * 1048576 + q3))] σ
      refine am_run 2 (pc' := 61) (ls' := [some (.ref t), some (.int (nI k)), some (.int (nI 1048576)), some (.int (nI P)), some (.int (nI dep)), some (.int (nI 0)), some (.int (nI (c3 * 1048576 + q3)))]) (st' := [.int (nI 0)]) (σ' := σ) rfl ?_
      refine am_if (ty := 81) (tn := 64) rfl (by decide) rfl rfl (fun (h_5 : nI 0 = 0) => ?_) (fun (h_5 : ¬ (nI 0 = 0)) => ?_)
      rotate_left
      · exact absurd (by decide) h_5
      refine am_run 1 (pc' := 83) (ls' := [some (.ref t), some (.int (nI k)), some (.int (nI 1048576)), some (.int (nI P)), some (.int (nI dep)), some (.int (nI 0)), some (.int (nI (c3 * 1048576 + q3)))]) (st' := [.int (nI (c3 * 1048576 + q3))]) (σ' := σ) rfl ?_
      refine am_reti rfl rfl ?_
      have e : exB p (ex p f) (an p f) k 1048576 P = some (c3, q3) := by
        rw [exB_64 ht]
        first | rfl | (simp only [*, if_true, if_false, ne_eq, not_false_eq_true, not_true_eq_false, true_or, false_or, or_false, or_true, or_self, and_true, true_and, and_false, false_and, and_self, Bool.false_eq_true, Bool.true_eq_false, reduceIte, Bool.and_true, Bool.and_false, Bool.true_and, Bool.false_and, x_seq, x_par, x_trap, x_weak, Option.map_some, Option.map_none, Option.some.injEq, cpl, reduceCtorEq, Nat.max_def]; done) | (simp only [*, if_true, if_false, ne_eq, not_false_eq_true, not_true_eq_false, true_or, false_or, or_false, or_true, or_self, and_true, true_and, and_false, false_and, and_self, Bool.false_eq_true, Bool.true_eq_false, reduceIte, Bool.and_true, Bool.and_false, Bool.true_and, Bool.false_and, x_seq, x_par, x_trap, x_weak, Option.map_some, Option.map_none, Option.some.injEq, cpl, reduceCtorEq, Nat.max_def]; rfl)
      exact hqs _ _ e
  · skip
    refine am_enter' (M := M_X2_ofAbort) rfl rfl rfl (by omega) (ls := [some (.ref t), some (.int (nI k)), some (.int (nI s)), some (.int (nI P)), some (.int (nI dep)), none, none]) rfl (fun d' hd' => ?_)
    refine am_run 2 (pc' := 3) (ls' := [some (.ref t), some (.int (nI k)), some (.int (nI s)), some (.int (nI P)), some (.int (nI dep)), none, none]) (st' := [.int (nI 1048576), .int (nI s)]) (σ' := σ) rfl ?_
    refine am_ic (ty := 20) (tn := 6) rfl (by decide) rfl rfl (fun (h_1 : nI s = nI 1048576) => ?_) (fun (h_1 : ¬ (nI s = nI 1048576)) => ?_)
    · have h_1 : s = 1048576 := (nI_eq (by omega) (by omega)).mp h_1
      exact absurd h_1 hs1
    have h_1 : ¬ (s = 1048576) := fun z => h_1 ((nI_eq (by omega) (by omega)).mpr z)
    refine am_run 3 (pc' := 9) (ls' := [some (.ref t), some (.int (nI k)), some (.int (nI s)), some (.int (nI P)), some (.int (nI dep)), none, none]) (st' := [.int (nI k), .ref t, .int (nI P)]) (σ' := σ) rfl ?_
    refine am_invv (y := 118) (b := t) (as := [.int (nI k)]) (rest := [.int (nI P)]) rfl rfl rfl rfl rfl rfl (TR_kind hR) (Nat.le_of_ble_eq_true rfl) ?_
    refine c_signalOf (by omega) hW hR hk (g := p 1 k - 1) (by omega) ?_
    show am_G _ M_X2_ofAbort _ 12 [some (.ref t), some (.int (nI k)), some (.int (nI s)), some (.int (nI P)), some (.int (nI dep)), none, none] [.int (nI (2 ^ (p 1 k - 1))), .int (nI P)] σ
    refine am_run 1 (pc' := 13) (ls' := [some (.ref t), some (.int (nI k)), some (.int (nI s)), some (.int (nI P)), some (.int (nI dep)), none, none]) (st' := [.int (nI P &&& nI (2 ^ (p 1 k - 1)))]) (σ' := σ) rfl ?_
    refine am_if (ty := 20) (tn := 16) rfl (by decide) rfl rfl (fun (h_2 : nI P &&& nI (2 ^ (p 1 k - 1)) = 0) => ?_) (fun (h_2 : ¬ (nI P &&& nI (2 ^ (p 1 k - 1)) = 0)) => ?_)
    · have h_2 : P.testBit (p 1 k - 1) = false := (nx_has (a := P) (s := p 1 k - 1) (by omega) (by omega)).mp h_2
      refine am_run 3 (pc' := 25) (ls' := [some (.ref t), some (.int (nI k)), some (.int (nI s)), some (.int (nI P)), some (.int (nI dep)), some (.int (nI 0)), none]) (st' := [.int (nI 0)]) (σ' := σ) rfl ?_
      refine am_if (ty := 44) (tn := 28) rfl (by decide) rfl rfl (fun (h_3 : nI 0 = 0) => ?_) (fun (h_3 : ¬ (nI 0 = 0)) => ?_)
      rotate_left
      · exact absurd (by decide) h_3
      refine am_run 3 (pc' := 47) (ls' := [some (.ref t), some (.int (nI k)), some (.int (nI s)), some (.int (nI P)), some (.int (nI dep)), some (.int (nI 0)), none]) (st' := [.int (nI k), .ref t, .ref t]) (σ' := σ) rfl ?_
      refine am_invv (y := 115) (b := t) (as := [.int (nI k)]) (rest := [.ref t]) rfl rfl rfl rfl rfl rfl (TR_kind hR) (Nat.le_of_ble_eq_true rfl) ?_
      refine c_leftOf (by omega) hW hR hk ?_
      show am_G _ M_X2_ofAbort _ 50 [some (.ref t), some (.int (nI k)), some (.int (nI s)), some (.int (nI P)), some (.int (nI dep)), some (.int (nI 0)), none] [.int (oI (p 2 k)), .ref t] σ
      refine am_run 3 (pc' := 54) (ls' := [some (.ref t), some (.int (nI k)), some (.int (nI s)), some (.int (nI P)), some (.int (nI dep)), some (.int (nI 0)), none]) (st' := [.int (nI dep), .int (nI P), .int (nI s), .int (oI (p 2 k)), .ref t]) (σ' := σ) rfl ?_
      refine am_invs (y := 41) (as := [.ref t, .int (oI (p 2 k)), .int (nI s), .int (nI P), .int (nI dep)]) (rest := []) rfl rfl rfl rfl rfl rfl (Nat.le_of_ble_eq_true rfl) ?_
      refine hEX _ (by omega) (p 2 k) s P _ w2 (by omega) hP (fun he4 => ?_) (fun c4 q4 he4 hc4 hq4 hz4 => ?_)
      · show am_G _ M_X2_ofAbort _ 57 [some (.ref t), some (.int (nI k)), some (.int (nI s)), some (.int (nI P)), some (.int (nI dep)), some (.int (nI 0)), none] [.int (-1)] σ
        refine am_run 2 (pc' := 61) (ls' := [some (.ref t), some (.int (nI k)), some (.int (nI s)), some (.int (nI P)), some (.int (nI dep)), some (.int (nI 0)), some (.int (-1))]) (st' := [.int (nI 0)]) (σ' := σ) rfl ?_
        refine am_if (ty := 81) (tn := 64) rfl (by decide) rfl rfl (fun (h_5 : nI 0 = 0) => ?_) (fun (h_5 : ¬ (nI 0 = 0)) => ?_)
        rotate_left
        · exact absurd (by decide) h_5
        refine am_run 1 (pc' := 83) (ls' := [some (.ref t), some (.int (nI k)), some (.int (nI s)), some (.int (nI P)), some (.int (nI dep)), some (.int (nI 0)), some (.int (-1))]) (st' := [.int (-1)]) (σ' := σ) rfl ?_
        refine am_reti rfl rfl ?_
        have e : exB p (ex p f) (an p f) k s P = none := by
          rw [exB_64 ht]
          first | rfl | (simp only [*, if_true, if_false, ne_eq, not_false_eq_true, not_true_eq_false, true_or, false_or, or_false, or_true, or_self, and_true, true_and, and_false, false_and, and_self, Bool.false_eq_true, Bool.true_eq_false, reduceIte, Bool.and_true, Bool.and_false, Bool.true_and, Bool.false_and, x_seq, x_par, x_trap, x_weak, Option.map_some, Option.map_none, Option.some.injEq, cpl, reduceCtorEq, Nat.max_def]; done) | (simp only [*, if_true, if_false, ne_eq, not_false_eq_true, not_true_eq_false, true_or, false_or, or_false, or_true, or_self, and_true, true_and, and_false, false_and, and_self, Bool.false_eq_true, Bool.true_eq_false, reduceIte, Bool.and_true, Bool.and_false, Bool.true_and, Bool.false_and, x_seq, x_par, x_trap, x_weak, Option.map_some, Option.map_none, Option.some.injEq, cpl, reduceCtorEq, Nat.max_def]; rfl)
        exact hqn e
      · show am_G _ M_X2_ofAbort _ 57 [some (.ref t), some (.int (nI k)), some (.int (nI s)), some (.int (nI P)), some (.int (nI dep)), some (.int (nI 0)), none] [.int (nI (c4 * 1048576 + q4))] σ
        refine am_run 2 (pc' := 61) (ls' := [some (.ref t), some (.int (nI k)), some (.int (nI s)), some (.int (nI P)), some (.int (nI dep)), some (.int (nI 0)), some (.int (nI (c4 * 1048576 + q4)))]) (st' := [.int (nI 0)]) (σ' := σ) rfl ?_
        refine am_if (ty := 81) (tn := 64) rfl (by decide) rfl rfl (fun (h_6 : nI 0 = 0) => ?_) (fun (h_6 : ¬ (nI 0 = 0)) => ?_)
        rotate_left
        · exact absurd (by decide) h_6
        refine am_run 1 (pc' := 83) (ls' := [some (.ref t), some (.int (nI k)), some (.int (nI s)), some (.int (nI P)), some (.int (nI dep)), some (.int (nI 0)), some (.int (nI (c4 * 1048576 + q4)))]) (st' := [.int (nI (c4 * 1048576 + q4))]) (σ' := σ) rfl ?_
        refine am_reti rfl rfl ?_
        have e : exB p (ex p f) (an p f) k s P = some (c4, q4) := by
          rw [exB_64 ht]
          first | rfl | (simp only [*, if_true, if_false, ne_eq, not_false_eq_true, not_true_eq_false, true_or, false_or, or_false, or_true, or_self, and_true, true_and, and_false, false_and, and_self, Bool.false_eq_true, Bool.true_eq_false, reduceIte, Bool.and_true, Bool.and_false, Bool.true_and, Bool.false_and, x_seq, x_par, x_trap, x_weak, Option.map_some, Option.map_none, Option.some.injEq, cpl, reduceCtorEq, Nat.max_def]; done) | (simp only [*, if_true, if_false, ne_eq, not_false_eq_true, not_true_eq_false, true_or, false_or, or_false, or_true, or_self, and_true, true_and, and_false, false_and, and_self, Bool.false_eq_true, Bool.true_eq_false, reduceIte, Bool.and_true, Bool.and_false, Bool.true_and, Bool.false_and, x_seq, x_par, x_trap, x_weak, Option.map_some, Option.map_none, Option.some.injEq, cpl, reduceCtorEq, Nat.max_def]; rfl)
        exact hqs _ _ e
    · have h_2 : P.testBit (p 1 k - 1) = true := by simpa using fun z => h_2 ((nx_has (a := P) (s := p 1 k - 1) (by omega) (by omega)).mpr z)
      refine am_run 4 (pc' := 25) (ls' := [some (.ref t), some (.int (nI k)), some (.int (nI s)), some (.int (nI P)), some (.int (nI dep)), some (.int (nI 1)), none]) (st' := [.int (nI 1)]) (σ' := σ) rfl ?_
      refine am_if (ty := 44) (tn := 28) rfl (by decide) rfl rfl (fun (h_7 : nI 1 = 0) => ?_) (fun (h_7 : ¬ (nI 1 = 0)) => ?_)
      · exact absurd h_7 (by decide)
      refine am_run 2 (pc' := 30) (ls' := [some (.ref t), some (.int (nI k)), some (.int (nI s)), some (.int (nI P)), some (.int (nI dep)), some (.int (nI 1)), none]) (st' := [.int (nI k), .ref t]) (σ' := σ) rfl ?_
      refine am_invv (y := 112) (b := t) (as := [.int (nI k)]) (rest := []) rfl rfl rfl rfl rfl rfl (TR_kind hR) (Nat.le_of_ble_eq_true rfl) ?_
      refine c_tokenOf (by omega) hW hR hk ?_
      show am_G _ M_X2_ofAbort _ 33 [some (.ref t), some (.int (nI k)), some (.int (nI s)), some (.int (nI P)), some (.int (nI dep)), some (.int (nI 1)), none] [.int (nI (p 0 k))] σ
      refine am_top (v' := nI 64) (by rw [ht]) ?_
      refine am_run 1 (pc' := 35) (ls' := [some (.ref t), some (.int (nI k)), some (.int (nI s)), some (.int (nI P)), some (.int (nI dep)), some (.int (nI 1)), none]) (st' := [.int (nI 64), .int (nI 64)]) (σ' := σ) rfl ?_
      refine am_ic (ty := 38) (tn := 44) rfl (by decide) rfl rfl (fun (h_8 : nI 64 = nI 64) => ?_) (fun (h_8 : ¬ (nI 64 = nI 64)) => ?_)
      rotate_left
      · exact absurd (by decide) h_8
      refine am_run 2 (pc' := 40) (ls' := [some (.ref t), some (.int (nI k)), some (.int (nI s)), some (.int (nI P)), some (.int (nI dep)), some (.int (nI 1)), none]) (st' := [.int (nI 0), .int (nI 0)]) (σ' := σ) rfl ?_
      refine am_invs (y := 40) (as := [.int (nI 0), .int (nI 0)]) (rest := []) rfl rfl rfl rfl rfl rfl (Nat.le_of_ble_eq_true rfl) ?_
      refine c_x_completion (by omega) (c := 0) (q := 0) (by decide) (by first | omega | decide | exact or_lt20 (by omega) (by omega)) ?_
      show am_G _ M_X2_ofAbort _ 43 [some (.ref t), some (.int (nI k)), some (.int (nI s)), some (.int (nI P)), some (.int (nI dep)), some (.int (nI 1)), none] [.int (nI (0 * 1048576 + 0))] σ
      refine am_reti rfl rfl ?_
      have e : exB p (ex p f) (an p f) k s P = some (0, 0) := by
        rw [exB_64 ht]
        first | rfl | (simp only [*, if_true, if_false, ne_eq, not_false_eq_true, not_true_eq_false, true_or, false_or, or_false, or_true, or_self, and_true, true_and, and_false, false_and, and_self, Bool.false_eq_true, Bool.true_eq_false, reduceIte, Bool.and_true, Bool.and_false, Bool.true_and, Bool.false_and, x_seq, x_par, x_trap, x_weak, Option.map_some, Option.map_none, Option.some.injEq, cpl, reduceCtorEq, Nat.max_def]; done) | (simp only [*, if_true, if_false, ne_eq, not_false_eq_true, not_true_eq_false, true_or, false_or, or_false, or_true, or_self, and_true, true_and, and_false, false_and, and_self, Bool.false_eq_true, Bool.true_eq_false, reduceIte, Bool.and_true, Bool.and_false, Bool.true_and, Bool.false_and, x_seq, x_par, x_trap, x_weak, Option.map_some, Option.map_none, Option.some.injEq, cpl, reduceCtorEq, Nat.max_def]; rfl)
      exact hqs _ _ e
set_option maxRecDepth 10000 in
set_option maxHeartbeats 1000000 in
theorem c_x_ofAbortW {d : Nat} {σ : am_M} {t n : Nat} {p : Pg} (hW : PW p n) (hR : TR σ t p n) {f dep : Nat} (hAN : AN σ t p n f dep) (hEX : EX σ t p n f dep) (hd : 8 * f + 14 ≤ d) {k s P : Nat} (hk : k < n) (hs : s ≤ 1048576) (hP : P < 256) (ht : p 0 k = 126) {Q : am_Q} (hqn : exB p (ex p f) (an p f) k s P = none → Q (some (.int (-1))) σ) (hqs : ∀ c q, exB p (ex p f) (an p f) k s P = some (c, q) → Q (some (.int (nI (c * 1048576 + q)))) σ) : am_C d 48 [.ref t, .int (nI k), .int (nI s), .int (nI P), .int (nI dep)] σ Q := by
  obtain ⟨w0, w1, w2, w3, w4, w5, w6⟩ := hW.2 k hk
  have hg1 : 1 ≤ p 1 k := w5 (by rw [ht]; decide)
  by_cases hs1 : s = 1048576
  · subst hs1
    refine am_enter' (M := M_X2_ofAbort) rfl rfl rfl (by omega) (ls := [some (.ref t), some (.int (nI k)), some (.int (nI 1048576)), some (.int (nI P)), some (.int (nI dep)), none, none]) rfl (fun d' hd' => ?_)
    refine am_run 2 (pc' := 3) (ls' := [some (.ref t), some (.int (nI k)), some (.int (nI 1048576)), some (.int (nI P)), some (.int (nI dep)), none, none]) (st' := [.int (nI 1048576), .int (nI 1048576)]) (σ' := σ) rfl ?_
    refine am_ic (ty := 20) (tn := 6) rfl (by decide) rfl rfl (fun (h_1 : nI 1048576 = nI 1048576) => ?_) (fun (h_1 : ¬ (nI 1048576 = nI 1048576)) => ?_)
    rotate_left
    · exact absurd (by decide) h_1
    refine am_run 3 (pc' := 25) (ls' := [some (.ref t), some (.int (nI k)), some (.int (nI 1048576)), some (.int (nI P)), some (.int (nI dep)), some (.int (nI 0)), none]) (st' := [.int (nI 0)]) (σ' := σ) rfl ?_
    refine am_if (ty := 44) (tn := 28) rfl (by decide) rfl rfl (fun (h_2 : nI 0 = 0) => ?_) (fun (h_2 : ¬ (nI 0 = 0)) => ?_)
    rotate_left
    · exact absurd (by decide) h_2
    refine am_run 3 (pc' := 47) (ls' := [some (.ref t), some (.int (nI k)), some (.int (nI 1048576)), some (.int (nI P)), some (.int (nI dep)), some (.int (nI 0)), none]) (st' := [.int (nI k), .ref t, .ref t]) (σ' := σ) rfl ?_
    refine am_invv (y := 115) (b := t) (as := [.int (nI k)]) (rest := [.ref t]) rfl rfl rfl rfl rfl rfl (TR_kind hR) (Nat.le_of_ble_eq_true rfl) ?_
    refine c_leftOf (by omega) hW hR hk ?_
    show am_G _ M_X2_ofAbort _ 50 [some (.ref t), some (.int (nI k)), some (.int (nI 1048576)), some (.int (nI P)), some (.int (nI dep)), some (.int (nI 0)), none] [.int (oI (p 2 k)), .ref t] σ
    refine am_run 3 (pc' := 54) (ls' := [some (.ref t), some (.int (nI k)), some (.int (nI 1048576)), some (.int (nI P)), some (.int (nI dep)), some (.int (nI 0)), none]) (st' := [.int (nI dep), .int (nI P), .int (nI 1048576), .int (oI (p 2 k)), .ref t]) (σ' := σ) rfl ?_
    refine am_invs (y := 41) (as := [.ref t, .int (oI (p 2 k)), .int (nI 1048576), .int (nI P), .int (nI dep)]) (rest := []) rfl rfl rfl rfl rfl rfl (Nat.le_of_ble_eq_true rfl) ?_
    refine hEX _ (by omega) (p 2 k) 1048576 P _ w2 (by omega) hP (fun he3 => ?_) (fun c3 q3 he3 hc3 hq3 hz3 => ?_)
    · show am_G _ M_X2_ofAbort _ 57 [some (.ref t), some (.int (nI k)), some (.int (nI 1048576)), some (.int (nI P)), some (.int (nI dep)), some (.int (nI 0)), none] [.int (-1)] σ
      refine am_run 2 (pc' := 61) (ls' := [some (.ref t), some (.int (nI k)), some (.int (nI 1048576)), some (.int (nI P)), some (.int (nI dep)), some (.int (nI 0)), some (.int (-1))]) (st' := [.int (nI 0)]) (σ' := σ) rfl ?_
      refine am_if (ty := 81) (tn := 64) rfl (by decide) rfl rfl (fun (h_4 : nI 0 = 0) => ?_) (fun (h_4 : ¬ (nI 0 = 0)) => ?_)
      rotate_left
      · exact absurd (by decide) h_4
      refine am_run 1 (pc' := 83) (ls' := [some (.ref t), some (.int (nI k)), some (.int (nI 1048576)), some (.int (nI P)), some (.int (nI dep)), some (.int (nI 0)), some (.int (-1))]) (st' := [.int (-1)]) (σ' := σ) rfl ?_
      refine am_reti rfl rfl ?_
      have e : exB p (ex p f) (an p f) k 1048576 P = none := by
        rw [exB_126 ht]
        first | rfl | (simp only [*, if_true, if_false, ne_eq, not_false_eq_true, not_true_eq_false, true_or, false_or, or_false, or_true, or_self, and_true, true_and, and_false, false_and, and_self, Bool.false_eq_true, Bool.true_eq_false, reduceIte, Bool.and_true, Bool.and_false, Bool.true_and, Bool.false_and, x_seq, x_par, x_trap, x_weak, Option.map_some, Option.map_none, Option.some.injEq, cpl, reduceCtorEq, Nat.max_def]; done) | (simp only [*, if_true, if_false, ne_eq, not_false_eq_true, not_true_eq_false, true_or, false_or, or_false, or_true, or_self, and_true, true_and, and_false, false_and, and_self, Bool.false_eq_true, Bool.true_eq_false, reduceIte, Bool.and_true, Bool.and_false, Bool.true_and, Bool.false_and, x_seq, x_par, x_trap, x_weak, Option.map_some, Option.map_none, Option.some.injEq, cpl, reduceCtorEq, Nat.max_def]; rfl)
      exact hqn e
    · show am_G _ M_X2_ofAbort _ 57 [some (.ref t), some (.int (nI k)), some (.int (nI 1048576)), some (.int (nI P)), some (.int (nI dep)), some (.int (nI 0)), none] [.int (nI (c3 * 1048576 + q3))] σ
      refine am_run 2 (pc' := 61) (ls' := [some (.ref t), some (.int (nI k)), some (.int (nI 1048576)), some (.int (nI P)), some (.int (nI dep)), some (.int (nI 0)), some (.int (nI (c3 * 1048576 + q3)))]) (st' := [.int (nI 0)]) (σ' := σ) rfl ?_
      refine am_if (ty := 81) (tn := 64) rfl (by decide) rfl rfl (fun (h_5 : nI 0 = 0) => ?_) (fun (h_5 : ¬ (nI 0 = 0)) => ?_)
      rotate_left
      · exact absurd (by decide) h_5
      refine am_run 1 (pc' := 83) (ls' := [some (.ref t), some (.int (nI k)), some (.int (nI 1048576)), some (.int (nI P)), some (.int (nI dep)), some (.int (nI 0)), some (.int (nI (c3 * 1048576 + q3)))]) (st' := [.int (nI (c3 * 1048576 + q3))]) (σ' := σ) rfl ?_
      refine am_reti rfl rfl ?_
      have e : exB p (ex p f) (an p f) k 1048576 P = some (c3, q3) := by
        rw [exB_126 ht]
        first | rfl | (simp only [*, if_true, if_false, ne_eq, not_false_eq_true, not_true_eq_false, true_or, false_or, or_false, or_true, or_self, and_true, true_and, and_false, false_and, and_self, Bool.false_eq_true, Bool.true_eq_false, reduceIte, Bool.and_true, Bool.and_false, Bool.true_and, Bool.false_and, x_seq, x_par, x_trap, x_weak, Option.map_some, Option.map_none, Option.some.injEq, cpl, reduceCtorEq, Nat.max_def]; done) | (simp only [*, if_true, if_false, ne_eq, not_false_eq_true, not_true_eq_false, true_or, false_or, or_false, or_true, or_self, and_true, true_and, and_false, false_and, and_self, Bool.false_eq_true, Bool.true_eq_false, reduceIte, Bool.and_true, Bool.and_false, Bool.true_and, Bool.false_and, x_seq, x_par, x_trap, x_weak, Option.map_some, Option.map_none, Option.some.injEq, cpl, reduceCtorEq, Nat.max_def]; rfl)
      exact hqs _ _ e
  · skip
    refine am_enter' (M := M_X2_ofAbort) rfl rfl rfl (by omega) (ls := [some (.ref t), some (.int (nI k)), some (.int (nI s)), some (.int (nI P)), some (.int (nI dep)), none, none]) rfl (fun d' hd' => ?_)
    refine am_run 2 (pc' := 3) (ls' := [some (.ref t), some (.int (nI k)), some (.int (nI s)), some (.int (nI P)), some (.int (nI dep)), none, none]) (st' := [.int (nI 1048576), .int (nI s)]) (σ' := σ) rfl ?_
    refine am_ic (ty := 20) (tn := 6) rfl (by decide) rfl rfl (fun (h_1 : nI s = nI 1048576) => ?_) (fun (h_1 : ¬ (nI s = nI 1048576)) => ?_)
    · have h_1 : s = 1048576 := (nI_eq (by omega) (by omega)).mp h_1
      exact absurd h_1 hs1
    have h_1 : ¬ (s = 1048576) := fun z => h_1 ((nI_eq (by omega) (by omega)).mpr z)
    refine am_run 3 (pc' := 9) (ls' := [some (.ref t), some (.int (nI k)), some (.int (nI s)), some (.int (nI P)), some (.int (nI dep)), none, none]) (st' := [.int (nI k), .ref t, .int (nI P)]) (σ' := σ) rfl ?_
    refine am_invv (y := 118) (b := t) (as := [.int (nI k)]) (rest := [.int (nI P)]) rfl rfl rfl rfl rfl rfl (TR_kind hR) (Nat.le_of_ble_eq_true rfl) ?_
    refine c_signalOf (by omega) hW hR hk (g := p 1 k - 1) (by omega) ?_
    show am_G _ M_X2_ofAbort _ 12 [some (.ref t), some (.int (nI k)), some (.int (nI s)), some (.int (nI P)), some (.int (nI dep)), none, none] [.int (nI (2 ^ (p 1 k - 1))), .int (nI P)] σ
    refine am_run 1 (pc' := 13) (ls' := [some (.ref t), some (.int (nI k)), some (.int (nI s)), some (.int (nI P)), some (.int (nI dep)), none, none]) (st' := [.int (nI P &&& nI (2 ^ (p 1 k - 1)))]) (σ' := σ) rfl ?_
    refine am_if (ty := 20) (tn := 16) rfl (by decide) rfl rfl (fun (h_2 : nI P &&& nI (2 ^ (p 1 k - 1)) = 0) => ?_) (fun (h_2 : ¬ (nI P &&& nI (2 ^ (p 1 k - 1)) = 0)) => ?_)
    · have h_2 : P.testBit (p 1 k - 1) = false := (nx_has (a := P) (s := p 1 k - 1) (by omega) (by omega)).mp h_2
      refine am_run 3 (pc' := 25) (ls' := [some (.ref t), some (.int (nI k)), some (.int (nI s)), some (.int (nI P)), some (.int (nI dep)), some (.int (nI 0)), none]) (st' := [.int (nI 0)]) (σ' := σ) rfl ?_
      refine am_if (ty := 44) (tn := 28) rfl (by decide) rfl rfl (fun (h_3 : nI 0 = 0) => ?_) (fun (h_3 : ¬ (nI 0 = 0)) => ?_)
      rotate_left
      · exact absurd (by decide) h_3
      refine am_run 3 (pc' := 47) (ls' := [some (.ref t), some (.int (nI k)), some (.int (nI s)), some (.int (nI P)), some (.int (nI dep)), some (.int (nI 0)), none]) (st' := [.int (nI k), .ref t, .ref t]) (σ' := σ) rfl ?_
      refine am_invv (y := 115) (b := t) (as := [.int (nI k)]) (rest := [.ref t]) rfl rfl rfl rfl rfl rfl (TR_kind hR) (Nat.le_of_ble_eq_true rfl) ?_
      refine c_leftOf (by omega) hW hR hk ?_
      show am_G _ M_X2_ofAbort _ 50 [some (.ref t), some (.int (nI k)), some (.int (nI s)), some (.int (nI P)), some (.int (nI dep)), some (.int (nI 0)), none] [.int (oI (p 2 k)), .ref t] σ
      refine am_run 3 (pc' := 54) (ls' := [some (.ref t), some (.int (nI k)), some (.int (nI s)), some (.int (nI P)), some (.int (nI dep)), some (.int (nI 0)), none]) (st' := [.int (nI dep), .int (nI P), .int (nI s), .int (oI (p 2 k)), .ref t]) (σ' := σ) rfl ?_
      refine am_invs (y := 41) (as := [.ref t, .int (oI (p 2 k)), .int (nI s), .int (nI P), .int (nI dep)]) (rest := []) rfl rfl rfl rfl rfl rfl (Nat.le_of_ble_eq_true rfl) ?_
      refine hEX _ (by omega) (p 2 k) s P _ w2 (by omega) hP (fun he4 => ?_) (fun c4 q4 he4 hc4 hq4 hz4 => ?_)
      · show am_G _ M_X2_ofAbort _ 57 [some (.ref t), some (.int (nI k)), some (.int (nI s)), some (.int (nI P)), some (.int (nI dep)), some (.int (nI 0)), none] [.int (-1)] σ
        refine am_run 2 (pc' := 61) (ls' := [some (.ref t), some (.int (nI k)), some (.int (nI s)), some (.int (nI P)), some (.int (nI dep)), some (.int (nI 0)), some (.int (-1))]) (st' := [.int (nI 0)]) (σ' := σ) rfl ?_
        refine am_if (ty := 81) (tn := 64) rfl (by decide) rfl rfl (fun (h_5 : nI 0 = 0) => ?_) (fun (h_5 : ¬ (nI 0 = 0)) => ?_)
        rotate_left
        · exact absurd (by decide) h_5
        refine am_run 1 (pc' := 83) (ls' := [some (.ref t), some (.int (nI k)), some (.int (nI s)), some (.int (nI P)), some (.int (nI dep)), some (.int (nI 0)), some (.int (-1))]) (st' := [.int (-1)]) (σ' := σ) rfl ?_
        refine am_reti rfl rfl ?_
        have e : exB p (ex p f) (an p f) k s P = none := by
          rw [exB_126 ht]
          first | rfl | (simp only [*, if_true, if_false, ne_eq, not_false_eq_true, not_true_eq_false, true_or, false_or, or_false, or_true, or_self, and_true, true_and, and_false, false_and, and_self, Bool.false_eq_true, Bool.true_eq_false, reduceIte, Bool.and_true, Bool.and_false, Bool.true_and, Bool.false_and, x_seq, x_par, x_trap, x_weak, Option.map_some, Option.map_none, Option.some.injEq, cpl, reduceCtorEq, Nat.max_def]; done) | (simp only [*, if_true, if_false, ne_eq, not_false_eq_true, not_true_eq_false, true_or, false_or, or_false, or_true, or_self, and_true, true_and, and_false, false_and, and_self, Bool.false_eq_true, Bool.true_eq_false, reduceIte, Bool.and_true, Bool.and_false, Bool.true_and, Bool.false_and, x_seq, x_par, x_trap, x_weak, Option.map_some, Option.map_none, Option.some.injEq, cpl, reduceCtorEq, Nat.max_def]; rfl)
        exact hqn e
      · show am_G _ M_X2_ofAbort _ 57 [some (.ref t), some (.int (nI k)), some (.int (nI s)), some (.int (nI P)), some (.int (nI dep)), some (.int (nI 0)), none] [.int (nI (c4 * 1048576 + q4))] σ
        refine am_run 2 (pc' := 61) (ls' := [some (.ref t), some (.int (nI k)), some (.int (nI s)), some (.int (nI P)), some (.int (nI dep)), some (.int (nI 0)), some (.int (nI (c4 * 1048576 + q4)))]) (st' := [.int (nI 0)]) (σ' := σ) rfl ?_
        refine am_if (ty := 81) (tn := 64) rfl (by decide) rfl rfl (fun (h_6 : nI 0 = 0) => ?_) (fun (h_6 : ¬ (nI 0 = 0)) => ?_)
        rotate_left
        · exact absurd (by decide) h_6
        refine am_run 1 (pc' := 83) (ls' := [some (.ref t), some (.int (nI k)), some (.int (nI s)), some (.int (nI P)), some (.int (nI dep)), some (.int (nI 0)), some (.int (nI (c4 * 1048576 + q4)))]) (st' := [.int (nI (c4 * 1048576 + q4))]) (σ' := σ) rfl ?_
        refine am_reti rfl rfl ?_
        have e : exB p (ex p f) (an p f) k s P = some (c4, q4) := by
          rw [exB_126 ht]
          first | rfl | (simp only [*, if_true, if_false, ne_eq, not_false_eq_true, not_true_eq_false, true_or, false_or, or_false, or_true, or_self, and_true, true_and, and_false, false_and, and_self, Bool.false_eq_true, Bool.true_eq_false, reduceIte, Bool.and_true, Bool.and_false, Bool.true_and, Bool.false_and, x_seq, x_par, x_trap, x_weak, Option.map_some, Option.map_none, Option.some.injEq, cpl, reduceCtorEq, Nat.max_def]; done) | (simp only [*, if_true, if_false, ne_eq, not_false_eq_true, not_true_eq_false, true_or, false_or, or_false, or_true, or_self, and_true, true_and, and_false, false_and, and_self, Bool.false_eq_true, Bool.true_eq_false, reduceIte, Bool.and_true, Bool.and_false, Bool.true_and, Bool.false_and, x_seq, x_par, x_trap, x_weak, Option.map_some, Option.map_none, Option.some.injEq, cpl, reduceCtorEq, Nat.max_def]; rfl)
        exact hqs _ _ e
    · have h_2 : P.testBit (p 1 k - 1) = true := by simpa using fun z => h_2 ((nx_has (a := P) (s := p 1 k - 1) (by omega) (by omega)).mpr z)
      refine am_run 4 (pc' := 25) (ls' := [some (.ref t), some (.int (nI k)), some (.int (nI s)), some (.int (nI P)), some (.int (nI dep)), some (.int (nI 1)), none]) (st' := [.int (nI 1)]) (σ' := σ) rfl ?_
      refine am_if (ty := 44) (tn := 28) rfl (by decide) rfl rfl (fun (h_7 : nI 1 = 0) => ?_) (fun (h_7 : ¬ (nI 1 = 0)) => ?_)
      · exact absurd h_7 (by decide)
      refine am_run 2 (pc' := 30) (ls' := [some (.ref t), some (.int (nI k)), some (.int (nI s)), some (.int (nI P)), some (.int (nI dep)), some (.int (nI 1)), none]) (st' := [.int (nI k), .ref t]) (σ' := σ) rfl ?_
      refine am_invv (y := 112) (b := t) (as := [.int (nI k)]) (rest := []) rfl rfl rfl rfl rfl rfl (TR_kind hR) (Nat.le_of_ble_eq_true rfl) ?_
      refine c_tokenOf (by omega) hW hR hk ?_
      show am_G _ M_X2_ofAbort _ 33 [some (.ref t), some (.int (nI k)), some (.int (nI s)), some (.int (nI P)), some (.int (nI dep)), some (.int (nI 1)), none] [.int (nI (p 0 k))] σ
      refine am_top (v' := nI 126) (by rw [ht]) ?_
      refine am_run 1 (pc' := 35) (ls' := [some (.ref t), some (.int (nI k)), some (.int (nI s)), some (.int (nI P)), some (.int (nI dep)), some (.int (nI 1)), none]) (st' := [.int (nI 64), .int (nI 126)]) (σ' := σ) rfl ?_
      refine am_ic (ty := 38) (tn := 44) rfl (by decide) rfl rfl (fun (h_8 : nI 126 = nI 64) => ?_) (fun (h_8 : ¬ (nI 126 = nI 64)) => ?_)
      · exact absurd h_8 (by decide)
      refine am_run 3 (pc' := 47) (ls' := [some (.ref t), some (.int (nI k)), some (.int (nI s)), some (.int (nI P)), some (.int (nI dep)), some (.int (nI 1)), none]) (st' := [.int (nI k), .ref t, .ref t]) (σ' := σ) rfl ?_
      refine am_invv (y := 115) (b := t) (as := [.int (nI k)]) (rest := [.ref t]) rfl rfl rfl rfl rfl rfl (TR_kind hR) (Nat.le_of_ble_eq_true rfl) ?_
      refine c_leftOf (by omega) hW hR hk ?_
      show am_G _ M_X2_ofAbort _ 50 [some (.ref t), some (.int (nI k)), some (.int (nI s)), some (.int (nI P)), some (.int (nI dep)), some (.int (nI 1)), none] [.int (oI (p 2 k)), .ref t] σ
      refine am_run 3 (pc' := 54) (ls' := [some (.ref t), some (.int (nI k)), some (.int (nI s)), some (.int (nI P)), some (.int (nI dep)), some (.int (nI 1)), none]) (st' := [.int (nI dep), .int (nI P), .int (nI s), .int (oI (p 2 k)), .ref t]) (σ' := σ) rfl ?_
      refine am_invs (y := 41) (as := [.ref t, .int (oI (p 2 k)), .int (nI s), .int (nI P), .int (nI dep)]) (rest := []) rfl rfl rfl rfl rfl rfl (Nat.le_of_ble_eq_true rfl) ?_
      refine hEX _ (by omega) (p 2 k) s P _ w2 (by omega) hP (fun he9 => ?_) (fun c9 q9 he9 hc9 hq9 hz9 => ?_)
      · show am_G _ M_X2_ofAbort _ 57 [some (.ref t), some (.int (nI k)), some (.int (nI s)), some (.int (nI P)), some (.int (nI dep)), some (.int (nI 1)), none] [.int (-1)] σ
        refine am_run 2 (pc' := 61) (ls' := [some (.ref t), some (.int (nI k)), some (.int (nI s)), some (.int (nI P)), some (.int (nI dep)), some (.int (nI 1)), some (.int (-1))]) (st' := [.int (nI 1)]) (σ' := σ) rfl ?_
        refine am_if (ty := 81) (tn := 64) rfl (by decide) rfl rfl (fun (h_10 : nI 1 = 0) => ?_) (fun (h_10 : ¬ (nI 1 = 0)) => ?_)
        · exact absurd h_10 (by decide)
        refine am_run 1 (pc' := 66) (ls' := [some (.ref t), some (.int (nI k)), some (.int (nI s)), some (.int (nI P)), some (.int (nI dep)), some (.int (nI 1)), some (.int (-1))]) (st' := [.int (-1)]) (σ' := σ) rfl ?_
        refine am_invs (y := 38) (as := [.int (-1)]) (rest := []) rfl rfl rfl rfl rfl rfl (Nat.le_of_ble_eq_true rfl) ?_
        refine c_x_codeN (by omega) ?_
        show am_G _ M_X2_ofAbort _ 69 [some (.ref t), some (.int (nI k)), some (.int (nI s)), some (.int (nI P)), some (.int (nI dep)), some (.int (nI 1)), some (.int (-1))] [.int (-1)] σ
        refine am_run 1 (pc' := 70) (ls' := [some (.ref t), some (.int (nI k)), some (.int (nI s)), some (.int (nI P)), some (.int (nI dep)), some (.int (nI 1)), some (.int (-1))]) (st' := [.int (nI 1), .int (-1)]) (σ' := σ) rfl ?_
        refine am_ic (ty := 73) (tn := 81) rfl (by decide) rfl rfl (fun (h_11 : -1 = nI 1) => ?_) (fun (h_11 : ¬ (-1 = nI 1)) => ?_)
        · exact absurd h_11 (by decide)
        refine am_run 1 (pc' := 83) (ls' := [some (.ref t), some (.int (nI k)), some (.int (nI s)), some (.int (nI P)), some (.int (nI dep)), some (.int (nI 1)), some (.int (-1))]) (st' := [.int (-1)]) (σ' := σ) rfl ?_
        refine am_reti rfl rfl ?_
        have e : exB p (ex p f) (an p f) k s P = none := by
          rw [exB_126 ht]
          first | rfl | (simp only [*, if_true, if_false, ne_eq, not_false_eq_true, not_true_eq_false, true_or, false_or, or_false, or_true, or_self, and_true, true_and, and_false, false_and, and_self, Bool.false_eq_true, Bool.true_eq_false, reduceIte, Bool.and_true, Bool.and_false, Bool.true_and, Bool.false_and, x_seq, x_par, x_trap, x_weak, Option.map_some, Option.map_none, Option.some.injEq, cpl, reduceCtorEq, Nat.max_def]; done) | (simp only [*, if_true, if_false, ne_eq, not_false_eq_true, not_true_eq_false, true_or, false_or, or_false, or_true, or_self, and_true, true_and, and_false, false_and, and_self, Bool.false_eq_true, Bool.true_eq_false, reduceIte, Bool.and_true, Bool.and_false, Bool.true_and, Bool.false_and, x_seq, x_par, x_trap, x_weak, Option.map_some, Option.map_none, Option.some.injEq, cpl, reduceCtorEq, Nat.max_def]; rfl)
        exact hqn e
      · show am_G _ M_X2_ofAbort _ 57 [some (.ref t), some (.int (nI k)), some (.int (nI s)), some (.int (nI P)), some (.int (nI dep)), some (.int (nI 1)), none] [.int (nI (c9 * 1048576 + q9))] σ
        refine am_run 2 (pc' := 61) (ls' := [some (.ref t), some (.int (nI k)), some (.int (nI s)), some (.int (nI P)), some (.int (nI dep)), some (.int (nI 1)), some (.int (nI (c9 * 1048576 + q9)))]) (st' := [.int (nI 1)]) (σ' := σ) rfl ?_
        refine am_if (ty := 81) (tn := 64) rfl (by decide) rfl rfl (fun (h_12 : nI 1 = 0) => ?_) (fun (h_12 : ¬ (nI 1 = 0)) => ?_)
        · exact absurd h_12 (by decide)
        refine am_run 1 (pc' := 66) (ls' := [some (.ref t), some (.int (nI k)), some (.int (nI s)), some (.int (nI P)), some (.int (nI dep)), some (.int (nI 1)), some (.int (nI (c9 * 1048576 + q9)))]) (st' := [.int (nI (c9 * 1048576 + q9))]) (σ' := σ) rfl ?_
        refine am_invs (y := 38) (as := [.int (nI (c9 * 1048576 + q9))]) (rest := []) rfl rfl rfl rfl rfl rfl (Nat.le_of_ble_eq_true rfl) ?_
        refine c_x_code (by omega) (c := c9) (q := q9) (by first | omega | decide | exact or_lt20 (by omega) (by omega)) (by first | omega | decide | exact or_lt20 (by omega) (by omega)) ?_
        show am_G _ M_X2_ofAbort _ 69 [some (.ref t), some (.int (nI k)), some (.int (nI s)), some (.int (nI P)), some (.int (nI dep)), some (.int (nI 1)), some (.int (nI (c9 * 1048576 + q9)))] [.int (nI c9)] σ
        refine am_run 1 (pc' := 70) (ls' := [some (.ref t), some (.int (nI k)), some (.int (nI s)), some (.int (nI P)), some (.int (nI dep)), some (.int (nI 1)), some (.int (nI (c9 * 1048576 + q9)))]) (st' := [.int (nI 1), .int (nI c9)]) (σ' := σ) rfl ?_
        refine am_ic (ty := 73) (tn := 81) rfl (by decide) rfl rfl (fun (h_13 : nI c9 = nI 1) => ?_) (fun (h_13 : ¬ (nI c9 = nI 1)) => ?_)
        · have h_13 : c9 = 1 := (nI_eq (by omega) (by omega)).mp h_13
          refine am_run 2 (pc' := 75) (ls' := [some (.ref t), some (.int (nI k)), some (.int (nI s)), some (.int (nI P)), some (.int (nI dep)), some (.int (nI 1)), some (.int (nI (c9 * 1048576 + q9)))]) (st' := [.int (nI 0), .int (nI 0)]) (σ' := σ) rfl ?_
          refine am_invs (y := 40) (as := [.int (nI 0), .int (nI 0)]) (rest := []) rfl rfl rfl rfl rfl rfl (Nat.le_of_ble_eq_true rfl) ?_
          refine c_x_completion (by omega) (c := 0) (q := 0) (by decide) (by first | omega | decide | exact or_lt20 (by omega) (by omega)) ?_
          show am_G _ M_X2_ofAbort _ 78 [some (.ref t), some (.int (nI k)), some (.int (nI s)), some (.int (nI P)), some (.int (nI dep)), some (.int (nI 1)), some (.int (nI (c9 * 1048576 + q9)))] [.int (nI (0 * 1048576 + 0))] σ
          refine am_run 1 (pc' := 83) (ls' := [some (.ref t), some (.int (nI k)), some (.int (nI s)), some (.int (nI P)), some (.int (nI dep)), some (.int (nI 1)), some (.int (nI (c9 * 1048576 + q9)))]) (st' := [.int (nI (0 * 1048576 + 0))]) (σ' := σ) rfl ?_
          refine am_reti rfl rfl ?_
          have e : exB p (ex p f) (an p f) k s P = some (0, 0) := by
            rw [exB_126 ht]
            first | rfl | (simp only [*, if_true, if_false, ne_eq, not_false_eq_true, not_true_eq_false, true_or, false_or, or_false, or_true, or_self, and_true, true_and, and_false, false_and, and_self, Bool.false_eq_true, Bool.true_eq_false, reduceIte, Bool.and_true, Bool.and_false, Bool.true_and, Bool.false_and, x_seq, x_par, x_trap, x_weak, Option.map_some, Option.map_none, Option.some.injEq, cpl, reduceCtorEq, Nat.max_def]; done) | (simp only [*, if_true, if_false, ne_eq, not_false_eq_true, not_true_eq_false, true_or, false_or, or_false, or_true, or_self, and_true, true_and, and_false, false_and, and_self, Bool.false_eq_true, Bool.true_eq_false, reduceIte, Bool.and_true, Bool.and_false, Bool.true_and, Bool.false_and, x_seq, x_par, x_trap, x_weak, Option.map_some, Option.map_none, Option.some.injEq, cpl, reduceCtorEq, Nat.max_def]; rfl)
          exact hqs _ _ e
        · have h_13 : ¬ (c9 = 1) := fun z => h_13 ((nI_eq (by omega) (by omega)).mpr z)
          refine am_run 1 (pc' := 83) (ls' := [some (.ref t), some (.int (nI k)), some (.int (nI s)), some (.int (nI P)), some (.int (nI dep)), some (.int (nI 1)), some (.int (nI (c9 * 1048576 + q9)))]) (st' := [.int (nI (c9 * 1048576 + q9))]) (σ' := σ) rfl ?_
          refine am_reti rfl rfl ?_
          have e : exB p (ex p f) (an p f) k s P = some (c9, q9) := by
            rw [exB_126 ht]
            first | rfl | (simp only [*, if_true, if_false, ne_eq, not_false_eq_true, not_true_eq_false, true_or, false_or, or_false, or_true, or_self, and_true, true_and, and_false, false_and, and_self, Bool.false_eq_true, Bool.true_eq_false, reduceIte, Bool.and_true, Bool.and_false, Bool.true_and, Bool.false_and, x_seq, x_par, x_trap, x_weak, Option.map_some, Option.map_none, Option.some.injEq, cpl, reduceCtorEq, Nat.max_def]; done) | (simp only [*, if_true, if_false, ne_eq, not_false_eq_true, not_true_eq_false, true_or, false_or, or_false, or_true, or_self, and_true, true_and, and_false, false_and, and_self, Bool.false_eq_true, Bool.true_eq_false, reduceIte, Bool.and_true, Bool.and_false, Bool.true_and, Bool.false_and, x_seq, x_par, x_trap, x_weak, Option.map_some, Option.map_none, Option.some.injEq, cpl, reduceCtorEq, Nat.max_def]; rfl)
          exact hqs _ _ e
set_option maxRecDepth 10000 in
set_option maxHeartbeats 1000000 in
theorem c_x_ofLocal {d : Nat} {σ : am_M} {t n : Nat} {p : Pg} (hW : PW p n) (hR : TR σ t p n) {f dep : Nat} (hAN : AN σ t p n f dep) (hEX : EX σ t p n f dep) (hd : 8 * f + 14 ≤ d) {k s P : Nat} (hk : k < n) (hs : s ≤ 1048576) (hP : P < 256) (ht : p 0 k = 36) {Q : am_Q} (hqn : exB p (ex p f) (an p f) k s P = none → Q (some (.int (-1))) σ) (hqs : ∀ c q, exB p (ex p f) (an p f) k s P = some (c, q) → Q (some (.int (nI (c * 1048576 + q)))) σ) : am_C d 49 [.ref t, .int (nI k), .int (nI s), .int (nI P), .int (nI dep)] σ Q := by
  obtain ⟨w0, w1, w2, w3, w4, w5, w6⟩ := hW.2 k hk
  have hg1 : 1 ≤ p 1 k := w5 (by rw [ht]; decide)
  by_cases hs1 : s = 1048576
  · subst hs1
    refine am_enter' (M := M_X2_ofLocal) rfl rfl rfl (by omega) (ls := [some (.ref t), some (.int (nI k)), some (.int (nI 1048576)), some (.int (nI P)), some (.int (nI dep)), none, none, none, none, none]) rfl (fun d' hd' => ?_)
    refine am_run 2 (pc' := 2) (ls' := [some (.ref t), some (.int (nI k)), some (.int (nI 1048576)), some (.int (nI P)), some (.int (nI dep)), none, none, none, none, none]) (st' := [.int (nI k), .ref t]) (σ' := σ) rfl ?_
    refine am_invv (y := 115) (b := t) (as := [.int (nI k)]) (rest := []) rfl rfl rfl rfl rfl rfl (TR_kind hR) (Nat.le_of_ble_eq_true rfl) ?_
    refine c_leftOf (by omega) hW hR hk ?_
    show am_G _ M_X2_ofLocal _ 5 [some (.ref t), some (.int (nI k)), some (.int (nI 1048576)), some (.int (nI P)), some (.int (nI dep)), none, none, none, none, none] [.int (oI (p 2 k))] σ
    refine am_run 3 (pc' := 9) (ls' := [some (.ref t), some (.int (nI k)), some (.int (nI 1048576)), some (.int (nI P)), some (.int (nI dep)), some (.int (oI (p 2 k))), none, none, none, none]) (st' := [.int (nI k), .ref t]) (σ' := σ) rfl ?_
    refine am_invv (y := 118) (b := t) (as := [.int (nI k)]) (rest := []) rfl rfl rfl rfl rfl rfl (TR_kind hR) (Nat.le_of_ble_eq_true rfl) ?_
    refine c_signalOf (by omega) hW hR hk (g := p 1 k - 1) (by omega) ?_
    show am_G _ M_X2_ofLocal _ 12 [some (.ref t), some (.int (nI k)), some (.int (nI 1048576)), some (.int (nI P)), some (.int (nI dep)), some (.int (oI (p 2 k))), none, none, none, none] [.int (nI (2 ^ (p 1 k - 1)))] σ
    refine am_run 6 (pc' := 22) (ls' := [some (.ref t), some (.int (nI k)), some (.int (nI 1048576)), some (.int (nI P)), some (.int (nI dep)), some (.int (oI (p 2 k))), some (.int (nI (2 ^ (p 1 k - 1)))), none, none, none]) (st' := [.int (nI 255 &&& (nI (2 ^ (p 1 k - 1)) ^^^ (-1)))]) (σ' := σ) rfl ?_
    refine am_top (v' := nI (cl 255 (p 1 k - 1))) nx_cl ?_
    refine am_run 4 (pc' := 28) (ls' := [some (.ref t), some (.int (nI k)), some (.int (nI 1048576)), some (.int (nI P)), some (.int (nI dep)), some (.int (oI (p 2 k))), some (.int (nI (2 ^ (p 1 k - 1)))), some (.int (nI (cl 255 (p 1 k - 1)))), none, none]) (st' := [.int (nI P &&& nI (cl 255 (p 1 k - 1)))]) (σ' := σ) rfl ?_
    refine am_top (v' := nI (cl P (p 1 k - 1))) (pq_pres hP) ?_
    refine am_run 5 (pc' := 34) (ls' := [some (.ref t), some (.int (nI k)), some (.int (nI 1048576)), some (.int (nI P)), some (.int (nI dep)), some (.int (oI (p 2 k))), some (.int (nI (2 ^ (p 1 k - 1)))), some (.int (nI (cl 255 (p 1 k - 1)))), none, none]) (st' := [.int ((nI P ^^^ (-1)) &&& nI (cl 255 (p 1 k - 1))), .int (nI (cl P (p 1 k - 1)))]) (σ' := σ) rfl ?_
    refine am_top (v' := nI (cl (255 ^^^ P) (p 1 k - 1))) (pq_abs hP) ?_
    refine am_invs (y := 2) (as := [.int (nI (cl P (p 1 k - 1))), .int (nI (cl (255 ^^^ P) (p 1 k - 1)))]) (rest := []) rfl rfl rfl rfl rfl rfl (Nat.le_of_ble_eq_true rfl) ?_
    refine c_a_knowledge (by omega) (a := cl P (p 1 k - 1)) (b := cl (255 ^^^ P) (p 1 k - 1)) (by first | decide | omega | exact cl_lt (by omega)) ?_
    show am_G _ M_X2_ofLocal _ 37 [some (.ref t), some (.int (nI k)), some (.int (nI 1048576)), some (.int (nI P)), some (.int (nI dep)), some (.int (oI (p 2 k))), some (.int (nI (2 ^ (p 1 k - 1)))), some (.int (nI (cl 255 (p 1 k - 1)))), none, none] [.int (nI (cl P (p 1 k - 1) + 256 * (cl (255 ^^^ P) (p 1 k - 1))))] σ
    refine am_run 7 (pc' := 48) (ls' := [some (.ref t), some (.int (nI k)), some (.int (nI 1048576)), some (.int (nI P)), some (.int (nI dep)), some (.int (oI (p 2 k))), some (.int (nI (2 ^ (p 1 k - 1)))), some (.int (nI (cl 255 (p 1 k - 1)))), some (.int (nI (cl P (p 1 k - 1) + 256 * (cl (255 ^^^ P) (p 1 k - 1))))), none]) (st' := [.int (nI dep), .int (nI (cl P (p 1 k - 1) + 256 * (cl (255 ^^^ P) (p 1 k - 1)))), .int (nI 1), .int (nI 1048576), .int (oI (p 2 k)), .ref t]) (σ' := σ) rfl ?_
    refine am_invn (as := [.ref t, .int (oI (p 2 k)), .int (nI 1048576), .int (nI 1), .int (nI (cl P (p 1 k - 1) + 256 * (cl (255 ^^^ P) (p 1 k - 1)))), .int (nI dep)]) (rest := []) rfl rfl rfl rfl rfl (Nat.le_of_ble_eq_true rfl) ?_
    refine hAN _ (by omega) (p 2 k) 1048576 true (cl P (p 1 k - 1)) (cl (255 ^^^ P) (p 1 k - 1)) _ w2 (by omega) (cl_lt (by first | omega | exact xor_lt8 hP)) (cl_lt (by first | omega | exact xor_lt8 hP)) (fun r1 hr1 ok1 => ?_)
    obtain ⟨ok1a, ok1b, ok1c, ok1d⟩ := id ok1
    show am_G _ M_X2_ofLocal _ 51 [some (.ref t), some (.int (nI k)), some (.int (nI 1048576)), some (.int (nI P)), some (.int (nI dep)), some (.int (oI (p 2 k))), some (.int (nI (2 ^ (p 1 k - 1)))), some (.int (nI (cl 255 (p 1 k - 1)))), some (.int (nI (cl P (p 1 k - 1) + 256 * (cl (255 ^^^ P) (p 1 k - 1))))), none] [.int (nI (eC r1))] σ
    refine am_run 2 (pc' := 55) (ls' := [some (.ref t), some (.int (nI k)), some (.int (nI 1048576)), some (.int (nI P)), some (.int (nI dep)), some (.int (oI (p 2 k))), some (.int (nI (2 ^ (p 1 k - 1)))), some (.int (nI (cl 255 (p 1 k - 1)))), some (.int (nI (cl P (p 1 k - 1) + 256 * (cl (255 ^^^ P) (p 1 k - 1))))), some (.int (nI (eC r1)))]) (st' := [.int (nI (eC r1))]) (σ' := σ) rfl ?_
    refine am_invs (y := 3) (as := [.int (nI (eC r1))]) (rest := []) rfl rfl rfl rfl rfl rfl (Nat.le_of_ble_eq_true rfl) ?_
    refine c_a_must (by omega) (r := r1) ok1 ?_
    show am_G _ M_X2_ofLocal _ 58 [some (.ref t), some (.int (nI k)), some (.int (nI 1048576)), some (.int (nI P)), some (.int (nI dep)), some (.int (oI (p 2 k))), some (.int (nI (2 ^ (p 1 k - 1)))), some (.int (nI (cl 255 (p 1 k - 1)))), some (.int (nI (cl P (p 1 k - 1) + 256 * (cl (255 ^^^ P) (p 1 k - 1))))), some (.int (nI (eC r1)))] [.int (nI (r1.1 + 256 * r1.2.2.1))] σ
    refine am_run 2 (pc' := 61) (ls' := [some (.ref t), some (.int (nI k)), some (.int (nI 1048576)), some (.int (nI P)), some (.int (nI dep)), some (.int (oI (p 2 k))), some (.int (nI (2 ^ (p 1 k - 1)))), some (.int (nI (cl 255 (p 1 k - 1)))), some (.int (nI (cl P (p 1 k - 1) + 256 * (cl (255 ^^^ P) (p 1 k - 1))))), some (.int (nI (eC r1)))]) (st' := [.int (nI (r1.1 + 256 * r1.2.2.1) &&& nI (2 ^ (p 1 k - 1)))]) (σ' := σ) rfl ?_
    refine am_if (ty := 78) (tn := 64) rfl (by decide) rfl rfl (fun (h_2 : nI (r1.1 + 256 * r1.2.2.1) &&& nI (2 ^ (p 1 k - 1)) = 0) => ?_) (fun (h_2 : ¬ (nI (r1.1 + 256 * r1.2.2.1) &&& nI (2 ^ (p 1 k - 1)) = 0)) => ?_)
    · have h_2 : r1.1.testBit (p 1 k - 1) = false := (pq_hasS (g := p 1 k - 1) (m := r1.1) (k := r1.2.2.1) (by first | decide | omega | exact pow_lt_256 (by omega) | (exact or_lt8 (by omega) (by omega)) | (exact or_lt7 (by omega) (by omega)) | (exact mx_lt (by omega) (by omega)) | (exact ct_lt (by omega)) | (exact en_lt (by omega)) | (exact cl_lt (by omega)) | (exact or_lt7 (cl_lt (by omega)) (by omega)) | (exact or_lt8 (cl_lt (by omega)) (pow_lt_256 (by omega))) | (exact cl_lt (en_lt (by omega)))) (by omega) (by omega)).mp h_2
      refine am_run 1 (pc' := 80) (ls' := [some (.ref t), some (.int (nI k)), some (.int (nI 1048576)), some (.int (nI P)), some (.int (nI dep)), some (.int (oI (p 2 k))), some (.int (nI (2 ^ (p 1 k - 1)))), some (.int (nI (cl 255 (p 1 k - 1)))), some (.int (nI (cl P (p 1 k - 1) + 256 * (cl (255 ^^^ P) (p 1 k - 1))))), some (.int (nI (eC r1)))]) (st' := [.int (nI (eC r1))]) (σ' := σ) rfl ?_
      refine am_invs (y := 4) (as := [.int (nI (eC r1))]) (rest := []) rfl rfl rfl rfl rfl rfl (Nat.le_of_ble_eq_true rfl) ?_
      refine c_a_can (by omega) (r := r1) ok1 ?_
      show am_G _ M_X2_ofLocal _ 83 [some (.ref t), some (.int (nI k)), some (.int (nI 1048576)), some (.int (nI P)), some (.int (nI dep)), some (.int (oI (p 2 k))), some (.int (nI (2 ^ (p 1 k - 1)))), some (.int (nI (cl 255 (p 1 k - 1)))), some (.int (nI (cl P (p 1 k - 1) + 256 * (cl (255 ^^^ P) (p 1 k - 1))))), some (.int (nI (eC r1)))] [.int (nI (r1.2.1 + 256 * r1.2.2.2))] σ
      refine am_run 2 (pc' := 86) (ls' := [some (.ref t), some (.int (nI k)), some (.int (nI 1048576)), some (.int (nI P)), some (.int (nI dep)), some (.int (oI (p 2 k))), some (.int (nI (2 ^ (p 1 k - 1)))), some (.int (nI (cl 255 (p 1 k - 1)))), some (.int (nI (cl P (p 1 k - 1) + 256 * (cl (255 ^^^ P) (p 1 k - 1))))), some (.int (nI (eC r1)))]) (st' := [.int (nI (r1.2.1 + 256 * r1.2.2.2) &&& nI (2 ^ (p 1 k - 1)))]) (σ' := σ) rfl ?_
      refine am_if (ty := 89) (tn := 103) rfl (by decide) rfl rfl (fun (h_3 : nI (r1.2.1 + 256 * r1.2.2.2) &&& nI (2 ^ (p 1 k - 1)) = 0) => ?_) (fun (h_3 : ¬ (nI (r1.2.1 + 256 * r1.2.2.2) &&& nI (2 ^ (p 1 k - 1)) = 0)) => ?_)
      · have h_3 : r1.2.1.testBit (p 1 k - 1) = false := (pq_hasS (g := p 1 k - 1) (m := r1.2.1) (k := r1.2.2.2) (by first | decide | omega | exact pow_lt_256 (by omega) | (exact or_lt8 (by omega) (by omega)) | (exact or_lt7 (by omega) (by omega)) | (exact mx_lt (by omega) (by omega)) | (exact ct_lt (by omega)) | (exact en_lt (by omega)) | (exact cl_lt (by omega)) | (exact or_lt7 (cl_lt (by omega)) (by omega)) | (exact or_lt8 (cl_lt (by omega)) (pow_lt_256 (by omega))) | (exact cl_lt (en_lt (by omega)))) (by omega) (by omega)).mp h_3
        refine am_run 6 (pc' := 97) (ls' := [some (.ref t), some (.int (nI k)), some (.int (nI 1048576)), some (.int (nI P)), some (.int (nI dep)), some (.int (oI (p 2 k))), some (.int (nI (2 ^ (p 1 k - 1)))), some (.int (nI (cl 255 (p 1 k - 1)))), some (.int (nI (cl P (p 1 k - 1) + 256 * (cl (255 ^^^ P) (p 1 k - 1))))), some (.int (nI (eC r1)))]) (st' := [.int (nI P &&& nI (cl 255 (p 1 k - 1))), .int (nI 1048576), .int (oI (p 2 k)), .ref t]) (σ' := σ) rfl ?_
        refine am_top (v' := nI (cl P (p 1 k - 1))) (pq_pres hP) ?_
        refine am_run 1 (pc' := 99) (ls' := [some (.ref t), some (.int (nI k)), some (.int (nI 1048576)), some (.int (nI P)), some (.int (nI dep)), some (.int (oI (p 2 k))), some (.int (nI (2 ^ (p 1 k - 1)))), some (.int (nI (cl 255 (p 1 k - 1)))), some (.int (nI (cl P (p 1 k - 1) + 256 * (cl (255 ^^^ P) (p 1 k - 1))))), some (.int (nI (eC r1)))]) (st' := [.int (nI dep), .int (nI (cl P (p 1 k - 1))), .int (nI 1048576), .int (oI (p 2 k)), .ref t]) (σ' := σ) rfl ?_
        refine am_invs (y := 41) (as := [.ref t, .int (oI (p 2 k)), .int (nI 1048576), .int (nI (cl P (p 1 k - 1))), .int (nI dep)]) (rest := []) rfl rfl rfl rfl rfl rfl (Nat.le_of_ble_eq_true rfl) ?_
        refine hEX _ (by omega) (p 2 k) 1048576 (cl P (p 1 k - 1)) _ w2 (by omega) (by first | exact cl_lt (by omega) | exact or_lt8 (by omega) (pow_lt_256 (by omega))) (fun he4 => ?_) (fun c4 q4 he4 hc4 hq4 hz4 => ?_)
        · show am_G _ M_X2_ofLocal _ 102 [some (.ref t), some (.int (nI k)), some (.int (nI 1048576)), some (.int (nI P)), some (.int (nI dep)), some (.int (oI (p 2 k))), some (.int (nI (2 ^ (p 1 k - 1)))), some (.int (nI (cl 255 (p 1 k - 1)))), some (.int (nI (cl P (p 1 k - 1) + 256 * (cl (255 ^^^ P) (p 1 k - 1))))), some (.int (nI (eC r1)))] [.int (-1)] σ
          refine am_reti rfl rfl ?_
          have e : exB p (ex p f) (an p f) k 1048576 P = none := by
            rw [exB_36 ht]
            first | rfl | (simp only [*, if_true, if_false, ne_eq, not_false_eq_true, not_true_eq_false, true_or, false_or, or_false, or_true, or_self, and_true, true_and, and_false, false_and, and_self, Bool.false_eq_true, Bool.true_eq_false, reduceIte, Bool.and_true, Bool.and_false, Bool.true_and, Bool.false_and, x_seq, x_par, x_trap, x_weak, Option.map_some, Option.map_none, Option.some.injEq, cpl, reduceCtorEq, Nat.max_def]; done) | (simp only [*, if_true, if_false, ne_eq, not_false_eq_true, not_true_eq_false, true_or, false_or, or_false, or_true, or_self, and_true, true_and, and_false, false_and, and_self, Bool.false_eq_true, Bool.true_eq_false, reduceIte, Bool.and_true, Bool.and_false, Bool.true_and, Bool.false_and, x_seq, x_par, x_trap, x_weak, Option.map_some, Option.map_none, Option.some.injEq, cpl, reduceCtorEq, Nat.max_def]; rfl)
          exact hqn e
        · show am_G _ M_X2_ofLocal _ 102 [some (.ref t), some (.int (nI k)), some (.int (nI 1048576)), some (.int (nI P)), some (.int (nI dep)), some (.int (oI (p 2 k))), some (.int (nI (2 ^ (p 1 k - 1)))), some (.int (nI (cl 255 (p 1 k - 1)))), some (.int (nI (cl P (p 1 k - 1) + 256 * (cl (255 ^^^ P) (p 1 k - 1))))), some (.int (nI (eC r1)))] [.int (nI (c4 * 1048576 + q4))] σ
          refine am_reti rfl rfl ?_
          have e : exB p (ex p f) (an p f) k 1048576 P = some (c4, q4) := by
            rw [exB_36 ht]
            first | rfl | (simp only [*, if_true, if_false, ne_eq, not_false_eq_true, not_true_eq_false, true_or, false_or, or_false, or_true, or_self, and_true, true_and, and_false, false_and, and_self, Bool.false_eq_true, Bool.true_eq_false, reduceIte, Bool.and_true, Bool.and_false, Bool.true_and, Bool.false_and, x_seq, x_par, x_trap, x_weak, Option.map_some, Option.map_none, Option.some.injEq, cpl, reduceCtorEq, Nat.max_def]; done) | (simp only [*, if_true, if_false, ne_eq, not_false_eq_true, not_true_eq_false, true_or, false_or, or_false, or_true, or_self, and_true, true_and, and_false, false_and, and_self, Bool.false_eq_true, Bool.true_eq_false, reduceIte, Bool.and_true, Bool.and_false, Bool.true_and, Bool.false_and, x_seq, x_par, x_trap, x_weak, Option.map_some, Option.map_none, Option.some.injEq, cpl, reduceCtorEq, Nat.max_def]; rfl)
          exact hqs _ _ e
      · have h_3 : r1.2.1.testBit (p 1 k - 1) = true := by simpa using fun z => h_3 ((pq_hasS (g := p 1 k - 1) (m := r1.2.1) (k := r1.2.2.2) (by first | decide | omega | exact pow_lt_256 (by omega) | (exact or_lt8 (by omega) (by omega)) | (exact or_lt7 (by omega) (by omega)) | (exact mx_lt (by omega) (by omega)) | (exact ct_lt (by omega)) | (exact en_lt (by omega)) | (exact cl_lt (by omega)) | (exact or_lt7 (cl_lt (by omega)) (by omega)) | (exact or_lt8 (cl_lt (by omega)) (pow_lt_256 (by omega))) | (exact cl_lt (en_lt (by omega)))) (by omega) (by omega)).mpr z)
        refine am_run 1 (pc' := 104) (ls' := [some (.ref t), some (.int (nI k)), some (.int (nI 1048576)), some (.int (nI P)), some (.int (nI dep)), some (.int (oI (p 2 k))), some (.int (nI (2 ^ (p 1 k - 1)))), some (.int (nI (cl 255 (p 1 k - 1)))), some (.int (nI (cl P (p 1 k - 1) + 256 * (cl (255 ^^^ P) (p 1 k - 1))))), some (.int (nI (eC r1)))]) (st' := [.int (-1)]) (σ' := σ) rfl ?_
        refine am_reti rfl rfl ?_
        have e : exB p (ex p f) (an p f) k 1048576 P = none := by
          rw [exB_36 ht]
          first | rfl | (simp only [*, if_true, if_false, ne_eq, not_false_eq_true, not_true_eq_false, true_or, false_or, or_false, or_true, or_self, and_true, true_and, and_false, false_and, and_self, Bool.false_eq_true, Bool.true_eq_false, reduceIte, Bool.and_true, Bool.and_false, Bool.true_and, Bool.false_and, x_seq, x_par, x_trap, x_weak, Option.map_some, Option.map_none, Option.some.injEq, cpl, reduceCtorEq, Nat.max_def]; done) | (simp only [*, if_true, if_false, ne_eq, not_false_eq_true, not_true_eq_false, true_or, false_or, or_false, or_true, or_self, and_true, true_and, and_false, false_and, and_self, Bool.false_eq_true, Bool.true_eq_false, reduceIte, Bool.and_true, Bool.and_false, Bool.true_and, Bool.false_and, x_seq, x_par, x_trap, x_weak, Option.map_some, Option.map_none, Option.some.injEq, cpl, reduceCtorEq, Nat.max_def]; rfl)
        exact hqn e
    · have h_2 : r1.1.testBit (p 1 k - 1) = true := by simpa using fun z => h_2 ((pq_hasS (g := p 1 k - 1) (m := r1.1) (k := r1.2.2.1) (by first | decide | omega | exact pow_lt_256 (by omega) | (exact or_lt8 (by omega) (by omega)) | (exact or_lt7 (by omega) (by omega)) | (exact mx_lt (by omega) (by omega)) | (exact ct_lt (by omega)) | (exact en_lt (by omega)) | (exact cl_lt (by omega)) | (exact or_lt7 (cl_lt (by omega)) (by omega)) | (exact or_lt8 (cl_lt (by omega)) (pow_lt_256 (by omega))) | (exact cl_lt (en_lt (by omega)))) (by omega) (by omega)).mpr z)
      refine am_run 6 (pc' := 72) (ls' := [some (.ref t), some (.int (nI k)), some (.int (nI 1048576)), some (.int (nI P)), some (.int (nI dep)), some (.int (oI (p 2 k))), some (.int (nI (2 ^ (p 1 k - 1)))), some (.int (nI (cl 255 (p 1 k - 1)))), some (.int (nI (cl P (p 1 k - 1) + 256 * (cl (255 ^^^ P) (p 1 k - 1))))), some (.int (nI (eC r1)))]) (st' := [.int (nI P ||| nI (2 ^ (p 1 k - 1))), .int (nI 1048576), .int (oI (p 2 k)), .ref t]) (σ' := σ) rfl ?_
      refine am_top (v' := nI (P ||| 2 ^ (p 1 k - 1))) (nx_or _ _) ?_
      refine am_run 1 (pc' := 74) (ls' := [some (.ref t), some (.int (nI k)), some (.int (nI 1048576)), some (.int (nI P)), some (.int (nI dep)), some (.int (oI (p 2 k))), some (.int (nI (2 ^ (p 1 k - 1)))), some (.int (nI (cl 255 (p 1 k - 1)))), some (.int (nI (cl P (p 1 k - 1) + 256 * (cl (255 ^^^ P) (p 1 k - 1))))), some (.int (nI (eC r1)))]) (st' := [.int (nI dep), .int (nI (P ||| 2 ^ (p 1 k - 1))), .int (nI 1048576), .int (oI (p 2 k)), .ref t]) (σ' := σ) rfl ?_
      refine am_invs (y := 41) (as := [.ref t, .int (oI (p 2 k)), .int (nI 1048576), .int (nI (P ||| 2 ^ (p 1 k - 1))), .int (nI dep)]) (rest := []) rfl rfl rfl rfl rfl rfl (Nat.le_of_ble_eq_true rfl) ?_
      refine hEX _ (by omega) (p 2 k) 1048576 (P ||| 2 ^ (p 1 k - 1)) _ w2 (by omega) (by first | exact cl_lt (by omega) | exact or_lt8 (by omega) (pow_lt_256 (by omega))) (fun he5 => ?_) (fun c5 q5 he5 hc5 hq5 hz5 => ?_)
      · show am_G _ M_X2_ofLocal _ 77 [some (.ref t), some (.int (nI k)), some (.int (nI 1048576)), some (.int (nI P)), some (.int (nI dep)), some (.int (oI (p 2 k))), some (.int (nI (2 ^ (p 1 k - 1)))), some (.int (nI (cl 255 (p 1 k - 1)))), some (.int (nI (cl P (p 1 k - 1) + 256 * (cl (255 ^^^ P) (p 1 k - 1))))), some (.int (nI (eC r1)))] [.int (-1)] σ
        refine am_reti rfl rfl ?_
        have e : exB p (ex p f) (an p f) k 1048576 P = none := by
          rw [exB_36 ht]
          first | rfl | (simp only [*, if_true, if_false, ne_eq, not_false_eq_true, not_true_eq_false, true_or, false_or, or_false, or_true, or_self, and_true, true_and, and_false, false_and, and_self, Bool.false_eq_true, Bool.true_eq_false, reduceIte, Bool.and_true, Bool.and_false, Bool.true_and, Bool.false_and, x_seq, x_par, x_trap, x_weak, Option.map_some, Option.map_none, Option.some.injEq, cpl, reduceCtorEq, Nat.max_def]; done) | (simp only [*, if_true, if_false, ne_eq, not_false_eq_true, not_true_eq_false, true_or, false_or, or_false, or_true, or_self, and_true, true_and, and_false, false_and, and_self, Bool.false_eq_true, Bool.true_eq_false, reduceIte, Bool.and_true, Bool.and_false, Bool.true_and, Bool.false_and, x_seq, x_par, x_trap, x_weak, Option.map_some, Option.map_none, Option.some.injEq, cpl, reduceCtorEq, Nat.max_def]; rfl)
        exact hqn e
      · show am_G _ M_X2_ofLocal _ 77 [some (.ref t), some (.int (nI k)), some (.int (nI 1048576)), some (.int (nI P)), some (.int (nI dep)), some (.int (oI (p 2 k))), some (.int (nI (2 ^ (p 1 k - 1)))), some (.int (nI (cl 255 (p 1 k - 1)))), some (.int (nI (cl P (p 1 k - 1) + 256 * (cl (255 ^^^ P) (p 1 k - 1))))), some (.int (nI (eC r1)))] [.int (nI (c5 * 1048576 + q5))] σ
        refine am_reti rfl rfl ?_
        have e : exB p (ex p f) (an p f) k 1048576 P = some (c5, q5) := by
          rw [exB_36 ht]
          first | rfl | (simp only [*, if_true, if_false, ne_eq, not_false_eq_true, not_true_eq_false, true_or, false_or, or_false, or_true, or_self, and_true, true_and, and_false, false_and, and_self, Bool.false_eq_true, Bool.true_eq_false, reduceIte, Bool.and_true, Bool.and_false, Bool.true_and, Bool.false_and, x_seq, x_par, x_trap, x_weak, Option.map_some, Option.map_none, Option.some.injEq, cpl, reduceCtorEq, Nat.max_def]; done) | (simp only [*, if_true, if_false, ne_eq, not_false_eq_true, not_true_eq_false, true_or, false_or, or_false, or_true, or_self, and_true, true_and, and_false, false_and, and_self, Bool.false_eq_true, Bool.true_eq_false, reduceIte, Bool.and_true, Bool.and_false, Bool.true_and, Bool.false_and, x_seq, x_par, x_trap, x_weak, Option.map_some, Option.map_none, Option.some.injEq, cpl, reduceCtorEq, Nat.max_def]; rfl)
        exact hqs _ _ e
  · skip
    refine am_enter' (M := M_X2_ofLocal) rfl rfl rfl (by omega) (ls := [some (.ref t), some (.int (nI k)), some (.int (nI s)), some (.int (nI P)), some (.int (nI dep)), none, none, none, none, none]) rfl (fun d' hd' => ?_)
    refine am_run 2 (pc' := 2) (ls' := [some (.ref t), some (.int (nI k)), some (.int (nI s)), some (.int (nI P)), some (.int (nI dep)), none, none, none, none, none]) (st' := [.int (nI k), .ref t]) (σ' := σ) rfl ?_
    refine am_invv (y := 115) (b := t) (as := [.int (nI k)]) (rest := []) rfl rfl rfl rfl rfl rfl (TR_kind hR) (Nat.le_of_ble_eq_true rfl) ?_
    refine c_leftOf (by omega) hW hR hk ?_
    show am_G _ M_X2_ofLocal _ 5 [some (.ref t), some (.int (nI k)), some (.int (nI s)), some (.int (nI P)), some (.int (nI dep)), none, none, none, none, none] [.int (oI (p 2 k))] σ
    refine am_run 3 (pc' := 9) (ls' := [some (.ref t), some (.int (nI k)), some (.int (nI s)), some (.int (nI P)), some (.int (nI dep)), some (.int (oI (p 2 k))), none, none, none, none]) (st' := [.int (nI k), .ref t]) (σ' := σ) rfl ?_
    refine am_invv (y := 118) (b := t) (as := [.int (nI k)]) (rest := []) rfl rfl rfl rfl rfl rfl (TR_kind hR) (Nat.le_of_ble_eq_true rfl) ?_
    refine c_signalOf (by omega) hW hR hk (g := p 1 k - 1) (by omega) ?_
    show am_G _ M_X2_ofLocal _ 12 [some (.ref t), some (.int (nI k)), some (.int (nI s)), some (.int (nI P)), some (.int (nI dep)), some (.int (oI (p 2 k))), none, none, none, none] [.int (nI (2 ^ (p 1 k - 1)))] σ
    refine am_run 6 (pc' := 22) (ls' := [some (.ref t), some (.int (nI k)), some (.int (nI s)), some (.int (nI P)), some (.int (nI dep)), some (.int (oI (p 2 k))), some (.int (nI (2 ^ (p 1 k - 1)))), none, none, none]) (st' := [.int (nI 255 &&& (nI (2 ^ (p 1 k - 1)) ^^^ (-1)))]) (σ' := σ) rfl ?_
    refine am_top (v' := nI (cl 255 (p 1 k - 1))) nx_cl ?_
    refine am_run 4 (pc' := 28) (ls' := [some (.ref t), some (.int (nI k)), some (.int (nI s)), some (.int (nI P)), some (.int (nI dep)), some (.int (oI (p 2 k))), some (.int (nI (2 ^ (p 1 k - 1)))), some (.int (nI (cl 255 (p 1 k - 1)))), none, none]) (st' := [.int (nI P &&& nI (cl 255 (p 1 k - 1)))]) (σ' := σ) rfl ?_
    refine am_top (v' := nI (cl P (p 1 k - 1))) (pq_pres hP) ?_
    refine am_run 5 (pc' := 34) (ls' := [some (.ref t), some (.int (nI k)), some (.int (nI s)), some (.int (nI P)), some (.int (nI dep)), some (.int (oI (p 2 k))), some (.int (nI (2 ^ (p 1 k - 1)))), some (.int (nI (cl 255 (p 1 k - 1)))), none, none]) (st' := [.int ((nI P ^^^ (-1)) &&& nI (cl 255 (p 1 k - 1))), .int (nI (cl P (p 1 k - 1)))]) (σ' := σ) rfl ?_
    refine am_top (v' := nI (cl (255 ^^^ P) (p 1 k - 1))) (pq_abs hP) ?_
    refine am_invs (y := 2) (as := [.int (nI (cl P (p 1 k - 1))), .int (nI (cl (255 ^^^ P) (p 1 k - 1)))]) (rest := []) rfl rfl rfl rfl rfl rfl (Nat.le_of_ble_eq_true rfl) ?_
    refine c_a_knowledge (by omega) (a := cl P (p 1 k - 1)) (b := cl (255 ^^^ P) (p 1 k - 1)) (by first | decide | omega | exact cl_lt (by omega)) ?_
    show am_G _ M_X2_ofLocal _ 37 [some (.ref t), some (.int (nI k)), some (.int (nI s)), some (.int (nI P)), some (.int (nI dep)), some (.int (oI (p 2 k))), some (.int (nI (2 ^ (p 1 k - 1)))), some (.int (nI (cl 255 (p 1 k - 1)))), none, none] [.int (nI (cl P (p 1 k - 1) + 256 * (cl (255 ^^^ P) (p 1 k - 1))))] σ
    refine am_run 7 (pc' := 48) (ls' := [some (.ref t), some (.int (nI k)), some (.int (nI s)), some (.int (nI P)), some (.int (nI dep)), some (.int (oI (p 2 k))), some (.int (nI (2 ^ (p 1 k - 1)))), some (.int (nI (cl 255 (p 1 k - 1)))), some (.int (nI (cl P (p 1 k - 1) + 256 * (cl (255 ^^^ P) (p 1 k - 1))))), none]) (st' := [.int (nI dep), .int (nI (cl P (p 1 k - 1) + 256 * (cl (255 ^^^ P) (p 1 k - 1)))), .int (nI 1), .int (nI s), .int (oI (p 2 k)), .ref t]) (σ' := σ) rfl ?_
    refine am_invn (as := [.ref t, .int (oI (p 2 k)), .int (nI s), .int (nI 1), .int (nI (cl P (p 1 k - 1) + 256 * (cl (255 ^^^ P) (p 1 k - 1)))), .int (nI dep)]) (rest := []) rfl rfl rfl rfl rfl (Nat.le_of_ble_eq_true rfl) ?_
    refine hAN _ (by omega) (p 2 k) s true (cl P (p 1 k - 1)) (cl (255 ^^^ P) (p 1 k - 1)) _ w2 (by omega) (cl_lt (by first | omega | exact xor_lt8 hP)) (cl_lt (by first | omega | exact xor_lt8 hP)) (fun r1 hr1 ok1 => ?_)
    obtain ⟨ok1a, ok1b, ok1c, ok1d⟩ := id ok1
    show am_G _ M_X2_ofLocal _ 51 [some (.ref t), some (.int (nI k)), some (.int (nI s)), some (.int (nI P)), some (.int (nI dep)), some (.int (oI (p 2 k))), some (.int (nI (2 ^ (p 1 k - 1)))), some (.int (nI (cl 255 (p 1 k - 1)))), some (.int (nI (cl P (p 1 k - 1) + 256 * (cl (255 ^^^ P) (p 1 k - 1))))), none] [.int (nI (eC r1))] σ
    refine am_run 2 (pc' := 55) (ls' := [some (.ref t), some (.int (nI k)), some (.int (nI s)), some (.int (nI P)), some (.int (nI dep)), some (.int (oI (p 2 k))), some (.int (nI (2 ^ (p 1 k - 1)))), some (.int (nI (cl 255 (p 1 k - 1)))), some (.int (nI (cl P (p 1 k - 1) + 256 * (cl (255 ^^^ P) (p 1 k - 1))))), some (.int (nI (eC r1)))]) (st' := [.int (nI (eC r1))]) (σ' := σ) rfl ?_
    refine am_invs (y := 3) (as := [.int (nI (eC r1))]) (rest := []) rfl rfl rfl rfl rfl rfl (Nat.le_of_ble_eq_true rfl) ?_
    refine c_a_must (by omega) (r := r1) ok1 ?_
    show am_G _ M_X2_ofLocal _ 58 [some (.ref t), some (.int (nI k)), some (.int (nI s)), some (.int (nI P)), some (.int (nI dep)), some (.int (oI (p 2 k))), some (.int (nI (2 ^ (p 1 k - 1)))), some (.int (nI (cl 255 (p 1 k - 1)))), some (.int (nI (cl P (p 1 k - 1) + 256 * (cl (255 ^^^ P) (p 1 k - 1))))), some (.int (nI (eC r1)))] [.int (nI (r1.1 + 256 * r1.2.2.1))] σ
    refine am_run 2 (pc' := 61) (ls' := [some (.ref t), some (.int (nI k)), some (.int (nI s)), some (.int (nI P)), some (.int (nI dep)), some (.int (oI (p 2 k))), some (.int (nI (2 ^ (p 1 k - 1)))), some (.int (nI (cl 255 (p 1 k - 1)))), some (.int (nI (cl P (p 1 k - 1) + 256 * (cl (255 ^^^ P) (p 1 k - 1))))), some (.int (nI (eC r1)))]) (st' := [.int (nI (r1.1 + 256 * r1.2.2.1) &&& nI (2 ^ (p 1 k - 1)))]) (σ' := σ) rfl ?_
    refine am_if (ty := 78) (tn := 64) rfl (by decide) rfl rfl (fun (h_2 : nI (r1.1 + 256 * r1.2.2.1) &&& nI (2 ^ (p 1 k - 1)) = 0) => ?_) (fun (h_2 : ¬ (nI (r1.1 + 256 * r1.2.2.1) &&& nI (2 ^ (p 1 k - 1)) = 0)) => ?_)
    · have h_2 : r1.1.testBit (p 1 k - 1) = false := (pq_hasS (g := p 1 k - 1) (m := r1.1) (k := r1.2.2.1) (by first | decide | omega | exact pow_lt_256 (by omega) | (exact or_lt8 (by omega) (by omega)) | (exact or_lt7 (by omega) (by omega)) | (exact mx_lt (by omega) (by omega)) | (exact ct_lt (by omega)) | (exact en_lt (by omega)) | (exact cl_lt (by omega)) | (exact or_lt7 (cl_lt (by omega)) (by omega)) | (exact or_lt8 (cl_lt (by omega)) (pow_lt_256 (by omega))) | (exact cl_lt (en_lt (by omega)))) (by omega) (by omega)).mp h_2
      refine am_run 1 (pc' := 80) (ls' := [some (.ref t), some (.int (nI k)), some (.int (nI s)), some (.int (nI P)), some (.int (nI dep)), some (.int (oI (p 2 k))), some (.int (nI (2 ^ (p 1 k - 1)))), some (.int (nI (cl 255 (p 1 k - 1)))), some (.int (nI (cl P (p 1 k - 1) + 256 * (cl (255 ^^^ P) (p 1 k - 1))))), some (.int (nI (eC r1)))]) (st' := [.int (nI (eC r1))]) (σ' := σ) rfl ?_
      refine am_invs (y := 4) (as := [.int (nI (eC r1))]) (rest := []) rfl rfl rfl rfl rfl rfl (Nat.le_of_ble_eq_true rfl) ?_
      refine c_a_can (by omega) (r := r1) ok1 ?_
      show am_G _ M_X2_ofLocal _ 83 [some (.ref t), some (.int (nI k)), some (.int (nI s)), some (.int (nI P)), some (.int (nI dep)), some (.int (oI (p 2 k))), some (.int (nI (2 ^ (p 1 k - 1)))), some (.int (nI (cl 255 (p 1 k - 1)))), some (.int (nI (cl P (p 1 k - 1) + 256 * (cl (255 ^^^ P) (p 1 k - 1))))), some (.int (nI (eC r1)))] [.int (nI (r1.2.1 + 256 * r1.2.2.2))] σ
      refine am_run 2 (pc' := 86) (ls' := [some (.ref t), some (.int (nI k)), some (.int (nI s)), some (.int (nI P)), some (.int (nI dep)), some (.int (oI (p 2 k))), some (.int (nI (2 ^ (p 1 k - 1)))), some (.int (nI (cl 255 (p 1 k - 1)))), some (.int (nI (cl P (p 1 k - 1) + 256 * (cl (255 ^^^ P) (p 1 k - 1))))), some (.int (nI (eC r1)))]) (st' := [.int (nI (r1.2.1 + 256 * r1.2.2.2) &&& nI (2 ^ (p 1 k - 1)))]) (σ' := σ) rfl ?_
      refine am_if (ty := 89) (tn := 103) rfl (by decide) rfl rfl (fun (h_3 : nI (r1.2.1 + 256 * r1.2.2.2) &&& nI (2 ^ (p 1 k - 1)) = 0) => ?_) (fun (h_3 : ¬ (nI (r1.2.1 + 256 * r1.2.2.2) &&& nI (2 ^ (p 1 k - 1)) = 0)) => ?_)
      · have h_3 : r1.2.1.testBit (p 1 k - 1) = false := (pq_hasS (g := p 1 k - 1) (m := r1.2.1) (k := r1.2.2.2) (by first | decide | omega | exact pow_lt_256 (by omega) | (exact or_lt8 (by omega) (by omega)) | (exact or_lt7 (by omega) (by omega)) | (exact mx_lt (by omega) (by omega)) | (exact ct_lt (by omega)) | (exact en_lt (by omega)) | (exact cl_lt (by omega)) | (exact or_lt7 (cl_lt (by omega)) (by omega)) | (exact or_lt8 (cl_lt (by omega)) (pow_lt_256 (by omega))) | (exact cl_lt (en_lt (by omega)))) (by omega) (by omega)).mp h_3
        refine am_run 6 (pc' := 97) (ls' := [some (.ref t), some (.int (nI k)), some (.int (nI s)), some (.int (nI P)), some (.int (nI dep)), some (.int (oI (p 2 k))), some (.int (nI (2 ^ (p 1 k - 1)))), some (.int (nI (cl 255 (p 1 k - 1)))), some (.int (nI (cl P (p 1 k - 1) + 256 * (cl (255 ^^^ P) (p 1 k - 1))))), some (.int (nI (eC r1)))]) (st' := [.int (nI P &&& nI (cl 255 (p 1 k - 1))), .int (nI s), .int (oI (p 2 k)), .ref t]) (σ' := σ) rfl ?_
        refine am_top (v' := nI (cl P (p 1 k - 1))) (pq_pres hP) ?_
        refine am_run 1 (pc' := 99) (ls' := [some (.ref t), some (.int (nI k)), some (.int (nI s)), some (.int (nI P)), some (.int (nI dep)), some (.int (oI (p 2 k))), some (.int (nI (2 ^ (p 1 k - 1)))), some (.int (nI (cl 255 (p 1 k - 1)))), some (.int (nI (cl P (p 1 k - 1) + 256 * (cl (255 ^^^ P) (p 1 k - 1))))), some (.int (nI (eC r1)))]) (st' := [.int (nI dep), .int (nI (cl P (p 1 k - 1))), .int (nI s), .int (oI (p 2 k)), .ref t]) (σ' := σ) rfl ?_
        refine am_invs (y := 41) (as := [.ref t, .int (oI (p 2 k)), .int (nI s), .int (nI (cl P (p 1 k - 1))), .int (nI dep)]) (rest := []) rfl rfl rfl rfl rfl rfl (Nat.le_of_ble_eq_true rfl) ?_
        refine hEX _ (by omega) (p 2 k) s (cl P (p 1 k - 1)) _ w2 (by omega) (by first | exact cl_lt (by omega) | exact or_lt8 (by omega) (pow_lt_256 (by omega))) (fun he4 => ?_) (fun c4 q4 he4 hc4 hq4 hz4 => ?_)
        · show am_G _ M_X2_ofLocal _ 102 [some (.ref t), some (.int (nI k)), some (.int (nI s)), some (.int (nI P)), some (.int (nI dep)), some (.int (oI (p 2 k))), some (.int (nI (2 ^ (p 1 k - 1)))), some (.int (nI (cl 255 (p 1 k - 1)))), some (.int (nI (cl P (p 1 k - 1) + 256 * (cl (255 ^^^ P) (p 1 k - 1))))), some (.int (nI (eC r1)))] [.int (-1)] σ
          refine am_reti rfl rfl ?_
          have e : exB p (ex p f) (an p f) k s P = none := by
            rw [exB_36 ht]
            first | rfl | (simp only [*, if_true, if_false, ne_eq, not_false_eq_true, not_true_eq_false, true_or, false_or, or_false, or_true, or_self, and_true, true_and, and_false, false_and, and_self, Bool.false_eq_true, Bool.true_eq_false, reduceIte, Bool.and_true, Bool.and_false, Bool.true_and, Bool.false_and, x_seq, x_par, x_trap, x_weak, Option.map_some, Option.map_none, Option.some.injEq, cpl, reduceCtorEq, Nat.max_def]; done) | (simp only [*, if_true, if_false, ne_eq, not_false_eq_true, not_true_eq_false, true_or, false_or, or_false, or_true, or_self, and_true, true_and, and_false, false_and, and_self, Bool.false_eq_true, Bool.true_eq_false, reduceIte, Bool.and_true, Bool.and_false, Bool.true_and, Bool.false_and, x_seq, x_par, x_trap, x_weak, Option.map_some, Option.map_none, Option.some.injEq, cpl, reduceCtorEq, Nat.max_def]; rfl)
          exact hqn e
        · show am_G _ M_X2_ofLocal _ 102 [some (.ref t), some (.int (nI k)), some (.int (nI s)), some (.int (nI P)), some (.int (nI dep)), some (.int (oI (p 2 k))), some (.int (nI (2 ^ (p 1 k - 1)))), some (.int (nI (cl 255 (p 1 k - 1)))), some (.int (nI (cl P (p 1 k - 1) + 256 * (cl (255 ^^^ P) (p 1 k - 1))))), some (.int (nI (eC r1)))] [.int (nI (c4 * 1048576 + q4))] σ
          refine am_reti rfl rfl ?_
          have e : exB p (ex p f) (an p f) k s P = some (c4, q4) := by
            rw [exB_36 ht]
            first | rfl | (simp only [*, if_true, if_false, ne_eq, not_false_eq_true, not_true_eq_false, true_or, false_or, or_false, or_true, or_self, and_true, true_and, and_false, false_and, and_self, Bool.false_eq_true, Bool.true_eq_false, reduceIte, Bool.and_true, Bool.and_false, Bool.true_and, Bool.false_and, x_seq, x_par, x_trap, x_weak, Option.map_some, Option.map_none, Option.some.injEq, cpl, reduceCtorEq, Nat.max_def]; done) | (simp only [*, if_true, if_false, ne_eq, not_false_eq_true, not_true_eq_false, true_or, false_or, or_false, or_true, or_self, and_true, true_and, and_false, false_and, and_self, Bool.false_eq_true, Bool.true_eq_false, reduceIte, Bool.and_true, Bool.and_false, Bool.true_and, Bool.false_and, x_seq, x_par, x_trap, x_weak, Option.map_some, Option.map_none, Option.some.injEq, cpl, reduceCtorEq, Nat.max_def]; rfl)
          exact hqs _ _ e
      · have h_3 : r1.2.1.testBit (p 1 k - 1) = true := by simpa using fun z => h_3 ((pq_hasS (g := p 1 k - 1) (m := r1.2.1) (k := r1.2.2.2) (by first | decide | omega | exact pow_lt_256 (by omega) | (exact or_lt8 (by omega) (by omega)) | (exact or_lt7 (by omega) (by omega)) | (exact mx_lt (by omega) (by omega)) | (exact ct_lt (by omega)) | (exact en_lt (by omega)) | (exact cl_lt (by omega)) | (exact or_lt7 (cl_lt (by omega)) (by omega)) | (exact or_lt8 (cl_lt (by omega)) (pow_lt_256 (by omega))) | (exact cl_lt (en_lt (by omega)))) (by omega) (by omega)).mpr z)
        refine am_run 1 (pc' := 104) (ls' := [some (.ref t), some (.int (nI k)), some (.int (nI s)), some (.int (nI P)), some (.int (nI dep)), some (.int (oI (p 2 k))), some (.int (nI (2 ^ (p 1 k - 1)))), some (.int (nI (cl 255 (p 1 k - 1)))), some (.int (nI (cl P (p 1 k - 1) + 256 * (cl (255 ^^^ P) (p 1 k - 1))))), some (.int (nI (eC r1)))]) (st' := [.int (-1)]) (σ' := σ) rfl ?_
        refine am_reti rfl rfl ?_
        have e : exB p (ex p f) (an p f) k s P = none := by
          rw [exB_36 ht]
          first | rfl | (simp only [*, if_true, if_false, ne_eq, not_false_eq_true, not_true_eq_false, true_or, false_or, or_false, or_true, or_self, and_true, true_and, and_false, false_and, and_self, Bool.false_eq_true, Bool.true_eq_false, reduceIte, Bool.and_true, Bool.and_false, Bool.true_and, Bool.false_and, x_seq, x_par, x_trap, x_weak, Option.map_some, Option.map_none, Option.some.injEq, cpl, reduceCtorEq, Nat.max_def]; done) | (simp only [*, if_true, if_false, ne_eq, not_false_eq_true, not_true_eq_false, true_or, false_or, or_false, or_true, or_self, and_true, true_and, and_false, false_and, and_self, Bool.false_eq_true, Bool.true_eq_false, reduceIte, Bool.and_true, Bool.and_false, Bool.true_and, Bool.false_and, x_seq, x_par, x_trap, x_weak, Option.map_some, Option.map_none, Option.some.injEq, cpl, reduceCtorEq, Nat.max_def]; rfl)
        exact hqn e
    · have h_2 : r1.1.testBit (p 1 k - 1) = true := by simpa using fun z => h_2 ((pq_hasS (g := p 1 k - 1) (m := r1.1) (k := r1.2.2.1) (by first | decide | omega | exact pow_lt_256 (by omega) | (exact or_lt8 (by omega) (by omega)) | (exact or_lt7 (by omega) (by omega)) | (exact mx_lt (by omega) (by omega)) | (exact ct_lt (by omega)) | (exact en_lt (by omega)) | (exact cl_lt (by omega)) | (exact or_lt7 (cl_lt (by omega)) (by omega)) | (exact or_lt8 (cl_lt (by omega)) (pow_lt_256 (by omega))) | (exact cl_lt (en_lt (by omega)))) (by omega) (by omega)).mpr z)
      refine am_run 6 (pc' := 72) (ls' := [some (.ref t), some (.int (nI k)), some (.int (nI s)), some (.int (nI P)), some (.int (nI dep)), some (.int (oI (p 2 k))), some (.int (nI (2 ^ (p 1 k - 1)))), some (.int (nI (cl 255 (p 1 k - 1)))), some (.int (nI (cl P (p 1 k - 1) + 256 * (cl (255 ^^^ P) (p 1 k - 1))))), some (.int (nI (eC r1)))]) (st' := [.int (nI P ||| nI (2 ^ (p 1 k - 1))), .int (nI s), .int (oI (p 2 k)), .ref t]) (σ' := σ) rfl ?_
      refine am_top (v' := nI (P ||| 2 ^ (p 1 k - 1))) (nx_or _ _) ?_
      refine am_run 1 (pc' := 74) (ls' := [some (.ref t), some (.int (nI k)), some (.int (nI s)), some (.int (nI P)), some (.int (nI dep)), some (.int (oI (p 2 k))), some (.int (nI (2 ^ (p 1 k - 1)))), some (.int (nI (cl 255 (p 1 k - 1)))), some (.int (nI (cl P (p 1 k - 1) + 256 * (cl (255 ^^^ P) (p 1 k - 1))))), some (.int (nI (eC r1)))]) (st' := [.int (nI dep), .int (nI (P ||| 2 ^ (p 1 k - 1))), .int (nI s), .int (oI (p 2 k)), .ref t]) (σ' := σ) rfl ?_
      refine am_invs (y := 41) (as := [.ref t, .int (oI (p 2 k)), .int (nI s), .int (nI (P ||| 2 ^ (p 1 k - 1))), .int (nI dep)]) (rest := []) rfl rfl rfl rfl rfl rfl (Nat.le_of_ble_eq_true rfl) ?_
      refine hEX _ (by omega) (p 2 k) s (P ||| 2 ^ (p 1 k - 1)) _ w2 (by omega) (by first | exact cl_lt (by omega) | exact or_lt8 (by omega) (pow_lt_256 (by omega))) (fun he5 => ?_) (fun c5 q5 he5 hc5 hq5 hz5 => ?_)
      · show am_G _ M_X2_ofLocal _ 77 [some (.ref t), some (.int (nI k)), some (.int (nI s)), some (.int (nI P)), some (.int (nI dep)), some (.int (oI (p 2 k))), some (.int (nI (2 ^ (p 1 k - 1)))), some (.int (nI (cl 255 (p 1 k - 1)))), some (.int (nI (cl P (p 1 k - 1) + 256 * (cl (255 ^^^ P) (p 1 k - 1))))), some (.int (nI (eC r1)))] [.int (-1)] σ
        refine am_reti rfl rfl ?_
        have e : exB p (ex p f) (an p f) k s P = none := by
          rw [exB_36 ht]
          first | rfl | (simp only [*, if_true, if_false, ne_eq, not_false_eq_true, not_true_eq_false, true_or, false_or, or_false, or_true, or_self, and_true, true_and, and_false, false_and, and_self, Bool.false_eq_true, Bool.true_eq_false, reduceIte, Bool.and_true, Bool.and_false, Bool.true_and, Bool.false_and, x_seq, x_par, x_trap, x_weak, Option.map_some, Option.map_none, Option.some.injEq, cpl, reduceCtorEq, Nat.max_def]; done) | (simp only [*, if_true, if_false, ne_eq, not_false_eq_true, not_true_eq_false, true_or, false_or, or_false, or_true, or_self, and_true, true_and, and_false, false_and, and_self, Bool.false_eq_true, Bool.true_eq_false, reduceIte, Bool.and_true, Bool.and_false, Bool.true_and, Bool.false_and, x_seq, x_par, x_trap, x_weak, Option.map_some, Option.map_none, Option.some.injEq, cpl, reduceCtorEq, Nat.max_def]; rfl)
        exact hqn e
      · show am_G _ M_X2_ofLocal _ 77 [some (.ref t), some (.int (nI k)), some (.int (nI s)), some (.int (nI P)), some (.int (nI dep)), some (.int (oI (p 2 k))), some (.int (nI (2 ^ (p 1 k - 1)))), some (.int (nI (cl 255 (p 1 k - 1)))), some (.int (nI (cl P (p 1 k - 1) + 256 * (cl (255 ^^^ P) (p 1 k - 1))))), some (.int (nI (eC r1)))] [.int (nI (c5 * 1048576 + q5))] σ
        refine am_reti rfl rfl ?_
        have e : exB p (ex p f) (an p f) k s P = some (c5, q5) := by
          rw [exB_36 ht]
          first | rfl | (simp only [*, if_true, if_false, ne_eq, not_false_eq_true, not_true_eq_false, true_or, false_or, or_false, or_true, or_self, and_true, true_and, and_false, false_and, and_self, Bool.false_eq_true, Bool.true_eq_false, reduceIte, Bool.and_true, Bool.and_false, Bool.true_and, Bool.false_and, x_seq, x_par, x_trap, x_weak, Option.map_some, Option.map_none, Option.some.injEq, cpl, reduceCtorEq, Nat.max_def]; done) | (simp only [*, if_true, if_false, ne_eq, not_false_eq_true, not_true_eq_false, true_or, false_or, or_false, or_true, or_self, and_true, true_and, and_false, false_and, and_self, Bool.false_eq_true, Bool.true_eq_false, reduceIte, Bool.and_true, Bool.and_false, Bool.true_and, Bool.false_and, x_seq, x_par, x_trap, x_weak, Option.map_some, Option.map_none, Option.some.injEq, cpl, reduceCtorEq, Nat.max_def]; rfl)
        exact hqs _ _ e

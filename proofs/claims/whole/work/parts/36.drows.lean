/-! what the reference keeps of executions -/
def SE (E : Nat × Nat) : Prop := E.2 = 255 ^^^ E.1
/-- what the second table has of x (a statement + 1) -/
def KE (σ : am_M) (p : Pg) (x w on S : Nat) (E : Nat × Nat) : Prop := x = 0 ∨ ∃ v : D3, ok3 v ∧ σ.1 30 (((x - 1) * 27 + w) * 2 + on) = nI (eD v) ∧ (SE E → tE v = ex p 61 x S E.1)
theorem bit255 {g : Nat} (hg : g < 8) : (255 : Nat).testBit g = true := by
  rw [show (255 : Nat) = 2 ^ 8 - 1 from rfl, Nat.testBit_two_pow_sub_one]; simp [hg]
theorem SE_1 {E : Nat × Nat} (h : SE E) {g : Nat} (hg : g < 8) : SE (up3 E g 1) := by
  have h : E.2 = 255 ^^^ E.1 := h
  show cl E.2 g = 255 ^^^ (cl E.1 g ||| 2 ^ g)
  apply Nat.eq_of_testBit_eq
  intro i
  rw [Nat.testBit_xor, st_bit, cl_bit, h, Nat.testBit_xor]
  by_cases e : g = i
  · subst e; rw [bit255 hg]; simp
  · simp [e]
theorem SE_2 {E : Nat × Nat} (h : SE E) {g : Nat} (hg : g < 8) : SE (up3 E g 2) := by
  have h : E.2 = 255 ^^^ E.1 := h
  show cl E.2 g ||| 2 ^ g = 255 ^^^ cl E.1 g
  apply Nat.eq_of_testBit_eq
  intro i
  rw [Nat.testBit_xor, st_bit, cl_bit, h, Nat.testBit_xor]
  by_cases e : g = i
  · subst e; rw [bit255 hg]; simp
  · simp [e]
theorem cl_or (P g : Nat) : cl P g ||| 2 ^ g = P ||| 2 ^ g := by
  apply Nat.eq_of_testBit_eq
  intro i
  rw [st_bit, Nat.testBit_or, Nat.testBit_two_pow]
theorem ex_36 {p : Pg} {i S : Nat} {E : Nat × Nat} (ht : p 0 i = 36) (hg : p 1 i - 1 < 8) (hs : SE E) {h : Nat} {v : D3} (hv : ok3 v) (hl : lst (an p 61 (p 2 i) S true (cl E.1 (p 1 i - 1)) (cl E.2 (p 1 i - 1))) true (p 1 i - 1) = h) (he : SE (up3 E (p 1 i - 1) h) → tE v = ex p 61 (p 2 i) S (up3 E (p 1 i - 1) h).1) : tE (dne v.1 (decide (h = 0) || v.2.1) v.2.2) = exB p (ex p 61) (an p 61) i S E.1 := by
  rw [exB_36 ht]
  have h2 : E.2 = 255 ^^^ E.1 := hs
  rw [← h2]
  unfold lst at hl
  by_cases c1 : (an p 61 (p 2 i) S true (cl E.1 (p 1 i - 1)) (cl E.2 (p 1 i - 1))).1.testBit (p 1 i - 1) = true
  · rw [if_pos c1]
    rw [if_pos ⟨rfl, c1⟩] at hl
    subst hl
    have := he (SE_1 hs hg)
    rw [← cl_or]
    rw [show (decide (1 = 0) || v.2.1) = v.2.1 from rfl, tE_v hv]
    exact this
  · rw [if_neg c1]
    rw [if_neg (fun z => c1 z.2)] at hl
    by_cases c2 : (an p 61 (p 2 i) S true (cl E.1 (p 1 i - 1)) (cl E.2 (p 1 i - 1))).2.1.testBit (p 1 i - 1) = false
    · rw [if_pos c2]
      rw [if_pos c2] at hl
      subst hl
      have := he (SE_2 hs hg)
      rw [show (decide (2 = 0) || v.2.1) = v.2.1 from rfl, tE_v hv]
      exact this
    · rw [if_neg c2]
      rw [if_neg c2] at hl
      subst hl
      rfl
theorem T46 {a : Nat} (h : a = 36 ∨ a = 38 ∨ a = 42 ∨ a = 46 ∨ a = 59 ∨ a = 63 ∨ a = 64 ∨ a = 94 ∨ a = 124 ∨ a = 126) (h1 : ¬ a = 36) (h2 : ¬ a = 38) (h3 : ¬ a = 42) (h4 : ¬ a = 59) (h5 : ¬ a = 63) (h6 : ¬ a = 64) (h7 : ¬ a = 94) (h8 : ¬ a = 124) (h9 : ¬ a = 126) : a = 46 := by
  rcases h with h | h | h | h | h | h | h | h | h | h
  · exact absurd h h1
  · exact absurd h h2
  · exact absurd h h3
  · exact h
  · exact absurd h h4
  · exact absurd h h5
  · exact absurd h h6
  · exact absurd h h7
  · exact absurd h h8
  · exact absurd h h9
theorem nfl {b : Bool} (h : b = false) : ¬ b = true := by rw [h]; decide
theorem ntr {b : Bool} (h : b = true) : ¬ b = false := by rw [h]; decide
theorem tE_weak1 {v : D3} (h : v.1 = 1) : tE (dne 0 v.2.1 0) = x_weak (tE v) := by
  obtain ⟨c, b, q⟩ := v
  have h : c = 1 := h
  subst h
  cases b <;> rfl
theorem tE_weak0 {v : D3} (h : ¬ v.1 = 1) : x_weak (tE v) = tE v := by
  obtain ⟨c, b, q⟩ := v
  have h : ¬ c = 1 := h
  cases b
  · show (if c = 1 then some (0, 0) else some (c, q)) = some (c, q)
    rw [if_neg h]
  · rfl
section Sx
variable {p : Pg} {F : Nat → Nat → Nat → E2} {G : Nat → Nat → Bool → Nat → Nat → R4} {k s P : Nat}
theorem exB_46s (h : p 0 k = 46) : exB p F G k ST P = some (1, p 4 k) := by rw [exB_46 h]; rfl
theorem exB_46o (h : p 0 k = 46) (hs : ¬ s = ST) : exB p F G k s P = some (0, 0) := by rw [exB_46 h, if_neg hs]; rfl
theorem exB_38s (h : p 0 k = 38) : exB p F G k ST P = some (1, p 4 k) := by rw [exB_38 h, if_neg (fun z => z.1 rfl)]; rfl
theorem exB_38o (h : p 0 k = 38) (hs : ¬ s = ST) : exB p F G k s P = (if P.testBit (p 1 k - 1) = true then some (0, 0) else some (1, p 4 k)) := by
  rw [exB_38 h]
  by_cases e : P.testBit (p 1 k - 1) = true
  · rw [if_pos ⟨hs, e⟩, if_pos e]; rfl
  · rw [if_neg (fun z => e z.2), if_neg e]; rfl
theorem exB_63s (h : p 0 k = 63) : exB p F G k ST P = F (if P.testBit (p 1 k - 1) = true then p 2 k else p 3 k) ST P := by rw [exB_63 h]; rfl
theorem exB_63o (h : p 0 k = 63) (hs : ¬ s = ST) : exB p F G k s P = F (if lv p (p 2 k) s = true then p 2 k else p 3 k) s P := by
  have e : (if s = ST then P.testBit (p 1 k - 1) else lv p (p 2 k) s) = lv p (p 2 k) s := if_neg hs
  rw [exB_63 h, e]
theorem exB_59s (h : p 0 k = 59) : exB p F G k ST P = x_seq (F (p 2 k) ST P) (F (p 3 k) ST P) := by rw [exB_59 h, if_neg (fun z => z.1 rfl)]
theorem exB_59o (h : p 0 k = 59) (hs : ¬ s = ST) : exB p F G k s P = (if lv p (p 2 k) s = false then F (p 3 k) s P else x_seq (F (p 2 k) s P) (F (p 3 k) ST P)) := by
  rw [exB_59 h]
  by_cases e : lv p (p 2 k) s = false
  · rw [if_pos ⟨hs, e⟩, if_pos e]
  · rw [if_neg (fun z => e z.2), if_neg e]
theorem exB_124s (h : p 0 k = 124) : exB p F G k ST P = x_par (F (p 2 k) ST P) (F (p 3 k) ST P) := by rw [exB_124 h, if_pos (Or.inl rfl), if_pos (Or.inl rfl)]
theorem exB_124o (h : p 0 k = 124) (hs : ¬ s = ST) : exB p F G k s P = x_par (if lv p (p 2 k) s = true then F (p 2 k) s P else some (0, 0)) (if lv p (p 3 k) s = true then F (p 3 k) s P else some (0, 0)) := by
  rw [exB_124 h]
  simp only [hs, false_or]
theorem exB_42s (h : p 0 k = 42) : exB p F G k ST P = F (p 2 k) ST P := by rw [exB_42 h, if_pos rfl]
theorem exB_42o (h : p 0 k = 42) (hs : ¬ s = ST) : exB p F G k s P = x_seq (F (p 2 k) s P) (F (p 2 k) ST P) := by rw [exB_42 h, if_neg hs]
theorem exB_64s (h : p 0 k = 64) : exB p F G k ST P = F (p 2 k) ST P := by rw [exB_64 h, if_neg (fun z => z.1 rfl)]
theorem exB_64o (h : p 0 k = 64) (hs : ¬ s = ST) : exB p F G k s P = (if P.testBit (p 1 k - 1) = true then some (0, 0) else F (p 2 k) s P) := by
  rw [exB_64 h]
  by_cases e : P.testBit (p 1 k - 1) = true
  · rw [if_pos ⟨hs, e⟩, if_pos e]
  · rw [if_neg (fun z => e z.2), if_neg e]
theorem exB_126s (h : p 0 k = 126) : exB p F G k ST P = F (p 2 k) ST P := by rw [exB_126 h, if_neg (fun z => z.1 rfl)]
theorem exB_126o (h : p 0 k = 126) (hs : ¬ s = ST) : exB p F G k s P = (if P.testBit (p 1 k - 1) = true then x_weak (F (p 2 k) s P) else F (p 2 k) s P) := by
  rw [exB_126 h]
  by_cases e : P.testBit (p 1 k - 1) = true
  · rw [if_pos ⟨hs, e⟩, if_pos e]
  · rw [if_neg (fun z => e z.2), if_neg e]
end Sx
set_option maxRecDepth 10000 in
set_option maxRecDepth 10000 in
set_option maxHeartbeats 2000000 in
theorem c_m_doneOf {d : Nat} (hd : 1 ≤ d) {σ : am_M} {Q : am_Q} {n w m : Nat} (hq : Q (some (.int (nI ((n * 27 + w) * 2 + m)))) σ) : am_C d 214 [.int (nI n), .int (nI w), .int (nI m)] σ Q := by
  refine am_enter' (M := M_X10_doneOf) rfl rfl rfl (by omega) (ls := [some (.int (nI n)), some (.int (nI w)), some (.int (nI m))]) rfl (fun d' hd' => ?_)
  refine am_run 3 (pc' := 4) (ls' := [some (.int (nI n)), some (.int (nI w)), some (.int (nI m))]) (st' := [.int (nI n * nI 27)]) (σ' := σ) rfl ?_
  refine am_top (v' := nI (n * 27)) (am_nmul _ _) ?_
  refine am_run 2 (pc' := 6) (ls' := [some (.int (nI n)), some (.int (nI w)), some (.int (nI m))]) (st' := [.int (nI (n * 27) + nI w)]) (σ' := σ) rfl ?_
  refine am_top (v' := nI (n * 27 + w)) (nI_add _ _) ?_
  refine am_run 2 (pc' := 8) (ls' := [some (.int (nI n)), some (.int (nI w)), some (.int (nI m))]) (st' := [.int (nI (n * 27 + w) * nI 2)]) (σ' := σ) rfl ?_
  refine am_top (v' := nI ((n * 27 + w) * 2)) (am_nmul _ _) ?_
  refine am_run 2 (pc' := 10) (ls' := [some (.int (nI n)), some (.int (nI w)), some (.int (nI m))]) (st' := [.int (nI ((n * 27 + w) * 2) + nI m)]) (σ' := σ) rfl ?_
  refine am_top (v' := nI ((n * 27 + w) * 2 + m)) (nI_add _ _) ?_
  refine am_reti rfl rfl ?_
  exact hq
set_option maxHeartbeats 2000000 in
theorem c_m_did {d : Nat} (hd : 2 ≤ d) {σ : am_M} {p : Pg} {n x w on S : Nat} {E : Nat × Nat} (hn60 : n ≤ 60) (hx : x ≤ n) (hw : w < 27) (hon : on < 2) (hz0 : σ.1 30 3240 = nI (eD (0, false, 0))) (hv : KE σ p x w on S E) {Q : am_Q} (hq : ∀ v, ok3 v → (SE E → tE v = ex p 61 x S E.1) → Q (some (.int (nI (eD v)))) σ) : am_C d 219 [.ref 0, .int (oI x), .int (nI w), .int (nI on)] σ Q := by
  cases x with
  | zero =>
    rw [oI_0]
    refine am_enter' (M := M_X10_did) rfl rfl rfl (by omega) (ls := [some (.ref 0), some (.int (-1)), some (.int (nI w)), some (.int (nI on))]) rfl (fun d' hd' => ?_)
    refine am_run 2 (pc' := 2) (ls' := [some (.ref 0), some (.int (-1)), some (.int (nI w)), some (.int (nI on))]) (st' := [.int (-1), .int (-1)]) (σ' := σ) rfl ?_
    refine am_ic (ty := 5) (tn := 16) rfl (by decide) rfl rfl (fun (h_1 : -1 = -1) => ?_) (fun (h_1 : ¬ (-1 = -1)) => ?_)
    rotate_left
    · exact absurd (by decide) h_1
    refine am_run 3 (pc' := 12) (ls' := [some (.ref 0), some (.int (-1)), some (.int (nI w)), some (.int (nI on))]) (st' := [.int (nI 3240), .ref 30]) (σ' := σ) rfl ?_
    refine am_ialdN (n := 3241) (v := nI (eD (0, false, 0))) rfl rfl rfl (by omega) hz0 (by decide) ?_
    refine am_run 1 (pc' := 27) (ls' := [some (.ref 0), some (.int (-1)), some (.int (nI w)), some (.int (nI on))]) (st' := [.int (nI (eD (0, false, 0)))]) (σ' := σ) rfl ?_
    refine am_reti rfl rfl ?_
    exact hq (0, false, 0) ⟨by decide, by decide, Or.inr rfl⟩ (fun _ => by rw [ex_z]; rfl)
  | succ i =>
    rw [oI_s]
    obtain ⟨v, okv, hv1, hv2⟩ := hv.resolve_left (Nat.succ_ne_zero i)
    refine am_enter' (M := M_X10_did) rfl rfl rfl (by omega) (ls := [some (.ref 0), some (.int (nI i)), some (.int (nI w)), some (.int (nI on))]) rfl (fun d' hd' => ?_)
    refine am_run 2 (pc' := 2) (ls' := [some (.ref 0), some (.int (nI i)), some (.int (nI w)), some (.int (nI on))]) (st' := [.int (-1), .int (nI i)]) (σ' := σ) rfl ?_
    refine am_ic (ty := 5) (tn := 16) rfl (by decide) rfl rfl (fun (h_1 : nI i = -1) => ?_) (fun (h_1 : ¬ (nI i = -1)) => ?_)
    · exact absurd h_1 (am_nm1 (by omega))
    refine am_run 5 (pc' := 23) (ls' := [some (.ref 0), some (.int (nI i)), some (.int (nI w)), some (.int (nI on))]) (st' := [.int (nI on), .int (nI w), .int (nI i), .ref 30]) (σ' := σ) rfl ?_
    refine am_invs (y := 214) (as := [.int (nI i), .int (nI w), .int (nI on)]) (rest := [.ref 30]) rfl rfl rfl rfl rfl rfl (Nat.le_of_ble_eq_true rfl) ?_
    refine c_m_doneOf (by omega) ?_
    show am_G _ M_X10_did _ 26 [some (.ref 0), some (.int (nI i)), some (.int (nI w)), some (.int (nI on))] [.int (nI ((i * 27 + w) * 2 + on)), .ref 30] σ
    refine am_ialdN (n := 3241) (v := nI (eD v)) rfl rfl rfl (by omega) hv1 (by decide) ?_
    refine am_reti rfl rfl ?_
    exact hq v okv hv2
set_option maxRecDepth 10000 in
set_option maxHeartbeats 2000000 in
theorem c_m_onDone {d : Nat} (hd : 3 ≤ d) {σ : am_M} {j s P A n : Nat} {p : Pg} {dp : Nat → Nat} {ow : Nat → Nat → Nat} (hB : MB σ j s P A p n dp ow) {x w : Nat} {E : Nat × Nat} (hx : x ≤ n) (hw : w < 27) (hz0 : σ.1 30 3240 = nI (eD (0, false, 0))) (hv : lv p x s = true → KE σ p x w 1 s E) {Q : am_Q} (hq : ∀ v, ok3 v → (SE E → tE v = (if lv p x s = true then ex p 61 x s E.1 else some (0, 0))) → Q (some (.int (nI (eD v)))) σ) : am_C d 226 [.ref 0, .int (oI x), .int (nI w)] σ Q := by
  obtain ⟨hj, hS, hW, hs, hN, hdj, hP, hA⟩ := id hB
  obtain ⟨hS1, hS2, hS3, hS4⟩ := id hS
  refine am_enter' (M := M_X10_onDone) rfl rfl rfl (by omega) (ls := [some (.ref 0), some (.int (oI x)), some (.int (nI w))]) rfl (fun d' hd' => ?_)
  refine am_run 2 (pc' := 2) (ls' := [some (.ref 0), some (.int (oI x)), some (.int (nI w))]) (st' := [.int (oI x), .ref 0]) (σ' := σ) rfl ?_
  refine am_invv (y := 194) (b := 0) (as := [.int (oI x)]) (rest := []) rfl rfl rfl rfl rfl rfl rfl (Nat.le_of_ble_eq_true rfl) ?_
  refine c_m_isLive (by omega) hB hx (fun hl => ?_) (fun hl => ?_)
  · show am_G _ M_X10_onDone _ 5 [some (.ref 0), some (.int (oI x)), some (.int (nI w))] [.int (nI 1)] σ
    refine am_if (ty := 18) (tn := 8) rfl (by decide) rfl rfl (fun (h_1 : nI 1 = 0) => ?_) (fun (h_1 : ¬ (nI 1 = 0)) => ?_)
    · exact absurd h_1 (by decide)
    refine am_run 4 (pc' := 12) (ls' := [some (.ref 0), some (.int (oI x)), some (.int (nI w))]) (st' := [.int (nI 1), .int (nI w), .int (oI x), .ref 0]) (σ' := σ) rfl ?_
    refine am_invv (y := 219) (b := 0) (as := [.int (oI x), .int (nI w), .int (nI 1)]) (rest := []) rfl rfl rfl rfl rfl rfl rfl (Nat.le_of_ble_eq_true rfl) ?_
    refine c_m_did (by omega) hW.1 hx hw (by decide) hz0 (hv hl) (fun v okv ev => ?_)
    show am_G _ M_X10_onDone _ 15 [some (.ref 0), some (.int (oI x)), some (.int (nI w))] [.int (nI (eD v))] σ
    refine am_run 1 (pc' := 26) (ls' := [some (.ref 0), some (.int (oI x)), some (.int (nI w))]) (st' := [.int (nI (eD v))]) (σ' := σ) rfl ?_
    refine am_reti rfl rfl ?_
    exact hq v okv (fun z => by rw [if_pos hl]; exact ev z)
  · show am_G _ M_X10_onDone _ 5 [some (.ref 0), some (.int (oI x)), some (.int (nI w))] [.int (nI 0)] σ
    refine am_if (ty := 18) (tn := 8) rfl (by decide) rfl rfl (fun (h_2 : nI 0 = 0) => ?_) (fun (h_2 : ¬ (nI 0 = 0)) => ?_)
    rotate_left
    · exact absurd (by decide) h_2
    refine am_run 3 (pc' := 25) (ls' := [some (.ref 0), some (.int (oI x)), some (.int (nI w))]) (st' := [.int (nI 3240), .ref 30]) (σ' := σ) rfl ?_
    refine am_ialdN (n := 3241) (v := nI (eD (0, false, 0))) rfl rfl rfl (by omega) hz0 (by decide) ?_
    refine am_reti rfl rfl ?_
    exact hq (0, false, 0) ⟨by decide, by decide, Or.inr rfl⟩ (fun _ => by rw [if_neg (by rw [hl]; decide)]; rfl)
set_option maxRecDepth 10000 in
set_option maxHeartbeats 2000000 in
theorem c_m_rests {d : Nat} (hd : 2 ≤ d) {σ : am_M} {j s P A n : Nat} {p : Pg} {dp : Nat → Nat} {ow : Nat → Nat → Nat} (hB : MB σ j s P A p n dp ow) {i : Nat} (hi : i < n) (RO : p 0 i = 46 ∨ p 0 i = 38 → ∃ ri, σ.1 12 (60 * j + i) = nI ri ∧ ri < 20 ∧ p 4 i = 2 ^ ri) (ht : p 0 i = 46 ∨ p 0 i = 38) {Q : am_Q} (hq : Q (some (.int (nI (eD (dne 1 false (p 4 i)))))) σ) : am_C d 224 [.ref 0, .int (nI (60 * j + i))] σ Q := by
  obtain ⟨hj, hS, hW, hs, hN, hdj, hP, hA⟩ := id hB
  obtain ⟨hS1, hS2, hS3, hS4⟩ := id hS
  obtain ⟨⟨m0, m1, m2, m3, m4, m5, m6⟩, hdp, how⟩ := hN i hi
  obtain ⟨w0, w1, w2, w3, w4, w5, w6⟩ := hW.2 i hi
  have hn60 := hW.1
  obtain ⟨ri, r1, r2, r3⟩ := RO ht
  rw [r3] at hq w4
  refine am_enter' (M := M_X10_rests) rfl rfl rfl (by omega) (ls := [some (.ref 0), some (.int (nI (60 * j + i)))]) rfl (fun d' hd' => ?_)
  refine am_run 6 (pc' := 8) (ls' := [some (.ref 0), some (.int (nI (60 * j + i)))]) (st' := [.int (nI (60 * j + i)), .ref 12, .int (nI 1), .int (nI 0), .int (nI 1)]) (σ' := σ) rfl ?_
  refine am_ialdN (n := 180) (v := nI ri) rfl rfl rfl (by omega) r1 (by decide) ?_
  refine am_run 1 (pc' := 10) (ls' := [some (.ref 0), some (.int (nI (60 * j + i)))]) (st' := [.int ((nI 1) <<< ((nI ri) &&& 31)), .int (nI 0), .int (nI 1)]) (σ' := σ) rfl ?_
  refine am_top (v' := nI (2 ^ ri)) (by rw [nx_shl 1 (by omega), Nat.one_mul]) ?_
  refine am_invs (y := 215) (as := [.int (nI 1), .int (nI 0), .int (nI (2 ^ ri))]) (rest := []) rfl rfl rfl rfl rfl rfl (Nat.le_of_ble_eq_true rfl) ?_
  refine c_m_done0 (by omega) (c := 1) (q := 2 ^ ri) (by omega) (by first | omega | exact or_lt20 (by omega) (by omega)) ?_
  show am_G _ M_X10_rests _ 13 [some (.ref 0), some (.int (nI (60 * j + i)))] [.int (nI (eD (dne 1 false (2 ^ ri))))] σ
  refine am_reti rfl rfl ?_
  exact hq
set_option maxRecDepth 10000 in
set_option maxHeartbeats 2000000 in
theorem c_m_didNew0 {d : Nat} (hd : 4 ≤ d) {σ : am_M} {j s P A n : Nat} {p : Pg} {dp : Nat → Nat} {ow : Nat → Nat → Nat} (hB : MB σ j s P A p n dp ow) {i w : Nat} {E : Nat × Nat} (hi : i < n) (hw3 : w < 3 ^ dp i) (hE : evn (ow i) w P A (dp i) = E) (hz0 : σ.1 30 3240 = nI (eD (0, false, 0))) (ht : p 0 i = 36) (hdp2 : dp i ≤ 2) (hv : KD σ p (p 2 i) w 0 ST true (up3 E (p 1 i - 1) 0)) (hk : ∀ h, h < 3 → KE σ p (p 2 i) (w + h * 3 ^ dp i) 0 ST (up3 E (p 1 i - 1) h)) {Q : am_Q} (hq : ∀ v, ok3 v → (SE E → tE v = exB p (ex p 61) (an p 61) i ST E.1) → Q (some (.int (nI (eD v)))) σ) : am_C d 223 [.ref 0, .int (nI (60 * j + i)), .int (nI w), .int (nI 0)] σ Q := by
  obtain ⟨hj, hS, hW, hs, hN, hdj, hP, hA⟩ := id hB
  obtain ⟨hS1, hS2, hS3, hS4⟩ := id hS
  obtain ⟨⟨m0, m1, m2, m3, m4, m5, m6⟩, hdp, how⟩ := hN i hi
  obtain ⟨w0, w1, w2, w3, w4, w5, w6⟩ := hW.2 i hi
  have hn60 := hW.1
  have hw := wy0 hdp hw3
  have hg1 : 1 ≤ p 1 i := w5 (by rw [ht]; decide)
  refine am_enter' (M := M_X10_didNew) rfl rfl rfl (by omega) (ls := [some (.ref 0), some (.int (nI (60 * j + i))), some (.int (nI w)), some (.int (nI 0)), none, none]) rfl (fun d' hd' => ?_)
  refine am_run 6 (pc' := 6) (ls' := [some (.ref 0), some (.int (nI (60 * j + i))), some (.int (nI w)), some (.int (nI 0)), none, none]) (st' := [.int (nI 2 * nI 0), .int (nI w), .int (nI (60 * j + i)), .ref 0]) (σ' := σ) rfl ?_
  refine am_top (v' := nI 0) (am_nmul _ _) ?_
  refine am_invv (y := 201) (b := 0) (as := [.int (nI (60 * j + i)), .int (nI w), .int (nI 0)]) (rest := []) rfl rfl rfl rfl rfl rfl rfl (Nat.le_of_ble_eq_true rfl) ?_
  refine c_m_newWay0 (by omega) hB hi hw3 hE hg1 hv (fun h hh hlt => ?_)
  show am_G _ M_X10_didNew _ 9 [some (.ref 0), some (.int (nI (60 * j + i))), some (.int (nI w)), some (.int (nI 0)), none, none] [.int (nI h)] σ
  refine am_run 5 (pc' := 17) (ls' := [some (.ref 0), some (.int (nI (60 * j + i))), some (.int (nI w)), some (.int (nI 0)), some (.int (nI h)), none]) (st' := [.int (nI (60 * j + i)), .ref 7, .ref 0]) (σ' := σ) rfl ?_
  refine am_ialdN (n := 180) (v := oI (p 2 i)) rfl rfl rfl (by omega) m2 (by decide) ?_
  refine am_run 5 (pc' := 26) (ls' := [some (.ref 0), some (.int (nI (60 * j + i))), some (.int (nI w)), some (.int (nI 0)), some (.int (nI h)), none]) (st' := [.int (nI (60 * j + i)), .ref 10, .int (nI h), .int (nI w), .int (oI (p 2 i)), .ref 0]) (σ' := σ) rfl ?_
  refine am_ialdN (n := 180) (v := nI (dp i)) rfl rfl rfl (by omega) m5 (by decide) ?_
  refine am_invs (y := 193) (as := [.int (nI (dp i))]) (rest := [.int (nI h), .int (nI w), .int (oI (p 2 i)), .ref 0]) rfl rfl rfl rfl rfl rfl (Nat.le_of_ble_eq_true rfl) ?_
  refine c_m_threeTo (by omega) (a := dp i) hdp ?_
  show am_G _ M_X10_didNew _ 30 [some (.ref 0), some (.int (nI (60 * j + i))), some (.int (nI w)), some (.int (nI 0)), some (.int (nI h)), none] [.int (nI (3 ^ dp i)), .int (nI h), .int (nI w), .int (oI (p 2 i)), .ref 0] σ
  refine am_run 1 (pc' := 31) (ls' := [some (.ref 0), some (.int (nI (60 * j + i))), some (.int (nI w)), some (.int (nI 0)), some (.int (nI h)), none]) (st' := [.int (nI h * nI (3 ^ dp i)), .int (nI w), .int (oI (p 2 i)), .ref 0]) (σ' := σ) rfl ?_
  refine am_top (v' := nI (h * (3 ^ dp i))) (am_nmul _ _) ?_
  refine am_run 1 (pc' := 32) (ls' := [some (.ref 0), some (.int (nI (60 * j + i))), some (.int (nI w)), some (.int (nI 0)), some (.int (nI h)), none]) (st' := [.int (nI w + nI (h * (3 ^ dp i))), .int (oI (p 2 i)), .ref 0]) (σ' := σ) rfl ?_
  refine am_top (v' := nI (w + (h * (3 ^ dp i)))) (nI_add _ _) ?_
  refine am_run 1 (pc' := 33) (ls' := [some (.ref 0), some (.int (nI (60 * j + i))), some (.int (nI w)), some (.int (nI 0)), some (.int (nI h)), none]) (st' := [.int (nI 0), .int (nI (w + (h * (3 ^ dp i)))), .int (oI (p 2 i)), .ref 0]) (σ' := σ) rfl ?_
  refine am_invv (y := 219) (b := 0) (as := [.int (oI (p 2 i)), .int (nI (w + (h * (3 ^ dp i)))), .int (nI 0)]) (rest := []) rfl rfl rfl rfl rfl rfl rfl (Nat.le_of_ble_eq_true rfl) ?_
  refine c_m_did (by omega) hW.1 w2 (wy hdp2 hw3 hlt) (by decide) hz0 (hk h hlt) (fun v okv ev => ?_)
  obtain ⟨v1, v2, v3⟩ := id okv
  show am_G _ M_X10_didNew _ 36 [some (.ref 0), some (.int (nI (60 * j + i))), some (.int (nI w)), some (.int (nI 0)), some (.int (nI h)), none] [.int (nI (eD v))] σ
  refine am_run 2 (pc' := 40) (ls' := [some (.ref 0), some (.int (nI (60 * j + i))), some (.int (nI w)), some (.int (nI 0)), some (.int (nI h)), some (.int (nI (eD v)))]) (st' := [.int (nI (eD v))]) (σ' := σ) rfl ?_
  refine am_invs (y := 216) (as := [.int (nI (eD v))]) (rest := []) rfl rfl rfl rfl rfl rfl (Nat.le_of_ble_eq_true rfl) ?_
  refine c_m_codeOf (by omega) (v := v) okv ?_
  show am_G _ M_X10_didNew _ 43 [some (.ref 0), some (.int (nI (60 * j + i))), some (.int (nI w)), some (.int (nI 0)), some (.int (nI h)), some (.int (nI (eD v)))] [.int (nI v.1)] σ
  refine am_run 1 (pc' := 45) (ls' := [some (.ref 0), some (.int (nI (60 * j + i))), some (.int (nI w)), some (.int (nI 0)), some (.int (nI h)), some (.int (nI (eD v)))]) (st' := [.int (nI h), .int (nI v.1)]) (σ' := σ) rfl ?_
  refine am_if (ty := 56) (tn := 48) rfl (by decide) rfl rfl (fun (h_1 : nI h = 0) => ?_) (fun (h_1 : ¬ (nI h = 0)) => ?_)
  · have h_1 : h = 0 := (am_n0 (by omega)).mp h_1
    refine am_run 3 (pc' := 63) (ls' := [some (.ref 0), some (.int (nI (60 * j + i))), some (.int (nI w)), some (.int (nI 0)), some (.int (nI h)), some (.int (nI (eD v)))]) (st' := [.int (nI (eD v)), .int (nI 1), .int (nI v.1)]) (σ' := σ) rfl ?_
    refine am_invs (y := 218) (as := [.int (nI (eD v))]) (rest := [.int (nI 1), .int (nI v.1)]) rfl rfl rfl rfl rfl rfl (Nat.le_of_ble_eq_true rfl) ?_
    refine c_m_restsOf (by omega) (v := v) okv ?_
    show am_G _ M_X10_didNew _ 66 [some (.ref 0), some (.int (nI (60 * j + i))), some (.int (nI w)), some (.int (nI 0)), some (.int (nI h)), some (.int (nI (eD v)))] [.int (nI v.2.2), .int (nI 1), .int (nI v.1)] σ
    refine am_invs (y := 215) (as := [.int (nI v.1), .int (nI 1), .int (nI v.2.2)]) (rest := []) rfl rfl rfl rfl rfl rfl (Nat.le_of_ble_eq_true rfl) ?_
    refine c_m_done1 (by omega) (c := v.1) (q := v.2.2) (by omega) (by first | omega | exact or_lt20 (by omega) (by omega)) ?_
    show am_G _ M_X10_didNew _ 69 [some (.ref 0), some (.int (nI (60 * j + i))), some (.int (nI w)), some (.int (nI 0)), some (.int (nI h)), some (.int (nI (eD v)))] [.int (nI (eD (dne v.1 true v.2.2)))] σ
    refine am_reti rfl rfl ?_
    have e : dne v.1 (decide (h = 0) || v.2.1) v.2.2 = (dne v.1 true v.2.2) := by simp [*]
    rw [← e]
    exact hq _ (ok3_dne _ v1 v2) (fun hs => ex_36 ht (by omega) hs okv hh ev)
  · have h_1 : ¬ (h = 0) := fun z => h_1 ((am_n0 (by omega)).mpr z)
    refine am_run 1 (pc' := 50) (ls' := [some (.ref 0), some (.int (nI (60 * j + i))), some (.int (nI w)), some (.int (nI 0)), some (.int (nI h)), some (.int (nI (eD v)))]) (st' := [.int (nI (eD v)), .int (nI v.1)]) (σ' := σ) rfl ?_
    refine am_invs (y := 217) (as := [.int (nI (eD v))]) (rest := [.int (nI v.1)]) rfl rfl rfl rfl rfl rfl (Nat.le_of_ble_eq_true rfl) ?_
    refine c_m_isBad (by omega) (v := v) okv (fun hz_2 => ?_) (fun hz_2 => ?_)
    · show am_G _ M_X10_didNew _ 53 [some (.ref 0), some (.int (nI (60 * j + i))), some (.int (nI w)), some (.int (nI 0)), some (.int (nI h)), some (.int (nI (eD v)))] [.int (nI 1), .int (nI v.1)] σ
      refine am_if (ty := 60) (tn := 56) rfl (by decide) rfl rfl (fun (h_3 : nI 1 = 0) => ?_) (fun (h_3 : ¬ (nI 1 = 0)) => ?_)
      · exact absurd h_3 (by decide)
      refine am_run 3 (pc' := 63) (ls' := [some (.ref 0), some (.int (nI (60 * j + i))), some (.int (nI w)), some (.int (nI 0)), some (.int (nI h)), some (.int (nI (eD v)))]) (st' := [.int (nI (eD v)), .int (nI 1), .int (nI v.1)]) (σ' := σ) rfl ?_
      refine am_invs (y := 218) (as := [.int (nI (eD v))]) (rest := [.int (nI 1), .int (nI v.1)]) rfl rfl rfl rfl rfl rfl (Nat.le_of_ble_eq_true rfl) ?_
      refine c_m_restsOf (by omega) (v := v) okv ?_
      show am_G _ M_X10_didNew _ 66 [some (.ref 0), some (.int (nI (60 * j + i))), some (.int (nI w)), some (.int (nI 0)), some (.int (nI h)), some (.int (nI (eD v)))] [.int (nI v.2.2), .int (nI 1), .int (nI v.1)] σ
      refine am_invs (y := 215) (as := [.int (nI v.1), .int (nI 1), .int (nI v.2.2)]) (rest := []) rfl rfl rfl rfl rfl rfl (Nat.le_of_ble_eq_true rfl) ?_
      refine c_m_done1 (by omega) (c := v.1) (q := v.2.2) (by omega) (by first | omega | exact or_lt20 (by omega) (by omega)) ?_
      show am_G _ M_X10_didNew _ 69 [some (.ref 0), some (.int (nI (60 * j + i))), some (.int (nI w)), some (.int (nI 0)), some (.int (nI h)), some (.int (nI (eD v)))] [.int (nI (eD (dne v.1 true v.2.2)))] σ
      refine am_reti rfl rfl ?_
      have e : dne v.1 (decide (h = 0) || v.2.1) v.2.2 = (dne v.1 true v.2.2) := by simp [*]
      rw [← e]
      exact hq _ (ok3_dne _ v1 v2) (fun hs => ex_36 ht (by omega) hs okv hh ev)
    · show am_G _ M_X10_didNew _ 53 [some (.ref 0), some (.int (nI (60 * j + i))), some (.int (nI w)), some (.int (nI 0)), some (.int (nI h)), some (.int (nI (eD v)))] [.int (nI 0), .int (nI v.1)] σ
      refine am_if (ty := 60) (tn := 56) rfl (by decide) rfl rfl (fun (h_4 : nI 0 = 0) => ?_) (fun (h_4 : ¬ (nI 0 = 0)) => ?_)
      rotate_left
      · exact absurd (by decide) h_4
      refine am_run 2 (pc' := 63) (ls' := [some (.ref 0), some (.int (nI (60 * j + i))), some (.int (nI w)), some (.int (nI 0)), some (.int (nI h)), some (.int (nI (eD v)))]) (st' := [.int (nI (eD v)), .int (nI 0), .int (nI v.1)]) (σ' := σ) rfl ?_
      refine am_invs (y := 218) (as := [.int (nI (eD v))]) (rest := [.int (nI 0), .int (nI v.1)]) rfl rfl rfl rfl rfl rfl (Nat.le_of_ble_eq_true rfl) ?_
      refine c_m_restsOf (by omega) (v := v) okv ?_
      show am_G _ M_X10_didNew _ 66 [some (.ref 0), some (.int (nI (60 * j + i))), some (.int (nI w)), some (.int (nI 0)), some (.int (nI h)), some (.int (nI (eD v)))] [.int (nI v.2.2), .int (nI 0), .int (nI v.1)] σ
      refine am_invs (y := 215) (as := [.int (nI v.1), .int (nI 0), .int (nI v.2.2)]) (rest := []) rfl rfl rfl rfl rfl rfl (Nat.le_of_ble_eq_true rfl) ?_
      refine c_m_done0 (by omega) (c := v.1) (q := v.2.2) (by omega) (by first | omega | exact or_lt20 (by omega) (by omega)) ?_
      show am_G _ M_X10_didNew _ 69 [some (.ref 0), some (.int (nI (60 * j + i))), some (.int (nI w)), some (.int (nI 0)), some (.int (nI h)), some (.int (nI (eD v)))] [.int (nI (eD (dne v.1 false v.2.2)))] σ
      refine am_reti rfl rfl ?_
      have e : dne v.1 (decide (h = 0) || v.2.1) v.2.2 = (dne v.1 false v.2.2) := by simp [*]
      rw [← e]
      exact hq _ (ok3_dne _ v1 v2) (fun hs => ex_36 ht (by omega) hs okv hh ev)
set_option maxRecDepth 10000 in
set_option maxHeartbeats 2000000 in
theorem c_m_didNew1 {d : Nat} (hd : 4 ≤ d) {σ : am_M} {j s P A n : Nat} {p : Pg} {dp : Nat → Nat} {ow : Nat → Nat → Nat} (hB : MB σ j s P A p n dp ow) {i w : Nat} {E : Nat × Nat} (hi : i < n) (hw3 : w < 3 ^ dp i) (hE : evn (ow i) w P A (dp i) = E) (hz0 : σ.1 30 3240 = nI (eD (0, false, 0))) (ht : p 0 i = 36) (hdp2 : dp i ≤ 2) (hv : KD σ p (p 2 i) w 2 s true (up3 E (p 1 i - 1) 0)) (hk : ∀ h, h < 3 → KE σ p (p 2 i) (w + h * 3 ^ dp i) 1 s (up3 E (p 1 i - 1) h)) {Q : am_Q} (hq : ∀ v, ok3 v → (SE E → tE v = exB p (ex p 61) (an p 61) i s E.1) → Q (some (.int (nI (eD v)))) σ) : am_C d 223 [.ref 0, .int (nI (60 * j + i)), .int (nI w), .int (nI 1)] σ Q := by
  obtain ⟨hj, hS, hW, hs, hN, hdj, hP, hA⟩ := id hB
  obtain ⟨hS1, hS2, hS3, hS4⟩ := id hS
  obtain ⟨⟨m0, m1, m2, m3, m4, m5, m6⟩, hdp, how⟩ := hN i hi
  obtain ⟨w0, w1, w2, w3, w4, w5, w6⟩ := hW.2 i hi
  have hn60 := hW.1
  have hw := wy0 hdp hw3
  have hg1 : 1 ≤ p 1 i := w5 (by rw [ht]; decide)
  refine am_enter' (M := M_X10_didNew) rfl rfl rfl (by omega) (ls := [some (.ref 0), some (.int (nI (60 * j + i))), some (.int (nI w)), some (.int (nI 1)), none, none]) rfl (fun d' hd' => ?_)
  refine am_run 6 (pc' := 6) (ls' := [some (.ref 0), some (.int (nI (60 * j + i))), some (.int (nI w)), some (.int (nI 1)), none, none]) (st' := [.int (nI 2 * nI 1), .int (nI w), .int (nI (60 * j + i)), .ref 0]) (σ' := σ) rfl ?_
  refine am_top (v' := nI 2) (am_nmul _ _) ?_
  refine am_invv (y := 201) (b := 0) (as := [.int (nI (60 * j + i)), .int (nI w), .int (nI 2)]) (rest := []) rfl rfl rfl rfl rfl rfl rfl (Nat.le_of_ble_eq_true rfl) ?_
  refine c_m_newWay2 (by omega) hB hi hw3 hE hg1 hv (fun h hh hlt => ?_)
  show am_G _ M_X10_didNew _ 9 [some (.ref 0), some (.int (nI (60 * j + i))), some (.int (nI w)), some (.int (nI 1)), none, none] [.int (nI h)] σ
  refine am_run 5 (pc' := 17) (ls' := [some (.ref 0), some (.int (nI (60 * j + i))), some (.int (nI w)), some (.int (nI 1)), some (.int (nI h)), none]) (st' := [.int (nI (60 * j + i)), .ref 7, .ref 0]) (σ' := σ) rfl ?_
  refine am_ialdN (n := 180) (v := oI (p 2 i)) rfl rfl rfl (by omega) m2 (by decide) ?_
  refine am_run 5 (pc' := 26) (ls' := [some (.ref 0), some (.int (nI (60 * j + i))), some (.int (nI w)), some (.int (nI 1)), some (.int (nI h)), none]) (st' := [.int (nI (60 * j + i)), .ref 10, .int (nI h), .int (nI w), .int (oI (p 2 i)), .ref 0]) (σ' := σ) rfl ?_
  refine am_ialdN (n := 180) (v := nI (dp i)) rfl rfl rfl (by omega) m5 (by decide) ?_
  refine am_invs (y := 193) (as := [.int (nI (dp i))]) (rest := [.int (nI h), .int (nI w), .int (oI (p 2 i)), .ref 0]) rfl rfl rfl rfl rfl rfl (Nat.le_of_ble_eq_true rfl) ?_
  refine c_m_threeTo (by omega) (a := dp i) hdp ?_
  show am_G _ M_X10_didNew _ 30 [some (.ref 0), some (.int (nI (60 * j + i))), some (.int (nI w)), some (.int (nI 1)), some (.int (nI h)), none] [.int (nI (3 ^ dp i)), .int (nI h), .int (nI w), .int (oI (p 2 i)), .ref 0] σ
  refine am_run 1 (pc' := 31) (ls' := [some (.ref 0), some (.int (nI (60 * j + i))), some (.int (nI w)), some (.int (nI 1)), some (.int (nI h)), none]) (st' := [.int (nI h * nI (3 ^ dp i)), .int (nI w), .int (oI (p 2 i)), .ref 0]) (σ' := σ) rfl ?_
  refine am_top (v' := nI (h * (3 ^ dp i))) (am_nmul _ _) ?_
  refine am_run 1 (pc' := 32) (ls' := [some (.ref 0), some (.int (nI (60 * j + i))), some (.int (nI w)), some (.int (nI 1)), some (.int (nI h)), none]) (st' := [.int (nI w + nI (h * (3 ^ dp i))), .int (oI (p 2 i)), .ref 0]) (σ' := σ) rfl ?_
  refine am_top (v' := nI (w + (h * (3 ^ dp i)))) (nI_add _ _) ?_
  refine am_run 1 (pc' := 33) (ls' := [some (.ref 0), some (.int (nI (60 * j + i))), some (.int (nI w)), some (.int (nI 1)), some (.int (nI h)), none]) (st' := [.int (nI 1), .int (nI (w + (h * (3 ^ dp i)))), .int (oI (p 2 i)), .ref 0]) (σ' := σ) rfl ?_
  refine am_invv (y := 219) (b := 0) (as := [.int (oI (p 2 i)), .int (nI (w + (h * (3 ^ dp i)))), .int (nI 1)]) (rest := []) rfl rfl rfl rfl rfl rfl rfl (Nat.le_of_ble_eq_true rfl) ?_
  refine c_m_did (by omega) hW.1 w2 (wy hdp2 hw3 hlt) (by decide) hz0 (hk h hlt) (fun v okv ev => ?_)
  obtain ⟨v1, v2, v3⟩ := id okv
  show am_G _ M_X10_didNew _ 36 [some (.ref 0), some (.int (nI (60 * j + i))), some (.int (nI w)), some (.int (nI 1)), some (.int (nI h)), none] [.int (nI (eD v))] σ
  refine am_run 2 (pc' := 40) (ls' := [some (.ref 0), some (.int (nI (60 * j + i))), some (.int (nI w)), some (.int (nI 1)), some (.int (nI h)), some (.int (nI (eD v)))]) (st' := [.int (nI (eD v))]) (σ' := σ) rfl ?_
  refine am_invs (y := 216) (as := [.int (nI (eD v))]) (rest := []) rfl rfl rfl rfl rfl rfl (Nat.le_of_ble_eq_true rfl) ?_
  refine c_m_codeOf (by omega) (v := v) okv ?_
  show am_G _ M_X10_didNew _ 43 [some (.ref 0), some (.int (nI (60 * j + i))), some (.int (nI w)), some (.int (nI 1)), some (.int (nI h)), some (.int (nI (eD v)))] [.int (nI v.1)] σ
  refine am_run 1 (pc' := 45) (ls' := [some (.ref 0), some (.int (nI (60 * j + i))), some (.int (nI w)), some (.int (nI 1)), some (.int (nI h)), some (.int (nI (eD v)))]) (st' := [.int (nI h), .int (nI v.1)]) (σ' := σ) rfl ?_
  refine am_if (ty := 56) (tn := 48) rfl (by decide) rfl rfl (fun (h_1 : nI h = 0) => ?_) (fun (h_1 : ¬ (nI h = 0)) => ?_)
  · have h_1 : h = 0 := (am_n0 (by omega)).mp h_1
    refine am_run 3 (pc' := 63) (ls' := [some (.ref 0), some (.int (nI (60 * j + i))), some (.int (nI w)), some (.int (nI 1)), some (.int (nI h)), some (.int (nI (eD v)))]) (st' := [.int (nI (eD v)), .int (nI 1), .int (nI v.1)]) (σ' := σ) rfl ?_
    refine am_invs (y := 218) (as := [.int (nI (eD v))]) (rest := [.int (nI 1), .int (nI v.1)]) rfl rfl rfl rfl rfl rfl (Nat.le_of_ble_eq_true rfl) ?_
    refine c_m_restsOf (by omega) (v := v) okv ?_
    show am_G _ M_X10_didNew _ 66 [some (.ref 0), some (.int (nI (60 * j + i))), some (.int (nI w)), some (.int (nI 1)), some (.int (nI h)), some (.int (nI (eD v)))] [.int (nI v.2.2), .int (nI 1), .int (nI v.1)] σ
    refine am_invs (y := 215) (as := [.int (nI v.1), .int (nI 1), .int (nI v.2.2)]) (rest := []) rfl rfl rfl rfl rfl rfl (Nat.le_of_ble_eq_true rfl) ?_
    refine c_m_done1 (by omega) (c := v.1) (q := v.2.2) (by omega) (by first | omega | exact or_lt20 (by omega) (by omega)) ?_
    show am_G _ M_X10_didNew _ 69 [some (.ref 0), some (.int (nI (60 * j + i))), some (.int (nI w)), some (.int (nI 1)), some (.int (nI h)), some (.int (nI (eD v)))] [.int (nI (eD (dne v.1 true v.2.2)))] σ
    refine am_reti rfl rfl ?_
    have e : dne v.1 (decide (h = 0) || v.2.1) v.2.2 = (dne v.1 true v.2.2) := by simp [*]
    rw [← e]
    exact hq _ (ok3_dne _ v1 v2) (fun hs => ex_36 ht (by omega) hs okv hh ev)
  · have h_1 : ¬ (h = 0) := fun z => h_1 ((am_n0 (by omega)).mpr z)
    refine am_run 1 (pc' := 50) (ls' := [some (.ref 0), some (.int (nI (60 * j + i))), some (.int (nI w)), some (.int (nI 1)), some (.int (nI h)), some (.int (nI (eD v)))]) (st' := [.int (nI (eD v)), .int (nI v.1)]) (σ' := σ) rfl ?_
    refine am_invs (y := 217) (as := [.int (nI (eD v))]) (rest := [.int (nI v.1)]) rfl rfl rfl rfl rfl rfl (Nat.le_of_ble_eq_true rfl) ?_
    refine c_m_isBad (by omega) (v := v) okv (fun hz_2 => ?_) (fun hz_2 => ?_)
    · show am_G _ M_X10_didNew _ 53 [some (.ref 0), some (.int (nI (60 * j + i))), some (.int (nI w)), some (.int (nI 1)), some (.int (nI h)), some (.int (nI (eD v)))] [.int (nI 1), .int (nI v.1)] σ
      refine am_if (ty := 60) (tn := 56) rfl (by decide) rfl rfl (fun (h_3 : nI 1 = 0) => ?_) (fun (h_3 : ¬ (nI 1 = 0)) => ?_)
      · exact absurd h_3 (by decide)
      refine am_run 3 (pc' := 63) (ls' := [some (.ref 0), some (.int (nI (60 * j + i))), some (.int (nI w)), some (.int (nI 1)), some (.int (nI h)), some (.int (nI (eD v)))]) (st' := [.int (nI (eD v)), .int (nI 1), .int (nI v.1)]) (σ' := σ) rfl ?_
      refine am_invs (y := 218) (as := [.int (nI (eD v))]) (rest := [.int (nI 1), .int (nI v.1)]) rfl rfl rfl rfl rfl rfl (Nat.le_of_ble_eq_true rfl) ?_
      refine c_m_restsOf (by omega) (v := v) okv ?_
      show am_G _ M_X10_didNew _ 66 [some (.ref 0), some (.int (nI (60 * j + i))), some (.int (nI w)), some (.int (nI 1)), some (.int (nI h)), some (.int (nI (eD v)))] [.int (nI v.2.2), .int (nI 1), .int (nI v.1)] σ
      refine am_invs (y := 215) (as := [.int (nI v.1), .int (nI 1), .int (nI v.2.2)]) (rest := []) rfl rfl rfl rfl rfl rfl (Nat.le_of_ble_eq_true rfl) ?_
      refine c_m_done1 (by omega) (c := v.1) (q := v.2.2) (by omega) (by first | omega | exact or_lt20 (by omega) (by omega)) ?_
      show am_G _ M_X10_didNew _ 69 [some (.ref 0), some (.int (nI (60 * j + i))), some (.int (nI w)), some (.int (nI 1)), some (.int (nI h)), some (.int (nI (eD v)))] [.int (nI (eD (dne v.1 true v.2.2)))] σ
      refine am_reti rfl rfl ?_
      have e : dne v.1 (decide (h = 0) || v.2.1) v.2.2 = (dne v.1 true v.2.2) := by simp [*]
      rw [← e]
      exact hq _ (ok3_dne _ v1 v2) (fun hs => ex_36 ht (by omega) hs okv hh ev)
    · show am_G _ M_X10_didNew _ 53 [some (.ref 0), some (.int (nI (60 * j + i))), some (.int (nI w)), some (.int (nI 1)), some (.int (nI h)), some (.int (nI (eD v)))] [.int (nI 0), .int (nI v.1)] σ
      refine am_if (ty := 60) (tn := 56) rfl (by decide) rfl rfl (fun (h_4 : nI 0 = 0) => ?_) (fun (h_4 : ¬ (nI 0 = 0)) => ?_)
      rotate_left
      · exact absurd (by decide) h_4
      refine am_run 2 (pc' := 63) (ls' := [some (.ref 0), some (.int (nI (60 * j + i))), some (.int (nI w)), some (.int (nI 1)), some (.int (nI h)), some (.int (nI (eD v)))]) (st' := [.int (nI (eD v)), .int (nI 0), .int (nI v.1)]) (σ' := σ) rfl ?_
      refine am_invs (y := 218) (as := [.int (nI (eD v))]) (rest := [.int (nI 0), .int (nI v.1)]) rfl rfl rfl rfl rfl rfl (Nat.le_of_ble_eq_true rfl) ?_
      refine c_m_restsOf (by omega) (v := v) okv ?_
      show am_G _ M_X10_didNew _ 66 [some (.ref 0), some (.int (nI (60 * j + i))), some (.int (nI w)), some (.int (nI 1)), some (.int (nI h)), some (.int (nI (eD v)))] [.int (nI v.2.2), .int (nI 0), .int (nI v.1)] σ
      refine am_invs (y := 215) (as := [.int (nI v.1), .int (nI 0), .int (nI v.2.2)]) (rest := []) rfl rfl rfl rfl rfl rfl (Nat.le_of_ble_eq_true rfl) ?_
      refine c_m_done0 (by omega) (c := v.1) (q := v.2.2) (by omega) (by first | omega | exact or_lt20 (by omega) (by omega)) ?_
      show am_G _ M_X10_didNew _ 69 [some (.ref 0), some (.int (nI (60 * j + i))), some (.int (nI w)), some (.int (nI 1)), some (.int (nI h)), some (.int (nI (eD v)))] [.int (nI (eD (dne v.1 false v.2.2)))] σ
      refine am_reti rfl rfl ?_
      have e : dne v.1 (decide (h = 0) || v.2.1) v.2.2 = (dne v.1 false v.2.2) := by simp [*]
      rw [← e]
      exact hq _ (ok3_dne _ v1 v2) (fun hs => ex_36 ht (by omega) hs okv hh ev)
set_option maxRecDepth 10000 in
set_option maxHeartbeats 2000000 in
theorem c_m_didStart {d : Nat} (hd : 8 ≤ d) {σ : am_M} {j s P A n : Nat} {p : Pg} {dp : Nat → Nat} {ow : Nat → Nat → Nat} (hB : MB σ j s P A p n dp ow) {i w : Nat} {E : Nat × Nat} (hi : i < n) (hw3 : w < 3 ^ dp i) (hE : evn (ow i) w P A (dp i) = E) (hz0 : σ.1 30 3240 = nI (eD (0, false, 0))) (RO : p 0 i = 46 ∨ p 0 i = 38 → ∃ ri, σ.1 12 (60 * j + i) = nI ri ∧ ri < 20 ∧ p 4 i = 2 ^ ri) (K2 : ¬ p 0 i = 36 → KE σ p (p 2 i) w 0 ST E) (K3 : ¬ p 0 i = 36 → KE σ p (p 3 i) w 0 ST E) (D36 : p 0 i = 36 → dp i ≤ 2) (T36 : p 0 i = 36 → KD σ p (p 2 i) w 0 ST true (up3 E (p 1 i - 1) 0)) (K36 : p 0 i = 36 → ∀ h, h < 3 → KE σ p (p 2 i) (w + h * 3 ^ dp i) 0 ST (up3 E (p 1 i - 1) h)) {Q : am_Q} (hq : ∀ v, ok3 v → (SE E → tE v = exB p (ex p 61) (an p 61) i ST E.1) → Q (some (.int (nI (eD v)))) σ) : am_C d 225 [.ref 0, .int (nI (60 * j + i)), .int (nI w)] σ Q := by
  obtain ⟨hj, hS, hW, hs, hN, hdj, hP, hA⟩ := id hB
  obtain ⟨hS1, hS2, hS3, hS4⟩ := id hS
  obtain ⟨⟨m0, m1, m2, m3, m4, m5, m6⟩, hdp, how⟩ := hN i hi
  obtain ⟨w0, w1, w2, w3, w4, w5, w6⟩ := hW.2 i hi
  have hn60 := hW.1
  have hw := wy0 hdp hw3
  refine am_enter' (M := M_X10_didStart) rfl rfl rfl (by omega) (ls := [some (.ref 0), some (.int (nI (60 * j + i))), some (.int (nI w))]) rfl (fun d' hd' => ?_)
  refine am_run 3 (pc' := 5) (ls' := [some (.ref 0), some (.int (nI (60 * j + i))), some (.int (nI w))]) (st' := [.int (nI (60 * j + i)), .ref 5]) (σ' := σ) rfl ?_
  refine am_ialdN (n := 180) (v := nI (p 0 i)) rfl rfl rfl (by omega) m0 (by decide) ?_
  refine am_lsw rfl rfl (L := [(36, 241), (38, 98), (42, 228), (46, 98), (59, 156), (63, 118), (64, 228), (94, 212), (120, 104), (124, 184), (126, 228)]) rfl ?_
  refine am_sw1 (k := nI 36) (tgt := 247) rfl (by decide) (by decide) rfl (fun (h_1 : nI (p 0 i) = nI 36) => ?_) (fun (h_1 : ¬ (nI (p 0 i) = nI 36)) => ?_)
  · have h_1 : p 0 i = 36 := (nI_eq (by omega) (by omega)).mp h_1
    have hg1 : 1 ≤ p 1 i := w5 (by rw [h_1]; decide)
    refine am_run 4 (pc' := 251) (ls' := [some (.ref 0), some (.int (nI (60 * j + i))), some (.int (nI w))]) (st' := [.int (nI 0), .int (nI w), .int (nI (60 * j + i)), .ref 0]) (σ' := σ) rfl ?_
    refine am_invv (y := 223) (b := 0) (as := [.int (nI (60 * j + i)), .int (nI w), .int (nI 0)]) (rest := []) rfl rfl rfl rfl rfl rfl rfl (Nat.le_of_ble_eq_true rfl) ?_
    refine c_m_didNew0 (by omega) hB hi hw3 hE hz0 (by first | exact h_1 | omega) (D36 (by omega)) (T36 (by omega)) (K36 (by omega)) (fun r9 ok9 ev9 => ?_)
    show am_G _ M_X10_didStart _ 254 [some (.ref 0), some (.int (nI (60 * j + i))), some (.int (nI w))] [.int (nI (eD r9))] σ
    refine am_reti rfl rfl ?_
    exact hq r9 ok9 ev9
  have h_1 : ¬ (p 0 i = 36) := fun z => h_1 ((nI_eq (by omega) (by omega)).mpr z)
  refine am_sw1 (k := nI 38) (tgt := 104) rfl (by decide) (by decide) rfl (fun (h_2 : nI (p 0 i) = nI 38) => ?_) (fun (h_2 : ¬ (nI (p 0 i) = nI 38)) => ?_)
  · have h_2 : p 0 i = 38 := (nI_eq (by omega) (by omega)).mp h_2
    have hg1 : 1 ≤ p 1 i := w5 (by rw [h_2]; decide)
    refine am_run 2 (pc' := 106) (ls' := [some (.ref 0), some (.int (nI (60 * j + i))), some (.int (nI w))]) (st' := [.int (nI (60 * j + i)), .ref 0]) (σ' := σ) rfl ?_
    refine am_invv (y := 224) (b := 0) (as := [.int (nI (60 * j + i))]) (rest := []) rfl rfl rfl rfl rfl rfl rfl (Nat.le_of_ble_eq_true rfl) ?_
    refine c_m_rests (by omega) hB hi RO (by omega) ?_
    show am_G _ M_X10_didStart _ 109 [some (.ref 0), some (.int (nI (60 * j + i))), some (.int (nI w))] [.int (nI (eD (dne 1 false (p 4 i))))] σ
    refine am_reti rfl rfl ?_
    refine hq (dne 1 false (p 4 i)) (ok3_dne _ (by omega) (by omega)) (fun hse => ?_)
    rw [exB_38s h_2]
    rfl
  have h_2 : ¬ (p 0 i = 38) := fun z => h_2 ((nI_eq (by omega) (by omega)).mpr z)
  refine am_sw1 (k := nI 42) (tgt := 234) rfl (by decide) (by decide) rfl (fun (h_3 : nI (p 0 i) = nI 42) => ?_) (fun (h_3 : ¬ (nI (p 0 i) = nI 42)) => ?_)
  · have h_3 : p 0 i = 42 := (nI_eq (by omega) (by omega)).mp h_3
    refine am_run 4 (pc' := 240) (ls' := [some (.ref 0), some (.int (nI (60 * j + i))), some (.int (nI w))]) (st' := [.int (nI (60 * j + i)), .ref 7, .ref 0]) (σ' := σ) rfl ?_
    refine am_ialdN (n := 180) (v := oI (p 2 i)) rfl rfl rfl (by omega) m2 (by decide) ?_
    refine am_run 2 (pc' := 243) (ls' := [some (.ref 0), some (.int (nI (60 * j + i))), some (.int (nI w))]) (st' := [.int (nI 0), .int (nI w), .int (oI (p 2 i)), .ref 0]) (σ' := σ) rfl ?_
    refine am_invv (y := 219) (b := 0) (as := [.int (oI (p 2 i)), .int (nI w), .int (nI 0)]) (rest := []) rfl rfl rfl rfl rfl rfl rfl (Nat.le_of_ble_eq_true rfl) ?_
    refine c_m_did (by omega) hW.1 w2 hw (by decide) hz0 (K2 (by omega)) (fun r4 ok4 ev4 => ?_)
    obtain ⟨x4a, x4b, x4c⟩ := id ok4
    show am_G _ M_X10_didStart _ 246 [some (.ref 0), some (.int (nI (60 * j + i))), some (.int (nI w))] [.int (nI (eD r4))] σ
    refine am_reti rfl rfl ?_
    refine hq (r4) ok4 (fun hse => ?_)
    have e4 := ev4 hse
    rw [exB_42s h_3]
    exact e4
  have h_3 : ¬ (p 0 i = 42) := fun z => h_3 ((nI_eq (by omega) (by omega)).mpr z)
  refine am_sw1 (k := nI 46) (tgt := 104) rfl (by decide) (by decide) rfl (fun (h_5 : nI (p 0 i) = nI 46) => ?_) (fun (h_5 : ¬ (nI (p 0 i) = nI 46)) => ?_)
  · have h_5 : p 0 i = 46 := (nI_eq (by omega) (by omega)).mp h_5
    refine am_run 2 (pc' := 106) (ls' := [some (.ref 0), some (.int (nI (60 * j + i))), some (.int (nI w))]) (st' := [.int (nI (60 * j + i)), .ref 0]) (σ' := σ) rfl ?_
    refine am_invv (y := 224) (b := 0) (as := [.int (nI (60 * j + i))]) (rest := []) rfl rfl rfl rfl rfl rfl rfl (Nat.le_of_ble_eq_true rfl) ?_
    refine c_m_rests (by omega) hB hi RO (by omega) ?_
    show am_G _ M_X10_didStart _ 109 [some (.ref 0), some (.int (nI (60 * j + i))), some (.int (nI w))] [.int (nI (eD (dne 1 false (p 4 i))))] σ
    refine am_reti rfl rfl ?_
    refine hq (dne 1 false (p 4 i)) (ok3_dne _ (by omega) (by omega)) (fun hse => ?_)
    rw [exB_46s h_5]
    rfl
  have h_5 : ¬ (p 0 i = 46) := fun z => h_5 ((nI_eq (by omega) (by omega)).mpr z)
  refine am_sw1 (k := nI 59) (tgt := 162) rfl (by decide) (by decide) rfl (fun (h_6 : nI (p 0 i) = nI 59) => ?_) (fun (h_6 : ¬ (nI (p 0 i) = nI 59)) => ?_)
  · have h_6 : p 0 i = 59 := (nI_eq (by omega) (by omega)).mp h_6
    refine am_run 4 (pc' := 168) (ls' := [some (.ref 0), some (.int (nI (60 * j + i))), some (.int (nI w))]) (st' := [.int (nI (60 * j + i)), .ref 7, .ref 0]) (σ' := σ) rfl ?_
    refine am_ialdN (n := 180) (v := oI (p 2 i)) rfl rfl rfl (by omega) m2 (by decide) ?_
    refine am_run 2 (pc' := 171) (ls' := [some (.ref 0), some (.int (nI (60 * j + i))), some (.int (nI w))]) (st' := [.int (nI 0), .int (nI w), .int (oI (p 2 i)), .ref 0]) (σ' := σ) rfl ?_
    refine am_invv (y := 219) (b := 0) (as := [.int (oI (p 2 i)), .int (nI w), .int (nI 0)]) (rest := []) rfl rfl rfl rfl rfl rfl rfl (Nat.le_of_ble_eq_true rfl) ?_
    refine c_m_did (by omega) hW.1 w2 hw (by decide) hz0 (K2 (by omega)) (fun r7 ok7 ev7 => ?_)
    obtain ⟨x7a, x7b, x7c⟩ := id ok7
    show am_G _ M_X10_didStart _ 174 [some (.ref 0), some (.int (nI (60 * j + i))), some (.int (nI w))] [.int (nI (eD r7))] σ
    refine am_run 4 (pc' := 180) (ls' := [some (.ref 0), some (.int (nI (60 * j + i))), some (.int (nI w))]) (st' := [.int (nI (60 * j + i)), .ref 8, .ref 0, .int (nI (eD r7))]) (σ' := σ) rfl ?_
    refine am_ialdN (n := 180) (v := oI (p 3 i)) rfl rfl rfl (by omega) m3 (by decide) ?_
    refine am_run 2 (pc' := 183) (ls' := [some (.ref 0), some (.int (nI (60 * j + i))), some (.int (nI w))]) (st' := [.int (nI 0), .int (nI w), .int (oI (p 3 i)), .ref 0, .int (nI (eD r7))]) (σ' := σ) rfl ?_
    refine am_invv (y := 219) (b := 0) (as := [.int (oI (p 3 i)), .int (nI w), .int (nI 0)]) (rest := [.int (nI (eD r7))]) rfl rfl rfl rfl rfl rfl rfl (Nat.le_of_ble_eq_true rfl) ?_
    refine c_m_did (by omega) hW.1 w3 hw (by decide) hz0 (K3 (by omega)) (fun r8 ok8 ev8 => ?_)
    obtain ⟨x8a, x8b, x8c⟩ := id ok8
    show am_G _ M_X10_didStart _ 186 [some (.ref 0), some (.int (nI (60 * j + i))), some (.int (nI w))] [.int (nI (eD r8)), .int (nI (eD r7))] σ
    refine am_invs (y := 220) (as := [.int (nI (eD r7)), .int (nI (eD r8))]) (rest := []) rfl rfl rfl rfl rfl rfl (Nat.le_of_ble_eq_true rfl) ?_
    refine c_m_then (by omega) (a := r7) (b := r8) ok7 ok8 ?_
    show am_G _ M_X10_didStart _ 189 [some (.ref 0), some (.int (nI (60 * j + i))), some (.int (nI w))] [.int (nI (eD (d_then r7 r8)))] σ
    refine am_reti rfl rfl ?_
    refine hq (d_then r7 r8) (ok3_then ok7 ok8) (fun hse => ?_)
    have e7 := ev7 hse
    have e8 := ev8 hse
    rw [exB_59s h_6]
    rw [tE_then ok8, e7, e8]
  have h_6 : ¬ (p 0 i = 59) := fun z => h_6 ((nI_eq (by omega) (by omega)).mpr z)
  refine am_sw1 (k := nI 63) (tgt := 124) rfl (by decide) (by decide) rfl (fun (h_9 : nI (p 0 i) = nI 63) => ?_) (fun (h_9 : ¬ (nI (p 0 i) = nI 63)) => ?_)
  · have h_9 : p 0 i = 63 := (nI_eq (by omega) (by omega)).mp h_9
    have hg1 : 1 ≤ p 1 i := w5 (by rw [h_9]; decide)
    refine am_run 7 (pc' := 133) (ls' := [some (.ref 0), some (.int (nI (60 * j + i))), some (.int (nI w))]) (st' := [.int (nI (60 * j + i)), .ref 6, .int (nI w), .int (nI (60 * j + i)), .ref 0, .ref 0]) (σ' := σ) rfl ?_
    refine am_ialdN (n := 180) (v := oI (p 1 i)) rfl rfl rfl (by omega) m1 (by decide) ?_
    refine am_top (v' := nI (p 1 i - 1)) (oI_p (by omega)) ?_
    refine am_invv (y := 192) (b := 0) (as := [.int (nI (60 * j + i)), .int (nI w), .int (nI (p 1 i - 1))]) (rest := [.ref 0]) rfl rfl rfl rfl rfl rfl rfl (Nat.le_of_ble_eq_true rfl) ?_
    refine c_m_isAt3 (by omega) hB (g := p 1 i - 1) hi hw (by omega) hE (fun ha_10 hb_10 => ?_) (fun ha_10 hb_10 => ?_) (fun ha_10 hb_10 => ?_)
    · show am_G _ M_X10_didStart _ 137 [some (.ref 0), some (.int (nI (60 * j + i))), some (.int (nI w))] [.int (nI 1), .ref 0] σ
      refine am_run 1 (pc' := 138) (ls' := [some (.ref 0), some (.int (nI (60 * j + i))), some (.int (nI w))]) (st' := [.int (nI 1), .int (nI 1), .ref 0]) (σ' := σ) rfl ?_
      refine am_ic (ty := 141) (tn := 150) rfl (by decide) rfl rfl (fun (h_11 : nI 1 = nI 1) => ?_) (fun (h_11 : ¬ (nI 1 = nI 1)) => ?_)
      rotate_left
      · exact absurd (by decide) h_11
      refine am_run 3 (pc' := 146) (ls' := [some (.ref 0), some (.int (nI (60 * j + i))), some (.int (nI w))]) (st' := [.int (nI (60 * j + i)), .ref 7, .ref 0]) (σ' := σ) rfl ?_
      refine am_ialdN (n := 180) (v := oI (p 2 i)) rfl rfl rfl (by omega) m2 (by decide) ?_
      refine am_run 3 (pc' := 158) (ls' := [some (.ref 0), some (.int (nI (60 * j + i))), some (.int (nI w))]) (st' := [.int (nI 0), .int (nI w), .int (oI (p 2 i)), .ref 0]) (σ' := σ) rfl ?_
      refine am_invv (y := 219) (b := 0) (as := [.int (oI (p 2 i)), .int (nI w), .int (nI 0)]) (rest := []) rfl rfl rfl rfl rfl rfl rfl (Nat.le_of_ble_eq_true rfl) ?_
      refine c_m_did (by omega) hW.1 w2 hw (by decide) hz0 (K2 (by omega)) (fun r12 ok12 ev12 => ?_)
      obtain ⟨x12a, x12b, x12c⟩ := id ok12
      show am_G _ M_X10_didStart _ 161 [some (.ref 0), some (.int (nI (60 * j + i))), some (.int (nI w))] [.int (nI (eD r12))] σ
      refine am_reti rfl rfl ?_
      refine hq (r12) ok12 (fun hse => ?_)
      have e12 := ev12 hse
      rw [exB_63s h_9]
      first | rw [if_pos (by assumption)] | rw [if_neg (nfl (by assumption))] | rw [if_neg (ntr (by assumption))]
      exact e12
    · show am_G _ M_X10_didStart _ 137 [some (.ref 0), some (.int (nI (60 * j + i))), some (.int (nI w))] [.int (nI 2), .ref 0] σ
      refine am_run 1 (pc' := 138) (ls' := [some (.ref 0), some (.int (nI (60 * j + i))), some (.int (nI w))]) (st' := [.int (nI 1), .int (nI 2), .ref 0]) (σ' := σ) rfl ?_
      refine am_ic (ty := 141) (tn := 150) rfl (by decide) rfl rfl (fun (h_13 : nI 2 = nI 1) => ?_) (fun (h_13 : ¬ (nI 2 = nI 1)) => ?_)
      · exact absurd h_13 (by decide)
      refine am_run 3 (pc' := 155) (ls' := [some (.ref 0), some (.int (nI (60 * j + i))), some (.int (nI w))]) (st' := [.int (nI (60 * j + i)), .ref 8, .ref 0]) (σ' := σ) rfl ?_
      refine am_ialdN (n := 180) (v := oI (p 3 i)) rfl rfl rfl (by omega) m3 (by decide) ?_
      refine am_run 2 (pc' := 158) (ls' := [some (.ref 0), some (.int (nI (60 * j + i))), some (.int (nI w))]) (st' := [.int (nI 0), .int (nI w), .int (oI (p 3 i)), .ref 0]) (σ' := σ) rfl ?_
      refine am_invv (y := 219) (b := 0) (as := [.int (oI (p 3 i)), .int (nI w), .int (nI 0)]) (rest := []) rfl rfl rfl rfl rfl rfl rfl (Nat.le_of_ble_eq_true rfl) ?_
      refine c_m_did (by omega) hW.1 w3 hw (by decide) hz0 (K3 (by omega)) (fun r14 ok14 ev14 => ?_)
      obtain ⟨x14a, x14b, x14c⟩ := id ok14
      show am_G _ M_X10_didStart _ 161 [some (.ref 0), some (.int (nI (60 * j + i))), some (.int (nI w))] [.int (nI (eD r14))] σ
      refine am_reti rfl rfl ?_
      refine hq (r14) ok14 (fun hse => ?_)
      have e14 := ev14 hse
      rw [exB_63s h_9]
      first | rw [if_pos (by assumption)] | rw [if_neg (nfl (by assumption))] | rw [if_neg (ntr (by assumption))]
      exact e14
    · show am_G _ M_X10_didStart _ 137 [some (.ref 0), some (.int (nI (60 * j + i))), some (.int (nI w))] [.int (nI 0), .ref 0] σ
      refine am_run 1 (pc' := 138) (ls' := [some (.ref 0), some (.int (nI (60 * j + i))), some (.int (nI w))]) (st' := [.int (nI 1), .int (nI 0), .ref 0]) (σ' := σ) rfl ?_
      refine am_ic (ty := 141) (tn := 150) rfl (by decide) rfl rfl (fun (h_15 : nI 0 = nI 1) => ?_) (fun (h_15 : ¬ (nI 0 = nI 1)) => ?_)
      · exact absurd h_15 (by decide)
      refine am_run 3 (pc' := 155) (ls' := [some (.ref 0), some (.int (nI (60 * j + i))), some (.int (nI w))]) (st' := [.int (nI (60 * j + i)), .ref 8, .ref 0]) (σ' := σ) rfl ?_
      refine am_ialdN (n := 180) (v := oI (p 3 i)) rfl rfl rfl (by omega) m3 (by decide) ?_
      refine am_run 2 (pc' := 158) (ls' := [some (.ref 0), some (.int (nI (60 * j + i))), some (.int (nI w))]) (st' := [.int (nI 0), .int (nI w), .int (oI (p 3 i)), .ref 0]) (σ' := σ) rfl ?_
      refine am_invv (y := 219) (b := 0) (as := [.int (oI (p 3 i)), .int (nI w), .int (nI 0)]) (rest := []) rfl rfl rfl rfl rfl rfl rfl (Nat.le_of_ble_eq_true rfl) ?_
      refine c_m_did (by omega) hW.1 w3 hw (by decide) hz0 (K3 (by omega)) (fun r16 ok16 ev16 => ?_)
      obtain ⟨x16a, x16b, x16c⟩ := id ok16
      show am_G _ M_X10_didStart _ 161 [some (.ref 0), some (.int (nI (60 * j + i))), some (.int (nI w))] [.int (nI (eD r16))] σ
      refine am_reti rfl rfl ?_
      refine hq (r16) ok16 (fun hse => ?_)
      have e16 := ev16 hse
      rw [exB_63s h_9]
      first | rw [if_pos (by assumption)] | rw [if_neg (nfl (by assumption))] | rw [if_neg (ntr (by assumption))]
      exact e16
  have h_9 : ¬ (p 0 i = 63) := fun z => h_9 ((nI_eq (by omega) (by omega)).mpr z)
  refine am_sw1 (k := nI 64) (tgt := 234) rfl (by decide) (by decide) rfl (fun (h_17 : nI (p 0 i) = nI 64) => ?_) (fun (h_17 : ¬ (nI (p 0 i) = nI 64)) => ?_)
  · have h_17 : p 0 i = 64 := (nI_eq (by omega) (by omega)).mp h_17
    have hg1 : 1 ≤ p 1 i := w5 (by rw [h_17]; decide)
    refine am_run 4 (pc' := 240) (ls' := [some (.ref 0), some (.int (nI (60 * j + i))), some (.int (nI w))]) (st' := [.int (nI (60 * j + i)), .ref 7, .ref 0]) (σ' := σ) rfl ?_
    refine am_ialdN (n := 180) (v := oI (p 2 i)) rfl rfl rfl (by omega) m2 (by decide) ?_
    refine am_run 2 (pc' := 243) (ls' := [some (.ref 0), some (.int (nI (60 * j + i))), some (.int (nI w))]) (st' := [.int (nI 0), .int (nI w), .int (oI (p 2 i)), .ref 0]) (σ' := σ) rfl ?_
    refine am_invv (y := 219) (b := 0) (as := [.int (oI (p 2 i)), .int (nI w), .int (nI 0)]) (rest := []) rfl rfl rfl rfl rfl rfl rfl (Nat.le_of_ble_eq_true rfl) ?_
    refine c_m_did (by omega) hW.1 w2 hw (by decide) hz0 (K2 (by omega)) (fun r18 ok18 ev18 => ?_)
    obtain ⟨x18a, x18b, x18c⟩ := id ok18
    show am_G _ M_X10_didStart _ 246 [some (.ref 0), some (.int (nI (60 * j + i))), some (.int (nI w))] [.int (nI (eD r18))] σ
    refine am_reti rfl rfl ?_
    refine hq (r18) ok18 (fun hse => ?_)
    have e18 := ev18 hse
    rw [exB_64s h_17]
    exact e18
  have h_17 : ¬ (p 0 i = 64) := fun z => h_17 ((nI_eq (by omega) (by omega)).mpr z)
  refine am_sw1 (k := nI 94) (tgt := 218) rfl (by decide) (by decide) rfl (fun (h_19 : nI (p 0 i) = nI 94) => ?_) (fun (h_19 : ¬ (nI (p 0 i) = nI 94)) => ?_)
  · have h_19 : p 0 i = 94 := (nI_eq (by omega) (by omega)).mp h_19
    refine am_run 4 (pc' := 224) (ls' := [some (.ref 0), some (.int (nI (60 * j + i))), some (.int (nI w))]) (st' := [.int (nI (60 * j + i)), .ref 7, .ref 0]) (σ' := σ) rfl ?_
    refine am_ialdN (n := 180) (v := oI (p 2 i)) rfl rfl rfl (by omega) m2 (by decide) ?_
    refine am_run 2 (pc' := 227) (ls' := [some (.ref 0), some (.int (nI (60 * j + i))), some (.int (nI w))]) (st' := [.int (nI 0), .int (nI w), .int (oI (p 2 i)), .ref 0]) (σ' := σ) rfl ?_
    refine am_invv (y := 219) (b := 0) (as := [.int (oI (p 2 i)), .int (nI w), .int (nI 0)]) (rest := []) rfl rfl rfl rfl rfl rfl rfl (Nat.le_of_ble_eq_true rfl) ?_
    refine c_m_did (by omega) hW.1 w2 hw (by decide) hz0 (K2 (by omega)) (fun r20 ok20 ev20 => ?_)
    obtain ⟨x20a, x20b, x20c⟩ := id ok20
    show am_G _ M_X10_didStart _ 230 [some (.ref 0), some (.int (nI (60 * j + i))), some (.int (nI w))] [.int (nI (eD r20))] σ
    refine am_invs (y := 222) (as := [.int (nI (eD r20))]) (rest := []) rfl rfl rfl rfl rfl rfl (Nat.le_of_ble_eq_true rfl) ?_
    refine c_m_leftTrap (by omega) (a := r20) ok20 ?_
    show am_G _ M_X10_didStart _ 233 [some (.ref 0), some (.int (nI (60 * j + i))), some (.int (nI w))] [.int (nI (eD (d_trap r20)))] σ
    refine am_reti rfl rfl ?_
    refine hq (d_trap r20) (ok3_trap ok20) (fun hse => ?_)
    have e20 := ev20 hse
    rw [exB_94 h_19]
    rw [tE_trap ok20, e20]
  have h_19 : ¬ (p 0 i = 94) := fun z => h_19 ((nI_eq (by omega) (by omega)).mpr z)
  refine am_sw1 (k := nI 120) (tgt := 110) rfl (by decide) (by decide) rfl (fun (h_21 : nI (p 0 i) = nI 120) => ?_) (fun (h_21 : ¬ (nI (p 0 i) = nI 120)) => ?_)
  · have h_21 : p 0 i = 120 := (nI_eq (by omega) (by omega)).mp h_21
    have hg1 := w6 h_21
    refine am_run 4 (pc' := 116) (ls' := [some (.ref 0), some (.int (nI (60 * j + i))), some (.int (nI w))]) (st' := [.int (nI (60 * j + i)), .ref 6, .int (nI 2)]) (σ' := σ) rfl ?_
    refine am_ialdN (n := 180) (v := oI (p 1 i)) rfl rfl rfl (by omega) m1 (by decide) ?_
    refine am_top (v' := nI (p 1 i - 1)) (oI_p (by omega)) ?_
    refine am_run 1 (pc' := 118) (ls' := [some (.ref 0), some (.int (nI (60 * j + i))), some (.int (nI w))]) (st' := [.int (nI 2 + nI (p 1 i - 1))]) (σ' := σ) rfl ?_
    refine am_top (v' := nI (2 + (p 1 i - 1))) (nI_add _ _) ?_
    refine am_run 2 (pc' := 120) (ls' := [some (.ref 0), some (.int (nI (60 * j + i))), some (.int (nI w))]) (st' := [.int (nI 0), .int (nI 0), .int (nI (2 + (p 1 i - 1)))]) (σ' := σ) rfl ?_
    refine am_invs (y := 215) (as := [.int (nI (2 + (p 1 i - 1))), .int (nI 0), .int (nI 0)]) (rest := []) rfl rfl rfl rfl rfl rfl (Nat.le_of_ble_eq_true rfl) ?_
    refine c_m_done0 (by omega) (c := 2 + (p 1 i - 1)) (q := 0) (by omega) (by first | omega | exact or_lt20 (by omega) (by omega)) ?_
    show am_G _ M_X10_didStart _ 123 [some (.ref 0), some (.int (nI (60 * j + i))), some (.int (nI w))] [.int (nI (eD (dne (2 + (p 1 i - 1)) false 0)))] σ
    refine am_reti rfl rfl ?_
    refine hq (dne (2 + (p 1 i - 1)) false 0) (ok3_dne _ (by omega) (by omega)) (fun hse => ?_)
    rw [exB_120 h_21]
    simp only [tE, dne, ite_self, Bool.false_eq_true, if_false]
  have h_21 : ¬ (p 0 i = 120) := fun z => h_21 ((nI_eq (by omega) (by omega)).mpr z)
  refine am_sw1 (k := nI 124) (tgt := 190) rfl (by decide) (by decide) rfl (fun (h_22 : nI (p 0 i) = nI 124) => ?_) (fun (h_22 : ¬ (nI (p 0 i) = nI 124)) => ?_)
  · have h_22 : p 0 i = 124 := (nI_eq (by omega) (by omega)).mp h_22
    refine am_run 4 (pc' := 196) (ls' := [some (.ref 0), some (.int (nI (60 * j + i))), some (.int (nI w))]) (st' := [.int (nI (60 * j + i)), .ref 7, .ref 0]) (σ' := σ) rfl ?_
    refine am_ialdN (n := 180) (v := oI (p 2 i)) rfl rfl rfl (by omega) m2 (by decide) ?_
    refine am_run 2 (pc' := 199) (ls' := [some (.ref 0), some (.int (nI (60 * j + i))), some (.int (nI w))]) (st' := [.int (nI 0), .int (nI w), .int (oI (p 2 i)), .ref 0]) (σ' := σ) rfl ?_
    refine am_invv (y := 219) (b := 0) (as := [.int (oI (p 2 i)), .int (nI w), .int (nI 0)]) (rest := []) rfl rfl rfl rfl rfl rfl rfl (Nat.le_of_ble_eq_true rfl) ?_
    refine c_m_did (by omega) hW.1 w2 hw (by decide) hz0 (K2 (by omega)) (fun r23 ok23 ev23 => ?_)
    obtain ⟨x23a, x23b, x23c⟩ := id ok23
    show am_G _ M_X10_didStart _ 202 [some (.ref 0), some (.int (nI (60 * j + i))), some (.int (nI w))] [.int (nI (eD r23))] σ
    refine am_run 4 (pc' := 208) (ls' := [some (.ref 0), some (.int (nI (60 * j + i))), some (.int (nI w))]) (st' := [.int (nI (60 * j + i)), .ref 8, .ref 0, .int (nI (eD r23))]) (σ' := σ) rfl ?_
    refine am_ialdN (n := 180) (v := oI (p 3 i)) rfl rfl rfl (by omega) m3 (by decide) ?_
    refine am_run 2 (pc' := 211) (ls' := [some (.ref 0), some (.int (nI (60 * j + i))), some (.int (nI w))]) (st' := [.int (nI 0), .int (nI w), .int (oI (p 3 i)), .ref 0, .int (nI (eD r23))]) (σ' := σ) rfl ?_
    refine am_invv (y := 219) (b := 0) (as := [.int (oI (p 3 i)), .int (nI w), .int (nI 0)]) (rest := [.int (nI (eD r23))]) rfl rfl rfl rfl rfl rfl rfl (Nat.le_of_ble_eq_true rfl) ?_
    refine c_m_did (by omega) hW.1 w3 hw (by decide) hz0 (K3 (by omega)) (fun r24 ok24 ev24 => ?_)
    obtain ⟨x24a, x24b, x24c⟩ := id ok24
    show am_G _ M_X10_didStart _ 214 [some (.ref 0), some (.int (nI (60 * j + i))), some (.int (nI w))] [.int (nI (eD r24)), .int (nI (eD r23))] σ
    refine am_invs (y := 221) (as := [.int (nI (eD r23)), .int (nI (eD r24))]) (rest := []) rfl rfl rfl rfl rfl rfl (Nat.le_of_ble_eq_true rfl) ?_
    refine c_m_together (by omega) (a := r23) (b := r24) ok23 ok24 ?_
    show am_G _ M_X10_didStart _ 217 [some (.ref 0), some (.int (nI (60 * j + i))), some (.int (nI w))] [.int (nI (eD (d_par r23 r24)))] σ
    refine am_reti rfl rfl ?_
    refine hq (d_par r23 r24) (ok3_par ok23 ok24) (fun hse => ?_)
    have e23 := ev23 hse
    have e24 := ev24 hse
    rw [exB_124s h_22]
    rw [tE_par, e23, e24]
  have h_22 : ¬ (p 0 i = 124) := fun z => h_22 ((nI_eq (by omega) (by omega)).mpr z)
  refine am_sw1 (k := nI 126) (tgt := 234) rfl (by decide) (by decide) rfl (fun (h_25 : nI (p 0 i) = nI 126) => ?_) (fun (h_25 : ¬ (nI (p 0 i) = nI 126)) => ?_)
  · have h_25 : p 0 i = 126 := (nI_eq (by omega) (by omega)).mp h_25
    have hg1 : 1 ≤ p 1 i := w5 (by rw [h_25]; decide)
    refine am_run 4 (pc' := 240) (ls' := [some (.ref 0), some (.int (nI (60 * j + i))), some (.int (nI w))]) (st' := [.int (nI (60 * j + i)), .ref 7, .ref 0]) (σ' := σ) rfl ?_
    refine am_ialdN (n := 180) (v := oI (p 2 i)) rfl rfl rfl (by omega) m2 (by decide) ?_
    refine am_run 2 (pc' := 243) (ls' := [some (.ref 0), some (.int (nI (60 * j + i))), some (.int (nI w))]) (st' := [.int (nI 0), .int (nI w), .int (oI (p 2 i)), .ref 0]) (σ' := σ) rfl ?_
    refine am_invv (y := 219) (b := 0) (as := [.int (oI (p 2 i)), .int (nI w), .int (nI 0)]) (rest := []) rfl rfl rfl rfl rfl rfl rfl (Nat.le_of_ble_eq_true rfl) ?_
    refine c_m_did (by omega) hW.1 w2 hw (by decide) hz0 (K2 (by omega)) (fun r26 ok26 ev26 => ?_)
    obtain ⟨x26a, x26b, x26c⟩ := id ok26
    show am_G _ M_X10_didStart _ 246 [some (.ref 0), some (.int (nI (60 * j + i))), some (.int (nI w))] [.int (nI (eD r26))] σ
    refine am_reti rfl rfl ?_
    refine hq (r26) ok26 (fun hse => ?_)
    have e26 := ev26 hse
    rw [exB_126s h_25]
    exact e26
  have h_25 : ¬ (p 0 i = 126) := fun z => h_25 ((nI_eq (by omega) (by omega)).mpr z)
  refine am_sw0 (tgt := 255) (by decide) rfl ?_
  refine am_run 3 (pc' := 258) (ls' := [some (.ref 0), some (.int (nI (60 * j + i))), some (.int (nI w))]) (st' := [.int (nI 0), .int (nI 0), .int (nI 0)]) (σ' := σ) rfl ?_
  refine am_invs (y := 215) (as := [.int (nI 0), .int (nI 0), .int (nI 0)]) (rest := []) rfl rfl rfl rfl rfl rfl (Nat.le_of_ble_eq_true rfl) ?_
  refine c_m_done0 (by omega) (c := 0) (q := 0) (by omega) (by first | omega | exact or_lt20 (by omega) (by omega)) ?_
  show am_G _ M_X10_didStart _ 261 [some (.ref 0), some (.int (nI (60 * j + i))), some (.int (nI w))] [.int (nI (eD (dne 0 false 0)))] σ
  refine am_reti rfl rfl ?_
  refine hq (dne 0 false 0) (ok3_dne _ (by omega) (by omega)) (fun hse => ?_)
  rw [exB_z (by omega) (by omega) (by omega) (by omega) (by omega) (by omega) (by omega) (by omega) (by omega) (by omega) (by omega)]
  rfl
set_option maxRecDepth 10000 in
set_option maxHeartbeats 2000000 in
theorem c_m_didOn_mid0 {d : Nat} (hd : 7 ≤ d) {σ : am_M} {j s P A n : Nat} {p : Pg} {dp : Nat → Nat} {ow : Nat → Nat → Nat} (hB : MB σ j s P A p n dp ow) {i w : Nat} {E : Nat × Nat} (hi : i < n) (hw3 : w < 3 ^ dp i) (hE : evn (ow i) w P A (dp i) = E) (hz0 : σ.1 30 3240 = nI (eD (0, false, 0))) (RO : p 0 i = 46 ∨ p 0 i = 38 → ∃ ri, σ.1 12 (60 * j + i) = nI ri ∧ ri < 20 ∧ p 4 i = 2 ^ ri) (hth : 1 ≤ p 1 i → E.1.testBit (p 1 i - 1) = false) (hs1 : ¬ s = ST) (T0 : p 0 i = 36 ∨ p 0 i = 38 ∨ p 0 i = 42 ∨ p 0 i = 46 ∨ p 0 i = 59 ∨ p 0 i = 63 ∨ p 0 i = 64 ∨ p 0 i = 94 ∨ p 0 i = 124 ∨ p 0 i = 126) (K2 : ¬ p 0 i = 36 → KE σ p (p 2 i) w 0 ST E) (K3 : ¬ p 0 i = 36 → KE σ p (p 3 i) w 0 ST E) (L2 : ¬ p 0 i = 36 → lv p (p 2 i) s = true → KE σ p (p 2 i) w 1 s E) (L3 : ¬ p 0 i = 36 → lv p (p 3 i) s = true → KE σ p (p 3 i) w 1 s E) (V2 : p 0 i = 42 ∨ p 0 i = 94 ∨ p 0 i = 64 ∨ p 0 i = 126 → lv p (p 2 i) s = true) (V3 : p 0 i = 63 ∨ p 0 i = 59 → lv p (p 2 i) s = false → lv p (p 3 i) s = true) (D36 : p 0 i = 36 → dp i ≤ 2) (T36 : p 0 i = 36 → KD σ p (p 2 i) w 2 s true (up3 E (p 1 i - 1) 0)) (K36 : p 0 i = 36 → ∀ h, h < 3 → KE σ p (p 2 i) (w + h * 3 ^ dp i) 1 s (up3 E (p 1 i - 1) h)) {Q : am_Q} (hq : ∀ v, ok3 v → (SE E → tE v = exB p (ex p 61) (an p 61) i s E.1) → Q (some (.int (nI (eD v)))) σ) : am_G d M_X10_didOn Q 32 [some (.ref 0), some (.int (nI (60 * j + i))), some (.int (nI w)), some (.int (nI 0)), none] [] σ := by
  obtain ⟨hj, hS, hW, hs, hN, hdj, hP, hA⟩ := id hB
  obtain ⟨hS1, hS2, hS3, hS4⟩ := id hS
  obtain ⟨⟨m0, m1, m2, m3, m4, m5, m6⟩, hdp, how⟩ := hN i hi
  obtain ⟨w0, w1, w2, w3, w4, w5, w6⟩ := hW.2 i hi
  have hn60 := hW.1
  have hw := wy0 hdp hw3
  refine am_run 3 (pc' := 37) (ls' := [some (.ref 0), some (.int (nI (60 * j + i))), some (.int (nI w)), some (.int (nI 0)), none]) (st' := [.int (nI (60 * j + i)), .ref 5]) (σ' := σ) rfl ?_
  refine am_ialdN (n := 180) (v := nI (p 0 i)) rfl rfl rfl (by omega) m0 (by decide) ?_
  refine am_lsw rfl rfl (L := [(36, 331), (38, 82), (42, 218), (59, 136), (63, 101), (64, 262), (94, 246), (124, 192), (126, 288)]) rfl ?_
  refine am_sw1 (k := nI 36) (tgt := 369) rfl (by decide) (by decide) rfl (fun (h_1 : nI (p 0 i) = nI 36) => ?_) (fun (h_1 : ¬ (nI (p 0 i) = nI 36)) => ?_)
  · have h_1 : p 0 i = 36 := (nI_eq (by omega) (by omega)).mp h_1
    have hg1 : 1 ≤ p 1 i := w5 (by rw [h_1]; decide)
    refine am_run 4 (pc' := 373) (ls' := [some (.ref 0), some (.int (nI (60 * j + i))), some (.int (nI w)), some (.int (nI 0)), none]) (st' := [.int (nI 1), .int (nI w), .int (nI (60 * j + i)), .ref 0]) (σ' := σ) rfl ?_
    refine am_invv (y := 223) (b := 0) (as := [.int (nI (60 * j + i)), .int (nI w), .int (nI 1)]) (rest := []) rfl rfl rfl rfl rfl rfl rfl (Nat.le_of_ble_eq_true rfl) ?_
    refine c_m_didNew1 (by omega) hB hi hw3 hE hz0 (by first | exact h_1 | omega) (D36 (by omega)) (T36 (by omega)) (K36 (by omega)) (fun r9 ok9 ev9 => ?_)
    show am_G _ M_X10_didOn _ 376 [some (.ref 0), some (.int (nI (60 * j + i))), some (.int (nI w)), some (.int (nI 0)), none] [.int (nI (eD r9))] σ
    refine am_reti rfl rfl ?_
    exact hq r9 ok9 ev9
  have h_1 : ¬ (p 0 i = 36) := fun z => h_1 ((nI_eq (by omega) (by omega)).mpr z)
  refine am_sw1 (k := nI 38) (tgt := 120) rfl (by decide) (by decide) rfl (fun (h_2 : nI (p 0 i) = nI 38) => ?_) (fun (h_2 : ¬ (nI (p 0 i) = nI 38)) => ?_)
  · have h_2 : p 0 i = 38 := (nI_eq (by omega) (by omega)).mp h_2
    have hg1 : 1 ≤ p 1 i := w5 (by rw [h_2]; decide)
    have hbt := hth hg1
    refine am_run 1 (pc' := 121) (ls' := [some (.ref 0), some (.int (nI (60 * j + i))), some (.int (nI w)), some (.int (nI 0)), none]) (st' := [.int (nI 0)]) (σ' := σ) rfl ?_
    refine am_if (ty := 133) (tn := 124) rfl (by decide) rfl rfl (fun (h_3 : nI 0 = 0) => ?_) (fun (h_3 : ¬ (nI 0 = 0)) => ?_)
    rotate_left
    · exact absurd (by decide) h_3
    refine am_run 2 (pc' := 135) (ls' := [some (.ref 0), some (.int (nI (60 * j + i))), some (.int (nI w)), some (.int (nI 0)), none]) (st' := [.int (nI (60 * j + i)), .ref 0]) (σ' := σ) rfl ?_
    refine am_invv (y := 224) (b := 0) (as := [.int (nI (60 * j + i))]) (rest := []) rfl rfl rfl rfl rfl rfl rfl (Nat.le_of_ble_eq_true rfl) ?_
    refine c_m_rests (by omega) hB hi RO (by omega) ?_
    show am_G _ M_X10_didOn _ 138 [some (.ref 0), some (.int (nI (60 * j + i))), some (.int (nI w)), some (.int (nI 0)), none] [.int (nI (eD (dne 1 false (p 4 i))))] σ
    refine am_reti rfl rfl ?_
    refine hq (dne 1 false (p 4 i)) (ok3_dne _ (by omega) (by omega)) (fun hse => ?_)
    rw [exB_38o h_2 hs1]
    first | rw [if_pos (by assumption)] | rw [if_neg (nfl (by assumption))] | rw [if_neg (ntr (by assumption))]
    rfl
  have h_2 : ¬ (p 0 i = 38) := fun z => h_2 ((nI_eq (by omega) (by omega)).mpr z)
  refine am_sw1 (k := nI 42) (tgt := 256) rfl (by decide) (by decide) rfl (fun (h_4 : nI (p 0 i) = nI 42) => ?_) (fun (h_4 : ¬ (nI (p 0 i) = nI 42)) => ?_)
  · have h_4 : p 0 i = 42 := (nI_eq (by omega) (by omega)).mp h_4
    refine am_run 4 (pc' := 262) (ls' := [some (.ref 0), some (.int (nI (60 * j + i))), some (.int (nI w)), some (.int (nI 0)), none]) (st' := [.int (nI (60 * j + i)), .ref 7, .ref 0]) (σ' := σ) rfl ?_
    refine am_ialdN (n := 180) (v := oI (p 2 i)) rfl rfl rfl (by omega) m2 (by decide) ?_
    refine am_run 2 (pc' := 265) (ls' := [some (.ref 0), some (.int (nI (60 * j + i))), some (.int (nI w)), some (.int (nI 0)), none]) (st' := [.int (nI 1), .int (nI w), .int (oI (p 2 i)), .ref 0]) (σ' := σ) rfl ?_
    refine am_invv (y := 219) (b := 0) (as := [.int (oI (p 2 i)), .int (nI w), .int (nI 1)]) (rest := []) rfl rfl rfl rfl rfl rfl rfl (Nat.le_of_ble_eq_true rfl) ?_
    refine c_m_did (by omega) hW.1 w2 hw (by decide) hz0 (L2 (by omega) (by first | assumption | exact V2 (by omega) | exact V3 (by omega) (by assumption))) (fun r5 ok5 ev5 => ?_)
    obtain ⟨x5a, x5b, x5c⟩ := id ok5
    show am_G _ M_X10_didOn _ 268 [some (.ref 0), some (.int (nI (60 * j + i))), some (.int (nI w)), some (.int (nI 0)), none] [.int (nI (eD r5))] σ
    refine am_run 4 (pc' := 274) (ls' := [some (.ref 0), some (.int (nI (60 * j + i))), some (.int (nI w)), some (.int (nI 0)), none]) (st' := [.int (nI (60 * j + i)), .ref 7, .ref 0, .int (nI (eD r5))]) (σ' := σ) rfl ?_
    refine am_ialdN (n := 180) (v := oI (p 2 i)) rfl rfl rfl (by omega) m2 (by decide) ?_
    refine am_run 2 (pc' := 277) (ls' := [some (.ref 0), some (.int (nI (60 * j + i))), some (.int (nI w)), some (.int (nI 0)), none]) (st' := [.int (nI 0), .int (nI w), .int (oI (p 2 i)), .ref 0, .int (nI (eD r5))]) (σ' := σ) rfl ?_
    refine am_invv (y := 219) (b := 0) (as := [.int (oI (p 2 i)), .int (nI w), .int (nI 0)]) (rest := [.int (nI (eD r5))]) rfl rfl rfl rfl rfl rfl rfl (Nat.le_of_ble_eq_true rfl) ?_
    refine c_m_did (by omega) hW.1 w2 hw (by decide) hz0 (K2 (by omega)) (fun r6 ok6 ev6 => ?_)
    obtain ⟨x6a, x6b, x6c⟩ := id ok6
    show am_G _ M_X10_didOn _ 280 [some (.ref 0), some (.int (nI (60 * j + i))), some (.int (nI w)), some (.int (nI 0)), none] [.int (nI (eD r6)), .int (nI (eD r5))] σ
    refine am_invs (y := 220) (as := [.int (nI (eD r5)), .int (nI (eD r6))]) (rest := []) rfl rfl rfl rfl rfl rfl (Nat.le_of_ble_eq_true rfl) ?_
    refine c_m_then (by omega) (a := r5) (b := r6) ok5 ok6 ?_
    show am_G _ M_X10_didOn _ 283 [some (.ref 0), some (.int (nI (60 * j + i))), some (.int (nI w)), some (.int (nI 0)), none] [.int (nI (eD (d_then r5 r6)))] σ
    refine am_reti rfl rfl ?_
    refine hq (d_then r5 r6) (ok3_then ok5 ok6) (fun hse => ?_)
    have e5 := ev5 hse
    have e6 := ev6 hse
    rw [exB_42o h_4 hs1]
    rw [tE_then ok6, e5, e6]
  have h_4 : ¬ (p 0 i = 42) := fun z => h_4 ((nI_eq (by omega) (by omega)).mpr z)
  refine am_sw1 (k := nI 59) (tgt := 174) rfl (by decide) (by decide) rfl (fun (h_7 : nI (p 0 i) = nI 59) => ?_) (fun (h_7 : ¬ (nI (p 0 i) = nI 59)) => ?_)
  · have h_7 : p 0 i = 59 := (nI_eq (by omega) (by omega)).mp h_7
    refine am_run 4 (pc' := 180) (ls' := [some (.ref 0), some (.int (nI (60 * j + i))), some (.int (nI w)), some (.int (nI 0)), none]) (st' := [.int (nI (60 * j + i)), .ref 7, .ref 0]) (σ' := σ) rfl ?_
    refine am_ialdN (n := 180) (v := oI (p 2 i)) rfl rfl rfl (by omega) m2 (by decide) ?_
    refine am_invv (y := 194) (b := 0) (as := [.int (oI (p 2 i))]) (rest := []) rfl rfl rfl rfl rfl rfl rfl (Nat.le_of_ble_eq_true rfl) ?_
    refine c_m_isLive (by omega) hB w2 (fun hl_8 => ?_) (fun hl_8 => ?_)
    · show am_G _ M_X10_didOn _ 184 [some (.ref 0), some (.int (nI (60 * j + i))), some (.int (nI w)), some (.int (nI 0)), none] [.int (nI 1)] σ
      refine am_if (ty := 217) (tn := 187) rfl (by decide) rfl rfl (fun (h_9 : nI 1 = 0) => ?_) (fun (h_9 : ¬ (nI 1 = 0)) => ?_)
      · exact absurd h_9 (by decide)
      refine am_run 4 (pc' := 193) (ls' := [some (.ref 0), some (.int (nI (60 * j + i))), some (.int (nI w)), some (.int (nI 0)), none]) (st' := [.int (nI (60 * j + i)), .ref 7, .ref 0]) (σ' := σ) rfl ?_
      refine am_ialdN (n := 180) (v := oI (p 2 i)) rfl rfl rfl (by omega) m2 (by decide) ?_
      refine am_run 2 (pc' := 196) (ls' := [some (.ref 0), some (.int (nI (60 * j + i))), some (.int (nI w)), some (.int (nI 0)), none]) (st' := [.int (nI 1), .int (nI w), .int (oI (p 2 i)), .ref 0]) (σ' := σ) rfl ?_
      refine am_invv (y := 219) (b := 0) (as := [.int (oI (p 2 i)), .int (nI w), .int (nI 1)]) (rest := []) rfl rfl rfl rfl rfl rfl rfl (Nat.le_of_ble_eq_true rfl) ?_
      refine c_m_did (by omega) hW.1 w2 hw (by decide) hz0 (L2 (by omega) (by first | assumption | exact V2 (by omega) | exact V3 (by omega) (by assumption))) (fun r10 ok10 ev10 => ?_)
      obtain ⟨x10a, x10b, x10c⟩ := id ok10
      show am_G _ M_X10_didOn _ 199 [some (.ref 0), some (.int (nI (60 * j + i))), some (.int (nI w)), some (.int (nI 0)), none] [.int (nI (eD r10))] σ
      refine am_run 4 (pc' := 205) (ls' := [some (.ref 0), some (.int (nI (60 * j + i))), some (.int (nI w)), some (.int (nI 0)), none]) (st' := [.int (nI (60 * j + i)), .ref 8, .ref 0, .int (nI (eD r10))]) (σ' := σ) rfl ?_
      refine am_ialdN (n := 180) (v := oI (p 3 i)) rfl rfl rfl (by omega) m3 (by decide) ?_
      refine am_run 2 (pc' := 208) (ls' := [some (.ref 0), some (.int (nI (60 * j + i))), some (.int (nI w)), some (.int (nI 0)), none]) (st' := [.int (nI 0), .int (nI w), .int (oI (p 3 i)), .ref 0, .int (nI (eD r10))]) (σ' := σ) rfl ?_
      refine am_invv (y := 219) (b := 0) (as := [.int (oI (p 3 i)), .int (nI w), .int (nI 0)]) (rest := [.int (nI (eD r10))]) rfl rfl rfl rfl rfl rfl rfl (Nat.le_of_ble_eq_true rfl) ?_
      refine c_m_did (by omega) hW.1 w3 hw (by decide) hz0 (K3 (by omega)) (fun r11 ok11 ev11 => ?_)
      obtain ⟨x11a, x11b, x11c⟩ := id ok11
      show am_G _ M_X10_didOn _ 211 [some (.ref 0), some (.int (nI (60 * j + i))), some (.int (nI w)), some (.int (nI 0)), none] [.int (nI (eD r11)), .int (nI (eD r10))] σ
      refine am_invs (y := 220) (as := [.int (nI (eD r10)), .int (nI (eD r11))]) (rest := []) rfl rfl rfl rfl rfl rfl (Nat.le_of_ble_eq_true rfl) ?_
      refine c_m_then (by omega) (a := r10) (b := r11) ok10 ok11 ?_
      show am_G _ M_X10_didOn _ 214 [some (.ref 0), some (.int (nI (60 * j + i))), some (.int (nI w)), some (.int (nI 0)), none] [.int (nI (eD (d_then r10 r11)))] σ
      refine am_run 1 (pc' := 229) (ls' := [some (.ref 0), some (.int (nI (60 * j + i))), some (.int (nI w)), some (.int (nI 0)), none]) (st' := [.int (nI (eD (d_then r10 r11)))]) (σ' := σ) rfl ?_
      refine am_reti rfl rfl ?_
      refine hq (d_then r10 r11) (ok3_then ok10 ok11) (fun hse => ?_)
      have e10 := ev10 hse
      have e11 := ev11 hse
      rw [exB_59o h_7 hs1]
      first | rw [if_pos (by assumption)] | rw [if_neg (nfl (by assumption))] | rw [if_neg (ntr (by assumption))]
      rw [tE_then ok11, e10, e11]
    · show am_G _ M_X10_didOn _ 184 [some (.ref 0), some (.int (nI (60 * j + i))), some (.int (nI w)), some (.int (nI 0)), none] [.int (nI 0)] σ
      refine am_if (ty := 217) (tn := 187) rfl (by decide) rfl rfl (fun (h_12 : nI 0 = 0) => ?_) (fun (h_12 : ¬ (nI 0 = 0)) => ?_)
      rotate_left
      · exact absurd (by decide) h_12
      refine am_run 4 (pc' := 223) (ls' := [some (.ref 0), some (.int (nI (60 * j + i))), some (.int (nI w)), some (.int (nI 0)), none]) (st' := [.int (nI (60 * j + i)), .ref 8, .ref 0]) (σ' := σ) rfl ?_
      refine am_ialdN (n := 180) (v := oI (p 3 i)) rfl rfl rfl (by omega) m3 (by decide) ?_
      refine am_run 2 (pc' := 226) (ls' := [some (.ref 0), some (.int (nI (60 * j + i))), some (.int (nI w)), some (.int (nI 0)), none]) (st' := [.int (nI 1), .int (nI w), .int (oI (p 3 i)), .ref 0]) (σ' := σ) rfl ?_
      refine am_invv (y := 219) (b := 0) (as := [.int (oI (p 3 i)), .int (nI w), .int (nI 1)]) (rest := []) rfl rfl rfl rfl rfl rfl rfl (Nat.le_of_ble_eq_true rfl) ?_
      refine c_m_did (by omega) hW.1 w3 hw (by decide) hz0 (L3 (by omega) (by first | assumption | exact V2 (by omega) | exact V3 (by omega) (by assumption))) (fun r13 ok13 ev13 => ?_)
      obtain ⟨x13a, x13b, x13c⟩ := id ok13
      show am_G _ M_X10_didOn _ 229 [some (.ref 0), some (.int (nI (60 * j + i))), some (.int (nI w)), some (.int (nI 0)), none] [.int (nI (eD r13))] σ
      refine am_reti rfl rfl ?_
      refine hq (r13) ok13 (fun hse => ?_)
      have e13 := ev13 hse
      rw [exB_59o h_7 hs1]
      first | rw [if_pos (by assumption)] | rw [if_neg (nfl (by assumption))] | rw [if_neg (ntr (by assumption))]
      exact e13
  have h_7 : ¬ (p 0 i = 59) := fun z => h_7 ((nI_eq (by omega) (by omega)).mpr z)
  refine am_sw1 (k := nI 63) (tgt := 139) rfl (by decide) (by decide) rfl (fun (h_14 : nI (p 0 i) = nI 63) => ?_) (fun (h_14 : ¬ (nI (p 0 i) = nI 63)) => ?_)
  · have h_14 : p 0 i = 63 := (nI_eq (by omega) (by omega)).mp h_14
    have hg1 : 1 ≤ p 1 i := w5 (by rw [h_14]; decide)
    refine am_run 5 (pc' := 146) (ls' := [some (.ref 0), some (.int (nI (60 * j + i))), some (.int (nI w)), some (.int (nI 0)), none]) (st' := [.int (nI (60 * j + i)), .ref 7, .ref 0, .ref 0]) (σ' := σ) rfl ?_
    refine am_ialdN (n := 180) (v := oI (p 2 i)) rfl rfl rfl (by omega) m2 (by decide) ?_
    refine am_invv (y := 194) (b := 0) (as := [.int (oI (p 2 i))]) (rest := [.ref 0]) rfl rfl rfl rfl rfl rfl rfl (Nat.le_of_ble_eq_true rfl) ?_
    refine c_m_isLive (by omega) hB w2 (fun hl_15 => ?_) (fun hl_15 => ?_)
    · show am_G _ M_X10_didOn _ 150 [some (.ref 0), some (.int (nI (60 * j + i))), some (.int (nI w)), some (.int (nI 0)), none] [.int (nI 1), .ref 0] σ
      refine am_if (ty := 162) (tn := 153) rfl (by decide) rfl rfl (fun (h_16 : nI 1 = 0) => ?_) (fun (h_16 : ¬ (nI 1 = 0)) => ?_)
      · exact absurd h_16 (by decide)
      refine am_run 3 (pc' := 158) (ls' := [some (.ref 0), some (.int (nI (60 * j + i))), some (.int (nI w)), some (.int (nI 0)), none]) (st' := [.int (nI (60 * j + i)), .ref 7, .ref 0]) (σ' := σ) rfl ?_
      refine am_ialdN (n := 180) (v := oI (p 2 i)) rfl rfl rfl (by omega) m2 (by decide) ?_
      refine am_run 3 (pc' := 170) (ls' := [some (.ref 0), some (.int (nI (60 * j + i))), some (.int (nI w)), some (.int (nI 0)), none]) (st' := [.int (nI 1), .int (nI w), .int (oI (p 2 i)), .ref 0]) (σ' := σ) rfl ?_
      refine am_invv (y := 219) (b := 0) (as := [.int (oI (p 2 i)), .int (nI w), .int (nI 1)]) (rest := []) rfl rfl rfl rfl rfl rfl rfl (Nat.le_of_ble_eq_true rfl) ?_
      refine c_m_did (by omega) hW.1 w2 hw (by decide) hz0 (L2 (by omega) (by first | assumption | exact V2 (by omega) | exact V3 (by omega) (by assumption))) (fun r17 ok17 ev17 => ?_)
      obtain ⟨x17a, x17b, x17c⟩ := id ok17
      show am_G _ M_X10_didOn _ 173 [some (.ref 0), some (.int (nI (60 * j + i))), some (.int (nI w)), some (.int (nI 0)), none] [.int (nI (eD r17))] σ
      refine am_reti rfl rfl ?_
      refine hq (r17) ok17 (fun hse => ?_)
      have e17 := ev17 hse
      rw [exB_63o h_14 hs1]
      first | rw [if_pos (by assumption)] | rw [if_neg (nfl (by assumption))] | rw [if_neg (ntr (by assumption))]
      exact e17
    · show am_G _ M_X10_didOn _ 150 [some (.ref 0), some (.int (nI (60 * j + i))), some (.int (nI w)), some (.int (nI 0)), none] [.int (nI 0), .ref 0] σ
      refine am_if (ty := 162) (tn := 153) rfl (by decide) rfl rfl (fun (h_18 : nI 0 = 0) => ?_) (fun (h_18 : ¬ (nI 0 = 0)) => ?_)
      rotate_left
      · exact absurd (by decide) h_18
      refine am_run 3 (pc' := 167) (ls' := [some (.ref 0), some (.int (nI (60 * j + i))), some (.int (nI w)), some (.int (nI 0)), none]) (st' := [.int (nI (60 * j + i)), .ref 8, .ref 0]) (σ' := σ) rfl ?_
      refine am_ialdN (n := 180) (v := oI (p 3 i)) rfl rfl rfl (by omega) m3 (by decide) ?_
      refine am_run 2 (pc' := 170) (ls' := [some (.ref 0), some (.int (nI (60 * j + i))), some (.int (nI w)), some (.int (nI 0)), none]) (st' := [.int (nI 1), .int (nI w), .int (oI (p 3 i)), .ref 0]) (σ' := σ) rfl ?_
      refine am_invv (y := 219) (b := 0) (as := [.int (oI (p 3 i)), .int (nI w), .int (nI 1)]) (rest := []) rfl rfl rfl rfl rfl rfl rfl (Nat.le_of_ble_eq_true rfl) ?_
      refine c_m_did (by omega) hW.1 w3 hw (by decide) hz0 (L3 (by omega) (by first | assumption | exact V2 (by omega) | exact V3 (by omega) (by assumption))) (fun r19 ok19 ev19 => ?_)
      obtain ⟨x19a, x19b, x19c⟩ := id ok19
      show am_G _ M_X10_didOn _ 173 [some (.ref 0), some (.int (nI (60 * j + i))), some (.int (nI w)), some (.int (nI 0)), none] [.int (nI (eD r19))] σ
      refine am_reti rfl rfl ?_
      refine hq (r19) ok19 (fun hse => ?_)
      have e19 := ev19 hse
      rw [exB_63o h_14 hs1]
      first | rw [if_pos (by assumption)] | rw [if_neg (nfl (by assumption))] | rw [if_neg (ntr (by assumption))]
      exact e19
  have h_14 : ¬ (p 0 i = 63) := fun z => h_14 ((nI_eq (by omega) (by omega)).mpr z)
  refine am_sw1 (k := nI 64) (tgt := 300) rfl (by decide) (by decide) rfl (fun (h_20 : nI (p 0 i) = nI 64) => ?_) (fun (h_20 : ¬ (nI (p 0 i) = nI 64)) => ?_)
  · have h_20 : p 0 i = 64 := (nI_eq (by omega) (by omega)).mp h_20
    have hg1 : 1 ≤ p 1 i := w5 (by rw [h_20]; decide)
    have hbt := hth hg1
    refine am_run 1 (pc' := 301) (ls' := [some (.ref 0), some (.int (nI (60 * j + i))), some (.int (nI w)), some (.int (nI 0)), none]) (st' := [.int (nI 0)]) (σ' := σ) rfl ?_
    refine am_if (ty := 313) (tn := 304) rfl (by decide) rfl rfl (fun (h_21 : nI 0 = 0) => ?_) (fun (h_21 : ¬ (nI 0 = 0)) => ?_)
    rotate_left
    · exact absurd (by decide) h_21
    refine am_run 4 (pc' := 319) (ls' := [some (.ref 0), some (.int (nI (60 * j + i))), some (.int (nI w)), some (.int (nI 0)), none]) (st' := [.int (nI (60 * j + i)), .ref 7, .ref 0]) (σ' := σ) rfl ?_
    refine am_ialdN (n := 180) (v := oI (p 2 i)) rfl rfl rfl (by omega) m2 (by decide) ?_
    refine am_run 2 (pc' := 322) (ls' := [some (.ref 0), some (.int (nI (60 * j + i))), some (.int (nI w)), some (.int (nI 0)), none]) (st' := [.int (nI 1), .int (nI w), .int (oI (p 2 i)), .ref 0]) (σ' := σ) rfl ?_
    refine am_invv (y := 219) (b := 0) (as := [.int (oI (p 2 i)), .int (nI w), .int (nI 1)]) (rest := []) rfl rfl rfl rfl rfl rfl rfl (Nat.le_of_ble_eq_true rfl) ?_
    refine c_m_did (by omega) hW.1 w2 hw (by decide) hz0 (L2 (by omega) (by first | assumption | exact V2 (by omega) | exact V3 (by omega) (by assumption))) (fun r22 ok22 ev22 => ?_)
    obtain ⟨x22a, x22b, x22c⟩ := id ok22
    show am_G _ M_X10_didOn _ 325 [some (.ref 0), some (.int (nI (60 * j + i))), some (.int (nI w)), some (.int (nI 0)), none] [.int (nI (eD r22))] σ
    refine am_reti rfl rfl ?_
    refine hq (r22) ok22 (fun hse => ?_)
    have e22 := ev22 hse
    rw [exB_64o h_20 hs1]
    first | rw [if_pos (by assumption)] | rw [if_neg (nfl (by assumption))] | rw [if_neg (ntr (by assumption))]
    exact e22
  have h_20 : ¬ (p 0 i = 64) := fun z => h_20 ((nI_eq (by omega) (by omega)).mpr z)
  refine am_sw1 (k := nI 94) (tgt := 284) rfl (by decide) (by decide) rfl (fun (h_23 : nI (p 0 i) = nI 94) => ?_) (fun (h_23 : ¬ (nI (p 0 i) = nI 94)) => ?_)
  · have h_23 : p 0 i = 94 := (nI_eq (by omega) (by omega)).mp h_23
    refine am_run 4 (pc' := 290) (ls' := [some (.ref 0), some (.int (nI (60 * j + i))), some (.int (nI w)), some (.int (nI 0)), none]) (st' := [.int (nI (60 * j + i)), .ref 7, .ref 0]) (σ' := σ) rfl ?_
    refine am_ialdN (n := 180) (v := oI (p 2 i)) rfl rfl rfl (by omega) m2 (by decide) ?_
    refine am_run 2 (pc' := 293) (ls' := [some (.ref 0), some (.int (nI (60 * j + i))), some (.int (nI w)), some (.int (nI 0)), none]) (st' := [.int (nI 1), .int (nI w), .int (oI (p 2 i)), .ref 0]) (σ' := σ) rfl ?_
    refine am_invv (y := 219) (b := 0) (as := [.int (oI (p 2 i)), .int (nI w), .int (nI 1)]) (rest := []) rfl rfl rfl rfl rfl rfl rfl (Nat.le_of_ble_eq_true rfl) ?_
    refine c_m_did (by omega) hW.1 w2 hw (by decide) hz0 (L2 (by omega) (by first | assumption | exact V2 (by omega) | exact V3 (by omega) (by assumption))) (fun r24 ok24 ev24 => ?_)
    obtain ⟨x24a, x24b, x24c⟩ := id ok24
    show am_G _ M_X10_didOn _ 296 [some (.ref 0), some (.int (nI (60 * j + i))), some (.int (nI w)), some (.int (nI 0)), none] [.int (nI (eD r24))] σ
    refine am_invs (y := 222) (as := [.int (nI (eD r24))]) (rest := []) rfl rfl rfl rfl rfl rfl (Nat.le_of_ble_eq_true rfl) ?_
    refine c_m_leftTrap (by omega) (a := r24) ok24 ?_
    show am_G _ M_X10_didOn _ 299 [some (.ref 0), some (.int (nI (60 * j + i))), some (.int (nI w)), some (.int (nI 0)), none] [.int (nI (eD (d_trap r24)))] σ
    refine am_reti rfl rfl ?_
    refine hq (d_trap r24) (ok3_trap ok24) (fun hse => ?_)
    have e24 := ev24 hse
    rw [exB_94 h_23]
    rw [tE_trap ok24, e24]
  have h_23 : ¬ (p 0 i = 94) := fun z => h_23 ((nI_eq (by omega) (by omega)).mpr z)
  refine am_sw1 (k := nI 124) (tgt := 230) rfl (by decide) (by decide) rfl (fun (h_25 : nI (p 0 i) = nI 124) => ?_) (fun (h_25 : ¬ (nI (p 0 i) = nI 124)) => ?_)
  · have h_25 : p 0 i = 124 := (nI_eq (by omega) (by omega)).mp h_25
    refine am_run 4 (pc' := 236) (ls' := [some (.ref 0), some (.int (nI (60 * j + i))), some (.int (nI w)), some (.int (nI 0)), none]) (st' := [.int (nI (60 * j + i)), .ref 7, .ref 0]) (σ' := σ) rfl ?_
    refine am_ialdN (n := 180) (v := oI (p 2 i)) rfl rfl rfl (by omega) m2 (by decide) ?_
    refine am_run 1 (pc' := 238) (ls' := [some (.ref 0), some (.int (nI (60 * j + i))), some (.int (nI w)), some (.int (nI 0)), none]) (st' := [.int (nI w), .int (oI (p 2 i)), .ref 0]) (σ' := σ) rfl ?_
    refine am_invv (y := 226) (b := 0) (as := [.int (oI (p 2 i)), .int (nI w)]) (rest := []) rfl rfl rfl rfl rfl rfl rfl (Nat.le_of_ble_eq_true rfl) ?_
    refine c_m_onDone (by omega) hB w2 hw hz0 (L2 (by omega)) (fun r26 ok26 ev26 => ?_)
    obtain ⟨x26a, x26b, x26c⟩ := id ok26
    show am_G _ M_X10_didOn _ 241 [some (.ref 0), some (.int (nI (60 * j + i))), some (.int (nI w)), some (.int (nI 0)), none] [.int (nI (eD r26))] σ
    refine am_run 4 (pc' := 247) (ls' := [some (.ref 0), some (.int (nI (60 * j + i))), some (.int (nI w)), some (.int (nI 0)), none]) (st' := [.int (nI (60 * j + i)), .ref 8, .ref 0, .int (nI (eD r26))]) (σ' := σ) rfl ?_
    refine am_ialdN (n := 180) (v := oI (p 3 i)) rfl rfl rfl (by omega) m3 (by decide) ?_
    refine am_run 1 (pc' := 249) (ls' := [some (.ref 0), some (.int (nI (60 * j + i))), some (.int (nI w)), some (.int (nI 0)), none]) (st' := [.int (nI w), .int (oI (p 3 i)), .ref 0, .int (nI (eD r26))]) (σ' := σ) rfl ?_
    refine am_invv (y := 226) (b := 0) (as := [.int (oI (p 3 i)), .int (nI w)]) (rest := [.int (nI (eD r26))]) rfl rfl rfl rfl rfl rfl rfl (Nat.le_of_ble_eq_true rfl) ?_
    refine c_m_onDone (by omega) hB w3 hw hz0 (L3 (by omega)) (fun r27 ok27 ev27 => ?_)
    obtain ⟨x27a, x27b, x27c⟩ := id ok27
    show am_G _ M_X10_didOn _ 252 [some (.ref 0), some (.int (nI (60 * j + i))), some (.int (nI w)), some (.int (nI 0)), none] [.int (nI (eD r27)), .int (nI (eD r26))] σ
    refine am_invs (y := 221) (as := [.int (nI (eD r26)), .int (nI (eD r27))]) (rest := []) rfl rfl rfl rfl rfl rfl (Nat.le_of_ble_eq_true rfl) ?_
    refine c_m_together (by omega) (a := r26) (b := r27) ok26 ok27 ?_
    show am_G _ M_X10_didOn _ 255 [some (.ref 0), some (.int (nI (60 * j + i))), some (.int (nI w)), some (.int (nI 0)), none] [.int (nI (eD (d_par r26 r27)))] σ
    refine am_reti rfl rfl ?_
    refine hq (d_par r26 r27) (ok3_par ok26 ok27) (fun hse => ?_)
    have e26 := ev26 hse
    have e27 := ev27 hse
    rw [exB_124o h_25 hs1]
    rw [tE_par, e26, e27]
  have h_25 : ¬ (p 0 i = 124) := fun z => h_25 ((nI_eq (by omega) (by omega)).mpr z)
  refine am_sw1 (k := nI 126) (tgt := 326) rfl (by decide) (by decide) rfl (fun (h_28 : nI (p 0 i) = nI 126) => ?_) (fun (h_28 : ¬ (nI (p 0 i) = nI 126)) => ?_)
  · have h_28 : p 0 i = 126 := (nI_eq (by omega) (by omega)).mp h_28
    have hg1 : 1 ≤ p 1 i := w5 (by rw [h_28]; decide)
    have hbt := hth hg1
    refine am_run 4 (pc' := 332) (ls' := [some (.ref 0), some (.int (nI (60 * j + i))), some (.int (nI w)), some (.int (nI 0)), none]) (st' := [.int (nI (60 * j + i)), .ref 7, .ref 0]) (σ' := σ) rfl ?_
    refine am_ialdN (n := 180) (v := oI (p 2 i)) rfl rfl rfl (by omega) m2 (by decide) ?_
    refine am_run 2 (pc' := 335) (ls' := [some (.ref 0), some (.int (nI (60 * j + i))), some (.int (nI w)), some (.int (nI 0)), none]) (st' := [.int (nI 1), .int (nI w), .int (oI (p 2 i)), .ref 0]) (σ' := σ) rfl ?_
    refine am_invv (y := 219) (b := 0) (as := [.int (oI (p 2 i)), .int (nI w), .int (nI 1)]) (rest := []) rfl rfl rfl rfl rfl rfl rfl (Nat.le_of_ble_eq_true rfl) ?_
    refine c_m_did (by omega) hW.1 w2 hw (by decide) hz0 (L2 (by omega) (by first | assumption | exact V2 (by omega) | exact V3 (by omega) (by assumption))) (fun r29 ok29 ev29 => ?_)
    obtain ⟨x29a, x29b, x29c⟩ := id ok29
    show am_G _ M_X10_didOn _ 338 [some (.ref 0), some (.int (nI (60 * j + i))), some (.int (nI w)), some (.int (nI 0)), none] [.int (nI (eD r29))] σ
    refine am_run 2 (pc' := 341) (ls' := [some (.ref 0), some (.int (nI (60 * j + i))), some (.int (nI w)), some (.int (nI 0)), some (.int (nI (eD r29)))]) (st' := [.int (nI 0)]) (σ' := σ) rfl ?_
    refine am_if (ty := 366) (tn := 344) rfl (by decide) rfl rfl (fun (h_30 : nI 0 = 0) => ?_) (fun (h_30 : ¬ (nI 0 = 0)) => ?_)
    rotate_left
    · exact absurd (by decide) h_30
    refine am_run 1 (pc' := 368) (ls' := [some (.ref 0), some (.int (nI (60 * j + i))), some (.int (nI w)), some (.int (nI 0)), some (.int (nI (eD r29)))]) (st' := [.int (nI (eD r29))]) (σ' := σ) rfl ?_
    refine am_reti rfl rfl ?_
    refine hq (r29) ok29 (fun hse => ?_)
    have e29 := ev29 hse
    rw [exB_126o h_28 hs1]
    first | rw [if_pos (by assumption)] | rw [if_neg (nfl (by assumption))] | rw [if_neg (ntr (by assumption))]
    exact e29
  have h_28 : ¬ (p 0 i = 126) := fun z => h_28 ((nI_eq (by omega) (by omega)).mpr z)
  refine am_sw0 (tgt := 377) (by decide) rfl ?_
  refine am_run 3 (pc' := 380) (ls' := [some (.ref 0), some (.int (nI (60 * j + i))), some (.int (nI w)), some (.int (nI 0)), none]) (st' := [.int (nI 0), .int (nI 0), .int (nI 0)]) (σ' := σ) rfl ?_
  refine am_invs (y := 215) (as := [.int (nI 0), .int (nI 0), .int (nI 0)]) (rest := []) rfl rfl rfl rfl rfl rfl (Nat.le_of_ble_eq_true rfl) ?_
  refine c_m_done0 (by omega) (c := 0) (q := 0) (by omega) (by first | omega | exact or_lt20 (by omega) (by omega)) ?_
  show am_G _ M_X10_didOn _ 383 [some (.ref 0), some (.int (nI (60 * j + i))), some (.int (nI w)), some (.int (nI 0)), none] [.int (nI (eD (dne 0 false 0)))] σ
  refine am_reti rfl rfl ?_
  have h46 : p 0 i = 46 := T46 T0 (by assumption) (by assumption) (by assumption) (by assumption) (by assumption) (by assumption) (by assumption) (by assumption) (by assumption)
  refine hq (dne 0 false 0) (ok3_dne _ (by omega) (by omega)) (fun hse => ?_)
  rw [exB_46o h46 hs1]
  rfl
set_option maxRecDepth 10000 in
set_option maxHeartbeats 2000000 in
theorem c_m_didOn_mid1 {d : Nat} (hd : 7 ≤ d) {σ : am_M} {j s P A n : Nat} {p : Pg} {dp : Nat → Nat} {ow : Nat → Nat → Nat} (hB : MB σ j s P A p n dp ow) {i w : Nat} {E : Nat × Nat} (hi : i < n) (hw3 : w < 3 ^ dp i) (hE : evn (ow i) w P A (dp i) = E) (hz0 : σ.1 30 3240 = nI (eD (0, false, 0))) (RO : p 0 i = 46 ∨ p 0 i = 38 → ∃ ri, σ.1 12 (60 * j + i) = nI ri ∧ ri < 20 ∧ p 4 i = 2 ^ ri) (hth : 1 ≤ p 1 i → E.1.testBit (p 1 i - 1) = true) (hs1 : ¬ s = ST) (T0 : p 0 i = 36 ∨ p 0 i = 38 ∨ p 0 i = 42 ∨ p 0 i = 46 ∨ p 0 i = 59 ∨ p 0 i = 63 ∨ p 0 i = 64 ∨ p 0 i = 94 ∨ p 0 i = 124 ∨ p 0 i = 126) (K2 : ¬ p 0 i = 36 → KE σ p (p 2 i) w 0 ST E) (K3 : ¬ p 0 i = 36 → KE σ p (p 3 i) w 0 ST E) (L2 : ¬ p 0 i = 36 → lv p (p 2 i) s = true → KE σ p (p 2 i) w 1 s E) (L3 : ¬ p 0 i = 36 → lv p (p 3 i) s = true → KE σ p (p 3 i) w 1 s E) (V2 : p 0 i = 42 ∨ p 0 i = 94 ∨ p 0 i = 64 ∨ p 0 i = 126 → lv p (p 2 i) s = true) (V3 : p 0 i = 63 ∨ p 0 i = 59 → lv p (p 2 i) s = false → lv p (p 3 i) s = true) (D36 : p 0 i = 36 → dp i ≤ 2) (T36 : p 0 i = 36 → KD σ p (p 2 i) w 2 s true (up3 E (p 1 i - 1) 0)) (K36 : p 0 i = 36 → ∀ h, h < 3 → KE σ p (p 2 i) (w + h * 3 ^ dp i) 1 s (up3 E (p 1 i - 1) h)) {Q : am_Q} (hq : ∀ v, ok3 v → (SE E → tE v = exB p (ex p 61) (an p 61) i s E.1) → Q (some (.int (nI (eD v)))) σ) : am_G d M_X10_didOn Q 32 [some (.ref 0), some (.int (nI (60 * j + i))), some (.int (nI w)), some (.int (nI 1)), none] [] σ := by
  obtain ⟨hj, hS, hW, hs, hN, hdj, hP, hA⟩ := id hB
  obtain ⟨hS1, hS2, hS3, hS4⟩ := id hS
  obtain ⟨⟨m0, m1, m2, m3, m4, m5, m6⟩, hdp, how⟩ := hN i hi
  obtain ⟨w0, w1, w2, w3, w4, w5, w6⟩ := hW.2 i hi
  have hn60 := hW.1
  have hw := wy0 hdp hw3
  refine am_run 3 (pc' := 37) (ls' := [some (.ref 0), some (.int (nI (60 * j + i))), some (.int (nI w)), some (.int (nI 1)), none]) (st' := [.int (nI (60 * j + i)), .ref 5]) (σ' := σ) rfl ?_
  refine am_ialdN (n := 180) (v := nI (p 0 i)) rfl rfl rfl (by omega) m0 (by decide) ?_
  refine am_lsw rfl rfl (L := [(36, 331), (38, 82), (42, 218), (59, 136), (63, 101), (64, 262), (94, 246), (124, 192), (126, 288)]) rfl ?_
  refine am_sw1 (k := nI 36) (tgt := 369) rfl (by decide) (by decide) rfl (fun (h_1 : nI (p 0 i) = nI 36) => ?_) (fun (h_1 : ¬ (nI (p 0 i) = nI 36)) => ?_)
  · have h_1 : p 0 i = 36 := (nI_eq (by omega) (by omega)).mp h_1
    have hg1 : 1 ≤ p 1 i := w5 (by rw [h_1]; decide)
    refine am_run 4 (pc' := 373) (ls' := [some (.ref 0), some (.int (nI (60 * j + i))), some (.int (nI w)), some (.int (nI 1)), none]) (st' := [.int (nI 1), .int (nI w), .int (nI (60 * j + i)), .ref 0]) (σ' := σ) rfl ?_
    refine am_invv (y := 223) (b := 0) (as := [.int (nI (60 * j + i)), .int (nI w), .int (nI 1)]) (rest := []) rfl rfl rfl rfl rfl rfl rfl (Nat.le_of_ble_eq_true rfl) ?_
    refine c_m_didNew1 (by omega) hB hi hw3 hE hz0 (by first | exact h_1 | omega) (D36 (by omega)) (T36 (by omega)) (K36 (by omega)) (fun r9 ok9 ev9 => ?_)
    show am_G _ M_X10_didOn _ 376 [some (.ref 0), some (.int (nI (60 * j + i))), some (.int (nI w)), some (.int (nI 1)), none] [.int (nI (eD r9))] σ
    refine am_reti rfl rfl ?_
    exact hq r9 ok9 ev9
  have h_1 : ¬ (p 0 i = 36) := fun z => h_1 ((nI_eq (by omega) (by omega)).mpr z)
  refine am_sw1 (k := nI 38) (tgt := 120) rfl (by decide) (by decide) rfl (fun (h_2 : nI (p 0 i) = nI 38) => ?_) (fun (h_2 : ¬ (nI (p 0 i) = nI 38)) => ?_)
  · have h_2 : p 0 i = 38 := (nI_eq (by omega) (by omega)).mp h_2
    have hg1 : 1 ≤ p 1 i := w5 (by rw [h_2]; decide)
    have hbt := hth hg1
    refine am_run 1 (pc' := 121) (ls' := [some (.ref 0), some (.int (nI (60 * j + i))), some (.int (nI w)), some (.int (nI 1)), none]) (st' := [.int (nI 1)]) (σ' := σ) rfl ?_
    refine am_if (ty := 133) (tn := 124) rfl (by decide) rfl rfl (fun (h_3 : nI 1 = 0) => ?_) (fun (h_3 : ¬ (nI 1 = 0)) => ?_)
    · exact absurd h_3 (by decide)
    refine am_run 3 (pc' := 127) (ls' := [some (.ref 0), some (.int (nI (60 * j + i))), some (.int (nI w)), some (.int (nI 1)), none]) (st' := [.int (nI 0), .int (nI 0), .int (nI 0)]) (σ' := σ) rfl ?_
    refine am_invs (y := 215) (as := [.int (nI 0), .int (nI 0), .int (nI 0)]) (rest := []) rfl rfl rfl rfl rfl rfl (Nat.le_of_ble_eq_true rfl) ?_
    refine c_m_done0 (by omega) (c := 0) (q := 0) (by omega) (by first | omega | exact or_lt20 (by omega) (by omega)) ?_
    show am_G _ M_X10_didOn _ 130 [some (.ref 0), some (.int (nI (60 * j + i))), some (.int (nI w)), some (.int (nI 1)), none] [.int (nI (eD (dne 0 false 0)))] σ
    refine am_run 1 (pc' := 138) (ls' := [some (.ref 0), some (.int (nI (60 * j + i))), some (.int (nI w)), some (.int (nI 1)), none]) (st' := [.int (nI (eD (dne 0 false 0)))]) (σ' := σ) rfl ?_
    refine am_reti rfl rfl ?_
    refine hq (dne 0 false 0) (ok3_dne _ (by omega) (by omega)) (fun hse => ?_)
    rw [exB_38o h_2 hs1]
    first | rw [if_pos (by assumption)] | rw [if_neg (nfl (by assumption))] | rw [if_neg (ntr (by assumption))]
    rfl
  have h_2 : ¬ (p 0 i = 38) := fun z => h_2 ((nI_eq (by omega) (by omega)).mpr z)
  refine am_sw1 (k := nI 42) (tgt := 256) rfl (by decide) (by decide) rfl (fun (h_4 : nI (p 0 i) = nI 42) => ?_) (fun (h_4 : ¬ (nI (p 0 i) = nI 42)) => ?_)
  · have h_4 : p 0 i = 42 := (nI_eq (by omega) (by omega)).mp h_4
    refine am_run 4 (pc' := 262) (ls' := [some (.ref 0), some (.int (nI (60 * j + i))), some (.int (nI w)), some (.int (nI 1)), none]) (st' := [.int (nI (60 * j + i)), .ref 7, .ref 0]) (σ' := σ) rfl ?_
    refine am_ialdN (n := 180) (v := oI (p 2 i)) rfl rfl rfl (by omega) m2 (by decide) ?_
    refine am_run 2 (pc' := 265) (ls' := [some (.ref 0), some (.int (nI (60 * j + i))), some (.int (nI w)), some (.int (nI 1)), none]) (st' := [.int (nI 1), .int (nI w), .int (oI (p 2 i)), .ref 0]) (σ' := σ) rfl ?_
    refine am_invv (y := 219) (b := 0) (as := [.int (oI (p 2 i)), .int (nI w), .int (nI 1)]) (rest := []) rfl rfl rfl rfl rfl rfl rfl (Nat.le_of_ble_eq_true rfl) ?_
    refine c_m_did (by omega) hW.1 w2 hw (by decide) hz0 (L2 (by omega) (by first | assumption | exact V2 (by omega) | exact V3 (by omega) (by assumption))) (fun r5 ok5 ev5 => ?_)
    obtain ⟨x5a, x5b, x5c⟩ := id ok5
    show am_G _ M_X10_didOn _ 268 [some (.ref 0), some (.int (nI (60 * j + i))), some (.int (nI w)), some (.int (nI 1)), none] [.int (nI (eD r5))] σ
    refine am_run 4 (pc' := 274) (ls' := [some (.ref 0), some (.int (nI (60 * j + i))), some (.int (nI w)), some (.int (nI 1)), none]) (st' := [.int (nI (60 * j + i)), .ref 7, .ref 0, .int (nI (eD r5))]) (σ' := σ) rfl ?_
    refine am_ialdN (n := 180) (v := oI (p 2 i)) rfl rfl rfl (by omega) m2 (by decide) ?_
    refine am_run 2 (pc' := 277) (ls' := [some (.ref 0), some (.int (nI (60 * j + i))), some (.int (nI w)), some (.int (nI 1)), none]) (st' := [.int (nI 0), .int (nI w), .int (oI (p 2 i)), .ref 0, .int (nI (eD r5))]) (σ' := σ) rfl ?_
    refine am_invv (y := 219) (b := 0) (as := [.int (oI (p 2 i)), .int (nI w), .int (nI 0)]) (rest := [.int (nI (eD r5))]) rfl rfl rfl rfl rfl rfl rfl (Nat.le_of_ble_eq_true rfl) ?_
    refine c_m_did (by omega) hW.1 w2 hw (by decide) hz0 (K2 (by omega)) (fun r6 ok6 ev6 => ?_)
    obtain ⟨x6a, x6b, x6c⟩ := id ok6
    show am_G _ M_X10_didOn _ 280 [some (.ref 0), some (.int (nI (60 * j + i))), some (.int (nI w)), some (.int (nI 1)), none] [.int (nI (eD r6)), .int (nI (eD r5))] σ
    refine am_invs (y := 220) (as := [.int (nI (eD r5)), .int (nI (eD r6))]) (rest := []) rfl rfl rfl rfl rfl rfl (Nat.le_of_ble_eq_true rfl) ?_
    refine c_m_then (by omega) (a := r5) (b := r6) ok5 ok6 ?_
    show am_G _ M_X10_didOn _ 283 [some (.ref 0), some (.int (nI (60 * j + i))), some (.int (nI w)), some (.int (nI 1)), none] [.int (nI (eD (d_then r5 r6)))] σ
    refine am_reti rfl rfl ?_
    refine hq (d_then r5 r6) (ok3_then ok5 ok6) (fun hse => ?_)
    have e5 := ev5 hse
    have e6 := ev6 hse
    rw [exB_42o h_4 hs1]
    rw [tE_then ok6, e5, e6]
  have h_4 : ¬ (p 0 i = 42) := fun z => h_4 ((nI_eq (by omega) (by omega)).mpr z)
  refine am_sw1 (k := nI 59) (tgt := 174) rfl (by decide) (by decide) rfl (fun (h_7 : nI (p 0 i) = nI 59) => ?_) (fun (h_7 : ¬ (nI (p 0 i) = nI 59)) => ?_)
  · have h_7 : p 0 i = 59 := (nI_eq (by omega) (by omega)).mp h_7
    refine am_run 4 (pc' := 180) (ls' := [some (.ref 0), some (.int (nI (60 * j + i))), some (.int (nI w)), some (.int (nI 1)), none]) (st' := [.int (nI (60 * j + i)), .ref 7, .ref 0]) (σ' := σ) rfl ?_
    refine am_ialdN (n := 180) (v := oI (p 2 i)) rfl rfl rfl (by omega) m2 (by decide) ?_
    refine am_invv (y := 194) (b := 0) (as := [.int (oI (p 2 i))]) (rest := []) rfl rfl rfl rfl rfl rfl rfl (Nat.le_of_ble_eq_true rfl) ?_
    refine c_m_isLive (by omega) hB w2 (fun hl_8 => ?_) (fun hl_8 => ?_)
    · show am_G _ M_X10_didOn _ 184 [some (.ref 0), some (.int (nI (60 * j + i))), some (.int (nI w)), some (.int (nI 1)), none] [.int (nI 1)] σ
      refine am_if (ty := 217) (tn := 187) rfl (by decide) rfl rfl (fun (h_9 : nI 1 = 0) => ?_) (fun (h_9 : ¬ (nI 1 = 0)) => ?_)
      · exact absurd h_9 (by decide)
      refine am_run 4 (pc' := 193) (ls' := [some (.ref 0), some (.int (nI (60 * j + i))), some (.int (nI w)), some (.int (nI 1)), none]) (st' := [.int (nI (60 * j + i)), .ref 7, .ref 0]) (σ' := σ) rfl ?_
      refine am_ialdN (n := 180) (v := oI (p 2 i)) rfl rfl rfl (by omega) m2 (by decide) ?_
      refine am_run 2 (pc' := 196) (ls' := [some (.ref 0), some (.int (nI (60 * j + i))), some (.int (nI w)), some (.int (nI 1)), none]) (st' := [.int (nI 1), .int (nI w), .int (oI (p 2 i)), .ref 0]) (σ' := σ) rfl ?_
      refine am_invv (y := 219) (b := 0) (as := [.int (oI (p 2 i)), .int (nI w), .int (nI 1)]) (rest := []) rfl rfl rfl rfl rfl rfl rfl (Nat.le_of_ble_eq_true rfl) ?_
      refine c_m_did (by omega) hW.1 w2 hw (by decide) hz0 (L2 (by omega) (by first | assumption | exact V2 (by omega) | exact V3 (by omega) (by assumption))) (fun r10 ok10 ev10 => ?_)
      obtain ⟨x10a, x10b, x10c⟩ := id ok10
      show am_G _ M_X10_didOn _ 199 [some (.ref 0), some (.int (nI (60 * j + i))), some (.int (nI w)), some (.int (nI 1)), none] [.int (nI (eD r10))] σ
      refine am_run 4 (pc' := 205) (ls' := [some (.ref 0), some (.int (nI (60 * j + i))), some (.int (nI w)), some (.int (nI 1)), none]) (st' := [.int (nI (60 * j + i)), .ref 8, .ref 0, .int (nI (eD r10))]) (σ' := σ) rfl ?_
      refine am_ialdN (n := 180) (v := oI (p 3 i)) rfl rfl rfl (by omega) m3 (by decide) ?_
      refine am_run 2 (pc' := 208) (ls' := [some (.ref 0), some (.int (nI (60 * j + i))), some (.int (nI w)), some (.int (nI 1)), none]) (st' := [.int (nI 0), .int (nI w), .int (oI (p 3 i)), .ref 0, .int (nI (eD r10))]) (σ' := σ) rfl ?_
      refine am_invv (y := 219) (b := 0) (as := [.int (oI (p 3 i)), .int (nI w), .int (nI 0)]) (rest := [.int (nI (eD r10))]) rfl rfl rfl rfl rfl rfl rfl (Nat.le_of_ble_eq_true rfl) ?_
      refine c_m_did (by omega) hW.1 w3 hw (by decide) hz0 (K3 (by omega)) (fun r11 ok11 ev11 => ?_)
      obtain ⟨x11a, x11b, x11c⟩ := id ok11
      show am_G _ M_X10_didOn _ 211 [some (.ref 0), some (.int (nI (60 * j + i))), some (.int (nI w)), some (.int (nI 1)), none] [.int (nI (eD r11)), .int (nI (eD r10))] σ
      refine am_invs (y := 220) (as := [.int (nI (eD r10)), .int (nI (eD r11))]) (rest := []) rfl rfl rfl rfl rfl rfl (Nat.le_of_ble_eq_true rfl) ?_
      refine c_m_then (by omega) (a := r10) (b := r11) ok10 ok11 ?_
      show am_G _ M_X10_didOn _ 214 [some (.ref 0), some (.int (nI (60 * j + i))), some (.int (nI w)), some (.int (nI 1)), none] [.int (nI (eD (d_then r10 r11)))] σ
      refine am_run 1 (pc' := 229) (ls' := [some (.ref 0), some (.int (nI (60 * j + i))), some (.int (nI w)), some (.int (nI 1)), none]) (st' := [.int (nI (eD (d_then r10 r11)))]) (σ' := σ) rfl ?_
      refine am_reti rfl rfl ?_
      refine hq (d_then r10 r11) (ok3_then ok10 ok11) (fun hse => ?_)
      have e10 := ev10 hse
      have e11 := ev11 hse
      rw [exB_59o h_7 hs1]
      first | rw [if_pos (by assumption)] | rw [if_neg (nfl (by assumption))] | rw [if_neg (ntr (by assumption))]
      rw [tE_then ok11, e10, e11]
    · show am_G _ M_X10_didOn _ 184 [some (.ref 0), some (.int (nI (60 * j + i))), some (.int (nI w)), some (.int (nI 1)), none] [.int (nI 0)] σ
      refine am_if (ty := 217) (tn := 187) rfl (by decide) rfl rfl (fun (h_12 : nI 0 = 0) => ?_) (fun (h_12 : ¬ (nI 0 = 0)) => ?_)
      rotate_left
      · exact absurd (by decide) h_12
      refine am_run 4 (pc' := 223) (ls' := [some (.ref 0), some (.int (nI (60 * j + i))), some (.int (nI w)), some (.int (nI 1)), none]) (st' := [.int (nI (60 * j + i)), .ref 8, .ref 0]) (σ' := σ) rfl ?_
      refine am_ialdN (n := 180) (v := oI (p 3 i)) rfl rfl rfl (by omega) m3 (by decide) ?_
      refine am_run 2 (pc' := 226) (ls' := [some (.ref 0), some (.int (nI (60 * j + i))), some (.int (nI w)), some (.int (nI 1)), none]) (st' := [.int (nI 1), .int (nI w), .int (oI (p 3 i)), .ref 0]) (σ' := σ) rfl ?_
      refine am_invv (y := 219) (b := 0) (as := [.int (oI (p 3 i)), .int (nI w), .int (nI 1)]) (rest := []) rfl rfl rfl rfl rfl rfl rfl (Nat.le_of_ble_eq_true rfl) ?_
      refine c_m_did (by omega) hW.1 w3 hw (by decide) hz0 (L3 (by omega) (by first | assumption | exact V2 (by omega) | exact V3 (by omega) (by assumption))) (fun r13 ok13 ev13 => ?_)
      obtain ⟨x13a, x13b, x13c⟩ := id ok13
      show am_G _ M_X10_didOn _ 229 [some (.ref 0), some (.int (nI (60 * j + i))), some (.int (nI w)), some (.int (nI 1)), none] [.int (nI (eD r13))] σ
      refine am_reti rfl rfl ?_
      refine hq (r13) ok13 (fun hse => ?_)
      have e13 := ev13 hse
      rw [exB_59o h_7 hs1]
      first | rw [if_pos (by assumption)] | rw [if_neg (nfl (by assumption))] | rw [if_neg (ntr (by assumption))]
      exact e13
  have h_7 : ¬ (p 0 i = 59) := fun z => h_7 ((nI_eq (by omega) (by omega)).mpr z)
  refine am_sw1 (k := nI 63) (tgt := 139) rfl (by decide) (by decide) rfl (fun (h_14 : nI (p 0 i) = nI 63) => ?_) (fun (h_14 : ¬ (nI (p 0 i) = nI 63)) => ?_)
  · have h_14 : p 0 i = 63 := (nI_eq (by omega) (by omega)).mp h_14
    have hg1 : 1 ≤ p 1 i := w5 (by rw [h_14]; decide)
    refine am_run 5 (pc' := 146) (ls' := [some (.ref 0), some (.int (nI (60 * j + i))), some (.int (nI w)), some (.int (nI 1)), none]) (st' := [.int (nI (60 * j + i)), .ref 7, .ref 0, .ref 0]) (σ' := σ) rfl ?_
    refine am_ialdN (n := 180) (v := oI (p 2 i)) rfl rfl rfl (by omega) m2 (by decide) ?_
    refine am_invv (y := 194) (b := 0) (as := [.int (oI (p 2 i))]) (rest := [.ref 0]) rfl rfl rfl rfl rfl rfl rfl (Nat.le_of_ble_eq_true rfl) ?_
    refine c_m_isLive (by omega) hB w2 (fun hl_15 => ?_) (fun hl_15 => ?_)
    · show am_G _ M_X10_didOn _ 150 [some (.ref 0), some (.int (nI (60 * j + i))), some (.int (nI w)), some (.int (nI 1)), none] [.int (nI 1), .ref 0] σ
      refine am_if (ty := 162) (tn := 153) rfl (by decide) rfl rfl (fun (h_16 : nI 1 = 0) => ?_) (fun (h_16 : ¬ (nI 1 = 0)) => ?_)
      · exact absurd h_16 (by decide)
      refine am_run 3 (pc' := 158) (ls' := [some (.ref 0), some (.int (nI (60 * j + i))), some (.int (nI w)), some (.int (nI 1)), none]) (st' := [.int (nI (60 * j + i)), .ref 7, .ref 0]) (σ' := σ) rfl ?_
      refine am_ialdN (n := 180) (v := oI (p 2 i)) rfl rfl rfl (by omega) m2 (by decide) ?_
      refine am_run 3 (pc' := 170) (ls' := [some (.ref 0), some (.int (nI (60 * j + i))), some (.int (nI w)), some (.int (nI 1)), none]) (st' := [.int (nI 1), .int (nI w), .int (oI (p 2 i)), .ref 0]) (σ' := σ) rfl ?_
      refine am_invv (y := 219) (b := 0) (as := [.int (oI (p 2 i)), .int (nI w), .int (nI 1)]) (rest := []) rfl rfl rfl rfl rfl rfl rfl (Nat.le_of_ble_eq_true rfl) ?_
      refine c_m_did (by omega) hW.1 w2 hw (by decide) hz0 (L2 (by omega) (by first | assumption | exact V2 (by omega) | exact V3 (by omega) (by assumption))) (fun r17 ok17 ev17 => ?_)
      obtain ⟨x17a, x17b, x17c⟩ := id ok17
      show am_G _ M_X10_didOn _ 173 [some (.ref 0), some (.int (nI (60 * j + i))), some (.int (nI w)), some (.int (nI 1)), none] [.int (nI (eD r17))] σ
      refine am_reti rfl rfl ?_
      refine hq (r17) ok17 (fun hse => ?_)
      have e17 := ev17 hse
      rw [exB_63o h_14 hs1]
      first | rw [if_pos (by assumption)] | rw [if_neg (nfl (by assumption))] | rw [if_neg (ntr (by assumption))]
      exact e17
    · show am_G _ M_X10_didOn _ 150 [some (.ref 0), some (.int (nI (60 * j + i))), some (.int (nI w)), some (.int (nI 1)), none] [.int (nI 0), .ref 0] σ
      refine am_if (ty := 162) (tn := 153) rfl (by decide) rfl rfl (fun (h_18 : nI 0 = 0) => ?_) (fun (h_18 : ¬ (nI 0 = 0)) => ?_)
      rotate_left
      · exact absurd (by decide) h_18
      refine am_run 3 (pc' := 167) (ls' := [some (.ref 0), some (.int (nI (60 * j + i))), some (.int (nI w)), some (.int (nI 1)), none]) (st' := [.int (nI (60 * j + i)), .ref 8, .ref 0]) (σ' := σ) rfl ?_
      refine am_ialdN (n := 180) (v := oI (p 3 i)) rfl rfl rfl (by omega) m3 (by decide) ?_
      refine am_run 2 (pc' := 170) (ls' := [some (.ref 0), some (.int (nI (60 * j + i))), some (.int (nI w)), some (.int (nI 1)), none]) (st' := [.int (nI 1), .int (nI w), .int (oI (p 3 i)), .ref 0]) (σ' := σ) rfl ?_
      refine am_invv (y := 219) (b := 0) (as := [.int (oI (p 3 i)), .int (nI w), .int (nI 1)]) (rest := []) rfl rfl rfl rfl rfl rfl rfl (Nat.le_of_ble_eq_true rfl) ?_
      refine c_m_did (by omega) hW.1 w3 hw (by decide) hz0 (L3 (by omega) (by first | assumption | exact V2 (by omega) | exact V3 (by omega) (by assumption))) (fun r19 ok19 ev19 => ?_)
      obtain ⟨x19a, x19b, x19c⟩ := id ok19
      show am_G _ M_X10_didOn _ 173 [some (.ref 0), some (.int (nI (60 * j + i))), some (.int (nI w)), some (.int (nI 1)), none] [.int (nI (eD r19))] σ
      refine am_reti rfl rfl ?_
      refine hq (r19) ok19 (fun hse => ?_)
      have e19 := ev19 hse
      rw [exB_63o h_14 hs1]
      first | rw [if_pos (by assumption)] | rw [if_neg (nfl (by assumption))] | rw [if_neg (ntr (by assumption))]
      exact e19
  have h_14 : ¬ (p 0 i = 63) := fun z => h_14 ((nI_eq (by omega) (by omega)).mpr z)
  refine am_sw1 (k := nI 64) (tgt := 300) rfl (by decide) (by decide) rfl (fun (h_20 : nI (p 0 i) = nI 64) => ?_) (fun (h_20 : ¬ (nI (p 0 i) = nI 64)) => ?_)
  · have h_20 : p 0 i = 64 := (nI_eq (by omega) (by omega)).mp h_20
    have hg1 : 1 ≤ p 1 i := w5 (by rw [h_20]; decide)
    have hbt := hth hg1
    refine am_run 1 (pc' := 301) (ls' := [some (.ref 0), some (.int (nI (60 * j + i))), some (.int (nI w)), some (.int (nI 1)), none]) (st' := [.int (nI 1)]) (σ' := σ) rfl ?_
    refine am_if (ty := 313) (tn := 304) rfl (by decide) rfl rfl (fun (h_21 : nI 1 = 0) => ?_) (fun (h_21 : ¬ (nI 1 = 0)) => ?_)
    · exact absurd h_21 (by decide)
    refine am_run 3 (pc' := 307) (ls' := [some (.ref 0), some (.int (nI (60 * j + i))), some (.int (nI w)), some (.int (nI 1)), none]) (st' := [.int (nI 0), .int (nI 0), .int (nI 0)]) (σ' := σ) rfl ?_
    refine am_invs (y := 215) (as := [.int (nI 0), .int (nI 0), .int (nI 0)]) (rest := []) rfl rfl rfl rfl rfl rfl (Nat.le_of_ble_eq_true rfl) ?_
    refine c_m_done0 (by omega) (c := 0) (q := 0) (by omega) (by first | omega | exact or_lt20 (by omega) (by omega)) ?_
    show am_G _ M_X10_didOn _ 310 [some (.ref 0), some (.int (nI (60 * j + i))), some (.int (nI w)), some (.int (nI 1)), none] [.int (nI (eD (dne 0 false 0)))] σ
    refine am_run 1 (pc' := 325) (ls' := [some (.ref 0), some (.int (nI (60 * j + i))), some (.int (nI w)), some (.int (nI 1)), none]) (st' := [.int (nI (eD (dne 0 false 0)))]) (σ' := σ) rfl ?_
    refine am_reti rfl rfl ?_
    refine hq (dne 0 false 0) (ok3_dne _ (by omega) (by omega)) (fun hse => ?_)
    rw [exB_64o h_20 hs1]
    first | rw [if_pos (by assumption)] | rw [if_neg (nfl (by assumption))] | rw [if_neg (ntr (by assumption))]
    rfl
  have h_20 : ¬ (p 0 i = 64) := fun z => h_20 ((nI_eq (by omega) (by omega)).mpr z)
  refine am_sw1 (k := nI 94) (tgt := 284) rfl (by decide) (by decide) rfl (fun (h_22 : nI (p 0 i) = nI 94) => ?_) (fun (h_22 : ¬ (nI (p 0 i) = nI 94)) => ?_)
  · have h_22 : p 0 i = 94 := (nI_eq (by omega) (by omega)).mp h_22
    refine am_run 4 (pc' := 290) (ls' := [some (.ref 0), some (.int (nI (60 * j + i))), some (.int (nI w)), some (.int (nI 1)), none]) (st' := [.int (nI (60 * j + i)), .ref 7, .ref 0]) (σ' := σ) rfl ?_
    refine am_ialdN (n := 180) (v := oI (p 2 i)) rfl rfl rfl (by omega) m2 (by decide) ?_
    refine am_run 2 (pc' := 293) (ls' := [some (.ref 0), some (.int (nI (60 * j + i))), some (.int (nI w)), some (.int (nI 1)), none]) (st' := [.int (nI 1), .int (nI w), .int (oI (p 2 i)), .ref 0]) (σ' := σ) rfl ?_
    refine am_invv (y := 219) (b := 0) (as := [.int (oI (p 2 i)), .int (nI w), .int (nI 1)]) (rest := []) rfl rfl rfl rfl rfl rfl rfl (Nat.le_of_ble_eq_true rfl) ?_
    refine c_m_did (by omega) hW.1 w2 hw (by decide) hz0 (L2 (by omega) (by first | assumption | exact V2 (by omega) | exact V3 (by omega) (by assumption))) (fun r23 ok23 ev23 => ?_)
    obtain ⟨x23a, x23b, x23c⟩ := id ok23
    show am_G _ M_X10_didOn _ 296 [some (.ref 0), some (.int (nI (60 * j + i))), some (.int (nI w)), some (.int (nI 1)), none] [.int (nI (eD r23))] σ
    refine am_invs (y := 222) (as := [.int (nI (eD r23))]) (rest := []) rfl rfl rfl rfl rfl rfl (Nat.le_of_ble_eq_true rfl) ?_
    refine c_m_leftTrap (by omega) (a := r23) ok23 ?_
    show am_G _ M_X10_didOn _ 299 [some (.ref 0), some (.int (nI (60 * j + i))), some (.int (nI w)), some (.int (nI 1)), none] [.int (nI (eD (d_trap r23)))] σ
    refine am_reti rfl rfl ?_
    refine hq (d_trap r23) (ok3_trap ok23) (fun hse => ?_)
    have e23 := ev23 hse
    rw [exB_94 h_22]
    rw [tE_trap ok23, e23]
  have h_22 : ¬ (p 0 i = 94) := fun z => h_22 ((nI_eq (by omega) (by omega)).mpr z)
  refine am_sw1 (k := nI 124) (tgt := 230) rfl (by decide) (by decide) rfl (fun (h_24 : nI (p 0 i) = nI 124) => ?_) (fun (h_24 : ¬ (nI (p 0 i) = nI 124)) => ?_)
  · have h_24 : p 0 i = 124 := (nI_eq (by omega) (by omega)).mp h_24
    refine am_run 4 (pc' := 236) (ls' := [some (.ref 0), some (.int (nI (60 * j + i))), some (.int (nI w)), some (.int (nI 1)), none]) (st' := [.int (nI (60 * j + i)), .ref 7, .ref 0]) (σ' := σ) rfl ?_
    refine am_ialdN (n := 180) (v := oI (p 2 i)) rfl rfl rfl (by omega) m2 (by decide) ?_
    refine am_run 1 (pc' := 238) (ls' := [some (.ref 0), some (.int (nI (60 * j + i))), some (.int (nI w)), some (.int (nI 1)), none]) (st' := [.int (nI w), .int (oI (p 2 i)), .ref 0]) (σ' := σ) rfl ?_
    refine am_invv (y := 226) (b := 0) (as := [.int (oI (p 2 i)), .int (nI w)]) (rest := []) rfl rfl rfl rfl rfl rfl rfl (Nat.le_of_ble_eq_true rfl) ?_
    refine c_m_onDone (by omega) hB w2 hw hz0 (L2 (by omega)) (fun r25 ok25 ev25 => ?_)
    obtain ⟨x25a, x25b, x25c⟩ := id ok25
    show am_G _ M_X10_didOn _ 241 [some (.ref 0), some (.int (nI (60 * j + i))), some (.int (nI w)), some (.int (nI 1)), none] [.int (nI (eD r25))] σ
    refine am_run 4 (pc' := 247) (ls' := [some (.ref 0), some (.int (nI (60 * j + i))), some (.int (nI w)), some (.int (nI 1)), none]) (st' := [.int (nI (60 * j + i)), .ref 8, .ref 0, .int (nI (eD r25))]) (σ' := σ) rfl ?_
    refine am_ialdN (n := 180) (v := oI (p 3 i)) rfl rfl rfl (by omega) m3 (by decide) ?_
    refine am_run 1 (pc' := 249) (ls' := [some (.ref 0), some (.int (nI (60 * j + i))), some (.int (nI w)), some (.int (nI 1)), none]) (st' := [.int (nI w), .int (oI (p 3 i)), .ref 0, .int (nI (eD r25))]) (σ' := σ) rfl ?_
    refine am_invv (y := 226) (b := 0) (as := [.int (oI (p 3 i)), .int (nI w)]) (rest := [.int (nI (eD r25))]) rfl rfl rfl rfl rfl rfl rfl (Nat.le_of_ble_eq_true rfl) ?_
    refine c_m_onDone (by omega) hB w3 hw hz0 (L3 (by omega)) (fun r26 ok26 ev26 => ?_)
    obtain ⟨x26a, x26b, x26c⟩ := id ok26
    show am_G _ M_X10_didOn _ 252 [some (.ref 0), some (.int (nI (60 * j + i))), some (.int (nI w)), some (.int (nI 1)), none] [.int (nI (eD r26)), .int (nI (eD r25))] σ
    refine am_invs (y := 221) (as := [.int (nI (eD r25)), .int (nI (eD r26))]) (rest := []) rfl rfl rfl rfl rfl rfl (Nat.le_of_ble_eq_true rfl) ?_
    refine c_m_together (by omega) (a := r25) (b := r26) ok25 ok26 ?_
    show am_G _ M_X10_didOn _ 255 [some (.ref 0), some (.int (nI (60 * j + i))), some (.int (nI w)), some (.int (nI 1)), none] [.int (nI (eD (d_par r25 r26)))] σ
    refine am_reti rfl rfl ?_
    refine hq (d_par r25 r26) (ok3_par ok25 ok26) (fun hse => ?_)
    have e25 := ev25 hse
    have e26 := ev26 hse
    rw [exB_124o h_24 hs1]
    rw [tE_par, e25, e26]
  have h_24 : ¬ (p 0 i = 124) := fun z => h_24 ((nI_eq (by omega) (by omega)).mpr z)
  refine am_sw1 (k := nI 126) (tgt := 326) rfl (by decide) (by decide) rfl (fun (h_27 : nI (p 0 i) = nI 126) => ?_) (fun (h_27 : ¬ (nI (p 0 i) = nI 126)) => ?_)
  · have h_27 : p 0 i = 126 := (nI_eq (by omega) (by omega)).mp h_27
    have hg1 : 1 ≤ p 1 i := w5 (by rw [h_27]; decide)
    have hbt := hth hg1
    refine am_run 4 (pc' := 332) (ls' := [some (.ref 0), some (.int (nI (60 * j + i))), some (.int (nI w)), some (.int (nI 1)), none]) (st' := [.int (nI (60 * j + i)), .ref 7, .ref 0]) (σ' := σ) rfl ?_
    refine am_ialdN (n := 180) (v := oI (p 2 i)) rfl rfl rfl (by omega) m2 (by decide) ?_
    refine am_run 2 (pc' := 335) (ls' := [some (.ref 0), some (.int (nI (60 * j + i))), some (.int (nI w)), some (.int (nI 1)), none]) (st' := [.int (nI 1), .int (nI w), .int (oI (p 2 i)), .ref 0]) (σ' := σ) rfl ?_
    refine am_invv (y := 219) (b := 0) (as := [.int (oI (p 2 i)), .int (nI w), .int (nI 1)]) (rest := []) rfl rfl rfl rfl rfl rfl rfl (Nat.le_of_ble_eq_true rfl) ?_
    refine c_m_did (by omega) hW.1 w2 hw (by decide) hz0 (L2 (by omega) (by first | assumption | exact V2 (by omega) | exact V3 (by omega) (by assumption))) (fun r28 ok28 ev28 => ?_)
    obtain ⟨x28a, x28b, x28c⟩ := id ok28
    show am_G _ M_X10_didOn _ 338 [some (.ref 0), some (.int (nI (60 * j + i))), some (.int (nI w)), some (.int (nI 1)), none] [.int (nI (eD r28))] σ
    refine am_run 2 (pc' := 341) (ls' := [some (.ref 0), some (.int (nI (60 * j + i))), some (.int (nI w)), some (.int (nI 1)), some (.int (nI (eD r28)))]) (st' := [.int (nI 1)]) (σ' := σ) rfl ?_
    refine am_if (ty := 366) (tn := 344) rfl (by decide) rfl rfl (fun (h_29 : nI 1 = 0) => ?_) (fun (h_29 : ¬ (nI 1 = 0)) => ?_)
    · exact absurd h_29 (by decide)
    refine am_run 1 (pc' := 346) (ls' := [some (.ref 0), some (.int (nI (60 * j + i))), some (.int (nI w)), some (.int (nI 1)), some (.int (nI (eD r28)))]) (st' := [.int (nI (eD r28))]) (σ' := σ) rfl ?_
    refine am_invs (y := 216) (as := [.int (nI (eD r28))]) (rest := []) rfl rfl rfl rfl rfl rfl (Nat.le_of_ble_eq_true rfl) ?_
    refine c_m_codeOf (by omega) (v := r28) ok28 ?_
    show am_G _ M_X10_didOn _ 349 [some (.ref 0), some (.int (nI (60 * j + i))), some (.int (nI w)), some (.int (nI 1)), some (.int (nI (eD r28)))] [.int (nI r28.1)] σ
    refine am_run 1 (pc' := 350) (ls' := [some (.ref 0), some (.int (nI (60 * j + i))), some (.int (nI w)), some (.int (nI 1)), some (.int (nI (eD r28)))]) (st' := [.int (nI 1), .int (nI r28.1)]) (σ' := σ) rfl ?_
    refine am_ic (ty := 353) (tn := 366) rfl (by decide) rfl rfl (fun (h_30 : nI r28.1 = nI 1) => ?_) (fun (h_30 : ¬ (nI r28.1 = nI 1)) => ?_)
    · have h_30 : r28.1 = 1 := (nI_eq (by omega) (by omega)).mp h_30
      refine am_run 2 (pc' := 356) (ls' := [some (.ref 0), some (.int (nI (60 * j + i))), some (.int (nI w)), some (.int (nI 1)), some (.int (nI (eD r28)))]) (st' := [.int (nI (eD r28)), .int (nI 0)]) (σ' := σ) rfl ?_
      refine am_invs (y := 217) (as := [.int (nI (eD r28))]) (rest := [.int (nI 0)]) rfl rfl rfl rfl rfl rfl (Nat.le_of_ble_eq_true rfl) ?_
      refine c_m_isBad (by omega) (v := r28) ok28 (fun hz_31 => ?_) (fun hz_31 => ?_)
      · show am_G _ M_X10_didOn _ 359 [some (.ref 0), some (.int (nI (60 * j + i))), some (.int (nI w)), some (.int (nI 1)), some (.int (nI (eD r28)))] [.int (nI 1), .int (nI 0)] σ
        refine am_run 1 (pc' := 360) (ls' := [some (.ref 0), some (.int (nI (60 * j + i))), some (.int (nI w)), some (.int (nI 1)), some (.int (nI (eD r28)))]) (st' := [.int (nI 0), .int (nI 1), .int (nI 0)]) (σ' := σ) rfl ?_
        refine am_invs (y := 215) (as := [.int (nI 0), .int (nI 1), .int (nI 0)]) (rest := []) rfl rfl rfl rfl rfl rfl (Nat.le_of_ble_eq_true rfl) ?_
        refine c_m_done1 (by omega) (c := 0) (q := 0) (by omega) (by first | omega | exact or_lt20 (by omega) (by omega)) ?_
        show am_G _ M_X10_didOn _ 363 [some (.ref 0), some (.int (nI (60 * j + i))), some (.int (nI w)), some (.int (nI 1)), some (.int (nI (eD r28)))] [.int (nI (eD (dne 0 true 0)))] σ
        refine am_run 1 (pc' := 368) (ls' := [some (.ref 0), some (.int (nI (60 * j + i))), some (.int (nI w)), some (.int (nI 1)), some (.int (nI (eD r28)))]) (st' := [.int (nI (eD (dne 0 true 0)))]) (σ' := σ) rfl ?_
        refine am_reti rfl rfl ?_
        refine hq (dne 0 true 0) (ok3_dne _ (by omega) (by omega)) (fun hse => ?_)
        rw [exB_126o h_27 hs1]
        first | rw [if_pos (by assumption)] | rw [if_neg (nfl (by assumption))] | rw [if_neg (ntr (by assumption))]
        rw [← ev28 hse, ← tE_weak1 (by assumption)]
        rw [hz_31]
      · show am_G _ M_X10_didOn _ 359 [some (.ref 0), some (.int (nI (60 * j + i))), some (.int (nI w)), some (.int (nI 1)), some (.int (nI (eD r28)))] [.int (nI 0), .int (nI 0)] σ
        refine am_run 1 (pc' := 360) (ls' := [some (.ref 0), some (.int (nI (60 * j + i))), some (.int (nI w)), some (.int (nI 1)), some (.int (nI (eD r28)))]) (st' := [.int (nI 0), .int (nI 0), .int (nI 0)]) (σ' := σ) rfl ?_
        refine am_invs (y := 215) (as := [.int (nI 0), .int (nI 0), .int (nI 0)]) (rest := []) rfl rfl rfl rfl rfl rfl (Nat.le_of_ble_eq_true rfl) ?_
        refine c_m_done0 (by omega) (c := 0) (q := 0) (by omega) (by first | omega | exact or_lt20 (by omega) (by omega)) ?_
        show am_G _ M_X10_didOn _ 363 [some (.ref 0), some (.int (nI (60 * j + i))), some (.int (nI w)), some (.int (nI 1)), some (.int (nI (eD r28)))] [.int (nI (eD (dne 0 false 0)))] σ
        refine am_run 1 (pc' := 368) (ls' := [some (.ref 0), some (.int (nI (60 * j + i))), some (.int (nI w)), some (.int (nI 1)), some (.int (nI (eD r28)))]) (st' := [.int (nI (eD (dne 0 false 0)))]) (σ' := σ) rfl ?_
        refine am_reti rfl rfl ?_
        refine hq (dne 0 false 0) (ok3_dne _ (by omega) (by omega)) (fun hse => ?_)
        rw [exB_126o h_27 hs1]
        first | rw [if_pos (by assumption)] | rw [if_neg (nfl (by assumption))] | rw [if_neg (ntr (by assumption))]
        rw [← ev28 hse, ← tE_weak1 (by assumption)]
        rw [hz_31]
    · have h_30 : ¬ (r28.1 = 1) := fun z => h_30 ((nI_eq (by omega) (by omega)).mpr z)
      refine am_run 1 (pc' := 368) (ls' := [some (.ref 0), some (.int (nI (60 * j + i))), some (.int (nI w)), some (.int (nI 1)), some (.int (nI (eD r28)))]) (st' := [.int (nI (eD r28))]) (σ' := σ) rfl ?_
      refine am_reti rfl rfl ?_
      refine hq (r28) ok28 (fun hse => ?_)
      have e28 := ev28 hse
      rw [exB_126o h_27 hs1]
      first | rw [if_pos (by assumption)] | rw [if_neg (nfl (by assumption))] | rw [if_neg (ntr (by assumption))]
      rw [← e28, tE_weak0 (by assumption)]
  have h_27 : ¬ (p 0 i = 126) := fun z => h_27 ((nI_eq (by omega) (by omega)).mpr z)
  refine am_sw0 (tgt := 377) (by decide) rfl ?_
  refine am_run 3 (pc' := 380) (ls' := [some (.ref 0), some (.int (nI (60 * j + i))), some (.int (nI w)), some (.int (nI 1)), none]) (st' := [.int (nI 0), .int (nI 0), .int (nI 0)]) (σ' := σ) rfl ?_
  refine am_invs (y := 215) (as := [.int (nI 0), .int (nI 0), .int (nI 0)]) (rest := []) rfl rfl rfl rfl rfl rfl (Nat.le_of_ble_eq_true rfl) ?_
  refine c_m_done0 (by omega) (c := 0) (q := 0) (by omega) (by first | omega | exact or_lt20 (by omega) (by omega)) ?_
  show am_G _ M_X10_didOn _ 383 [some (.ref 0), some (.int (nI (60 * j + i))), some (.int (nI w)), some (.int (nI 1)), none] [.int (nI (eD (dne 0 false 0)))] σ
  refine am_reti rfl rfl ?_
  have h46 : p 0 i = 46 := T46 T0 (by assumption) (by assumption) (by assumption) (by assumption) (by assumption) (by assumption) (by assumption) (by assumption) (by assumption)
  refine hq (dne 0 false 0) (ok3_dne _ (by omega) (by omega)) (fun hse => ?_)
  rw [exB_46o h46 hs1]
  rfl
set_option maxRecDepth 10000 in
set_option maxHeartbeats 2000000 in
theorem c_m_didOn {d : Nat} (hd : 8 ≤ d) {σ : am_M} {j s P A n : Nat} {p : Pg} {dp : Nat → Nat} {ow : Nat → Nat → Nat} (hB : MB σ j s P A p n dp ow) {i w : Nat} {E : Nat × Nat} (hi : i < n) (hw3 : w < 3 ^ dp i) (hE : evn (ow i) w P A (dp i) = E) (hz0 : σ.1 30 3240 = nI (eD (0, false, 0))) (RO : p 0 i = 46 ∨ p 0 i = 38 → ∃ ri, σ.1 12 (60 * j + i) = nI ri ∧ ri < 20 ∧ p 4 i = 2 ^ ri) (hs1 : ¬ s = ST) (T0 : p 0 i = 36 ∨ p 0 i = 38 ∨ p 0 i = 42 ∨ p 0 i = 46 ∨ p 0 i = 59 ∨ p 0 i = 63 ∨ p 0 i = 64 ∨ p 0 i = 94 ∨ p 0 i = 124 ∨ p 0 i = 126) (K2 : ¬ p 0 i = 36 → KE σ p (p 2 i) w 0 ST E) (K3 : ¬ p 0 i = 36 → KE σ p (p 3 i) w 0 ST E) (L2 : ¬ p 0 i = 36 → lv p (p 2 i) s = true → KE σ p (p 2 i) w 1 s E) (L3 : ¬ p 0 i = 36 → lv p (p 3 i) s = true → KE σ p (p 3 i) w 1 s E) (V2 : p 0 i = 42 ∨ p 0 i = 94 ∨ p 0 i = 64 ∨ p 0 i = 126 → lv p (p 2 i) s = true) (V3 : p 0 i = 63 ∨ p 0 i = 59 → lv p (p 2 i) s = false → lv p (p 3 i) s = true) (D36 : p 0 i = 36 → dp i ≤ 2) (T36 : p 0 i = 36 → KD σ p (p 2 i) w 2 s true (up3 E (p 1 i - 1) 0)) (K36 : p 0 i = 36 → ∀ h, h < 3 → KE σ p (p 2 i) (w + h * 3 ^ dp i) 1 s (up3 E (p 1 i - 1) h)) {Q : am_Q} (hq : ∀ v, ok3 v → (SE E → tE v = exB p (ex p 61) (an p 61) i s E.1) → Q (some (.int (nI (eD v)))) σ) : am_C d 227 [.ref 0, .int (nI (60 * j + i)), .int (nI w)] σ Q := by
  obtain ⟨hj, hS, hW, hs, hN, hdj, hP, hA⟩ := id hB
  obtain ⟨hS1, hS2, hS3, hS4⟩ := id hS
  obtain ⟨⟨m0, m1, m2, m3, m4, m5, m6⟩, hdp, how⟩ := hN i hi
  obtain ⟨w0, w1, w2, w3, w4, w5, w6⟩ := hW.2 i hi
  have hn60 := hW.1
  have hw := wy0 hdp hw3
  by_cases hp1 : p 1 i = 0
  · skip
    refine am_enter' (M := M_X10_didOn) rfl rfl rfl (by omega) (ls := [some (.ref 0), some (.int (nI (60 * j + i))), some (.int (nI w)), none, none]) rfl (fun d' hd' => ?_)
    refine am_run 3 (pc' := 5) (ls' := [some (.ref 0), some (.int (nI (60 * j + i))), some (.int (nI w)), none, none]) (st' := [.int (nI (60 * j + i)), .ref 6]) (σ' := σ) rfl ?_
    refine am_ialdN (n := 180) (v := -1) rfl rfl rfl (by omega) (by rw [m1, hp1]; rfl) (by decide) ?_
    refine am_run 1 (pc' := 7) (ls' := [some (.ref 0), some (.int (nI (60 * j + i))), some (.int (nI w)), none, none]) (st' := [.int (-1), .int (-1)]) (σ' := σ) rfl ?_
    refine am_ic (ty := 30) (tn := 10) rfl (by decide) rfl rfl (fun (h_1 : -1 = -1) => ?_) (fun (h_1 : ¬ (-1 = -1)) => ?_)
    rotate_left
    · exact absurd (by decide) h_1
    refine am_run 2 (pc' := 32) (ls' := [some (.ref 0), some (.int (nI (60 * j + i))), some (.int (nI w)), some (.int (nI 0)), none]) (st' := []) (σ' := σ) rfl ?_
    exact c_m_didOn_mid0 (by omega) hB hi hw3 hE hz0 RO (fun z => absurd z (by omega)) hs1 T0 K2 K3 L2 L3 V2 V3 D36 T36 K36 hq
  refine am_enter' (M := M_X10_didOn) rfl rfl rfl (by omega) (ls := [some (.ref 0), some (.int (nI (60 * j + i))), some (.int (nI w)), none, none]) rfl (fun d' hd' => ?_)
  refine am_run 3 (pc' := 5) (ls' := [some (.ref 0), some (.int (nI (60 * j + i))), some (.int (nI w)), none, none]) (st' := [.int (nI (60 * j + i)), .ref 6]) (σ' := σ) rfl ?_
  refine am_ialdN (n := 180) (v := nI (p 1 i - 1)) rfl rfl rfl (by omega) (by rw [m1]; exact oI_p (by omega)) (by decide) ?_
  refine am_run 1 (pc' := 7) (ls' := [some (.ref 0), some (.int (nI (60 * j + i))), some (.int (nI w)), none, none]) (st' := [.int (-1), .int (nI (p 1 i - 1))]) (σ' := σ) rfl ?_
  refine am_ic (ty := 30) (tn := 10) rfl (by decide) rfl rfl (fun (h_1 : nI (p 1 i - 1) = -1) => ?_) (fun (h_1 : ¬ (nI (p 1 i - 1) = -1)) => ?_)
  · exact absurd h_1 (am_nm1 (by omega))
  refine am_run 6 (pc' := 18) (ls' := [some (.ref 0), some (.int (nI (60 * j + i))), some (.int (nI w)), none, none]) (st' := [.int (nI (60 * j + i)), .ref 6, .int (nI w), .int (nI (60 * j + i)), .ref 0]) (σ' := σ) rfl ?_
  refine am_ialdN (n := 180) (v := nI (p 1 i - 1)) rfl rfl rfl (by omega) (by rw [m1]; exact oI_p (by omega)) (by decide) ?_
  refine am_invv (y := 192) (b := 0) (as := [.int (nI (60 * j + i)), .int (nI w), .int (nI (p 1 i - 1))]) (rest := []) rfl rfl rfl rfl rfl rfl rfl (Nat.le_of_ble_eq_true rfl) ?_
  refine c_m_isAt3 (by omega) hB (g := p 1 i - 1) hi hw (by omega) hE (fun ha_2 hb_2 => ?_) (fun ha_2 hb_2 => ?_) (fun ha_2 hb_2 => ?_)
  · show am_G _ M_X10_didOn _ 22 [some (.ref 0), some (.int (nI (60 * j + i))), some (.int (nI w)), none, none] [.int (nI 1)] σ
    refine am_run 1 (pc' := 23) (ls' := [some (.ref 0), some (.int (nI (60 * j + i))), some (.int (nI w)), none, none]) (st' := [.int (nI 1), .int (nI 1)]) (σ' := σ) rfl ?_
    refine am_ic (ty := 26) (tn := 30) rfl (by decide) rfl rfl (fun (h_3 : nI 1 = nI 1) => ?_) (fun (h_3 : ¬ (nI 1 = nI 1)) => ?_)
    rotate_left
    · exact absurd (by decide) h_3
    refine am_run 3 (pc' := 32) (ls' := [some (.ref 0), some (.int (nI (60 * j + i))), some (.int (nI w)), some (.int (nI 1)), none]) (st' := []) (σ' := σ) rfl ?_
    exact c_m_didOn_mid1 (by omega) hB hi hw3 hE hz0 RO (fun _ => by assumption) hs1 T0 K2 K3 L2 L3 V2 V3 D36 T36 K36 hq
  · show am_G _ M_X10_didOn _ 22 [some (.ref 0), some (.int (nI (60 * j + i))), some (.int (nI w)), none, none] [.int (nI 2)] σ
    refine am_run 1 (pc' := 23) (ls' := [some (.ref 0), some (.int (nI (60 * j + i))), some (.int (nI w)), none, none]) (st' := [.int (nI 1), .int (nI 2)]) (σ' := σ) rfl ?_
    refine am_ic (ty := 26) (tn := 30) rfl (by decide) rfl rfl (fun (h_4 : nI 2 = nI 1) => ?_) (fun (h_4 : ¬ (nI 2 = nI 1)) => ?_)
    · exact absurd h_4 (by decide)
    refine am_run 2 (pc' := 32) (ls' := [some (.ref 0), some (.int (nI (60 * j + i))), some (.int (nI w)), some (.int (nI 0)), none]) (st' := []) (σ' := σ) rfl ?_
    exact c_m_didOn_mid0 (by omega) hB hi hw3 hE hz0 RO (fun _ => by assumption) hs1 T0 K2 K3 L2 L3 V2 V3 D36 T36 K36 hq
  · show am_G _ M_X10_didOn _ 22 [some (.ref 0), some (.int (nI (60 * j + i))), some (.int (nI w)), none, none] [.int (nI 0)] σ
    refine am_run 1 (pc' := 23) (ls' := [some (.ref 0), some (.int (nI (60 * j + i))), some (.int (nI w)), none, none]) (st' := [.int (nI 1), .int (nI 0)]) (σ' := σ) rfl ?_
    refine am_ic (ty := 26) (tn := 30) rfl (by decide) rfl rfl (fun (h_5 : nI 0 = nI 1) => ?_) (fun (h_5 : ¬ (nI 0 = nI 1)) => ?_)
    · exact absurd h_5 (by decide)
    refine am_run 2 (pc' := 32) (ls' := [some (.ref 0), some (.int (nI (60 * j + i))), some (.int (nI w)), some (.int (nI 0)), none]) (st' := []) (σ' := σ) rfl ?_
    exact c_m_didOn_mid0 (by omega) hB hi hw3 hE hz0 RO (fun _ => by assumption) hs1 T0 K2 K3 L2 L3 V2 V3 D36 T36 K36 hq

/-! what the reference packs of an execution: code, badness, rests -/
abbrev D3 : Type := Nat × Bool × Nat
def eD (v : D3) : Nat := v.1 + (if v.2.1 = true then 8 else 0) + 16 * v.2.2
def ok3 (v : D3) : Prop := v.1 ≤ 6 ∧ v.2.2 < 1048576 ∧ (v.1 = 1 ∨ v.2.2 = 0)
def tE (v : D3) : E2 := if v.2.1 = true then none else some (v.1, v.2.2)
def dne (c : Nat) (b : Bool) (q : Nat) : D3 := (c, b, if c = 1 then q else 0)
def d_then (a b : D3) : D3 := if a.1 = 0 then dne b.1 (a.2.1 || b.2.1) b.2.2 else a
def d_par (a b : D3) : D3 := dne (max a.1 b.1) (a.2.1 || b.2.1) (a.2.2 ||| b.2.2)
def d_trap (a : D3) : D3 := dne (if a.1 = 2 then 0 else if 2 < a.1 then a.1 - 1 else a.1) a.2.1 a.2.2
theorem ok3_dne {c q : Nat} (b : Bool) (hc : c ≤ 6) (hq : q < 1048576) : ok3 (dne c b q) := by
  refine ⟨hc, ?_, ?_⟩
  · show (if c = 1 then q else 0) < 1048576
    split
    · exact hq
    · decide
  · show c = 1 ∨ (if c = 1 then q else 0) = 0
    split
    · exact Or.inl ‹_›
    · exact Or.inr rfl
theorem ok3_then {a b : D3} (ha : ok3 a) (hb : ok3 b) : ok3 (d_then a b) := by
  unfold d_then
  split
  · exact ok3_dne _ hb.1 hb.2.1
  · exact ha
theorem ok3_par {a b : D3} (ha : ok3 a) (hb : ok3 b) : ok3 (d_par a b) := ok3_dne _ (Nat.max_le.mpr ⟨ha.1, hb.1⟩) (or_lt20 ha.2.1 hb.2.1)
theorem ok3_trap {a : D3} (ha : ok3 a) : ok3 (d_trap a) := by
  refine ok3_dne _ ?_ ha.2.1
  have := ha.1
  split
  · decide
  · split <;> omega
theorem dne_v {v : D3} (h : ok3 v) : dne v.1 v.2.1 v.2.2 = v := by
  obtain ⟨c, b, q⟩ := v
  unfold dne
  have h3 : c = 1 ∨ q = 0 := h.2.2
  show (c, b, if c = 1 then q else 0) = (c, b, q)
  by_cases e : c = 1
  · rw [if_pos e]
  · rw [if_neg e, h3.resolve_left e]
theorem tE_then {a b : D3} (hb : ok3 b) : tE (d_then a b) = x_seq (tE a) (tE b) := by
  obtain ⟨ca, ba, qa⟩ := a
  unfold d_then x_seq
  cases ba
  · by_cases e : ca = 0
    · subst e
      have := dne_v hb
      simp only [if_true, Bool.false_or]
      rw [this]
      simp [tE]
    · simp [tE, e]
  · by_cases e : ca = 0
    · subst e
      simp [tE, dne]
    · simp [tE, e]
theorem tE_par {a b : D3} : tE (d_par a b) = x_par (tE a) (tE b) := by
  obtain ⟨ca, ba, qa⟩ := a
  obtain ⟨cb, bb, qb⟩ := b
  cases ba <;> cases bb <;> rfl
theorem tE_trap {a : D3} (ha : ok3 a) : tE (d_trap a) = x_trap (tE a) := by
  obtain ⟨ca, ba, qa⟩ := a
  cases ba
  · have h3 : ca = 1 ∨ qa = 0 := ha.2.2
    show some ((if ca = 2 then 0 else if 2 < ca then ca - 1 else ca), if (if ca = 2 then 0 else if 2 < ca then ca - 1 else ca) = 1 then qa else 0) = (if ca < 2 then some (ca, qa) else some (if ca = 2 then 0 else ca - 1, 0))
    rcases Nat.lt_or_ge ca 2 with z | z
    · rw [if_pos z, if_neg (by omega), if_neg (by omega)]
      by_cases e : ca = 1
      · rw [if_pos e]
      · rw [if_neg e, h3.resolve_left e]
    · rw [if_neg (show ¬ ca < 2 by omega)]
      by_cases e : ca = 2
      · rw [if_pos e, if_pos e]; rfl
      · rw [if_neg e, if_neg e, if_pos (by omega), if_neg (by omega)]
  · rfl
theorem tE_v {v : D3} (h : ok3 v) : tE (dne v.1 v.2.1 v.2.2) = tE v := by rw [dne_v h]
theorem tE_bad {c q : Nat} : tE (dne c true q) = none := rfl
theorem or8 : ∀ c, c < 8 → c ||| 8 = c + 8 := by decide
theorem eD_b {v : D3} (h : v.1 < 8) : (eD v).testBit 3 = v.2.1 := by
  obtain ⟨c, b, q⟩ := v
  have h : c < 8 := h
  rw [Nat.testBit_eq_decide_div_mod_eq]
  cases b
  · have : eD (c, false, q) = c + 0 + 16 * q := rfl
    rw [this]
    simp only [decide_eq_false_iff_not]
    omega
  · have : eD (c, true, q) = c + 8 + 16 * q := rfl
    rw [this]
    simp only [decide_eq_true_eq]
    omega
theorem eD_lt {v : D3} (h : ok3 v) : eD v < 2 ^ 31 := by
  obtain ⟨h1, h2, -⟩ := h
  unfold eD
  split <;> omega
theorem eD_7 {v : D3} (h : ok3 v) : eD v % 8 = v.1 := by
  obtain ⟨h1, h2, -⟩ := h
  unfold eD
  split <;> omega
theorem eD_16 {v : D3} (h : ok3 v) : eD v / 2 ^ 4 = v.2.2 := by
  obtain ⟨h1, h2, -⟩ := h
  unfold eD
  split <;> omega
theorem eD_d0 (c : Nat) {q : Nat} (b : Bool) (h : ¬ c = 1) : eD (dne c b q) = c + (if b = true then 8 else 0) := by
  unfold eD dne
  simp [h]
theorem eD_d1 (b : Bool) (q : Nat) : eD (dne 1 b q) = 1 + (if b = true then 8 else 0) + 16 * q := rfl
set_option maxRecDepth 10000 in
set_option maxHeartbeats 2000000 in
theorem c_m_done0 {d : Nat} (hd : 1 ≤ d) {σ : am_M} {Q : am_Q} {c q : Nat} (hc : c < 8) (hq20 : q < 1048576) (hq : Q (some (.int (nI (eD (dne c false q))))) σ) : am_C d 215 [.int (nI c), .int (nI 0), .int (nI q)] σ Q := by
  refine am_enter' (M := M_X10_done) rfl rfl rfl (by omega) (ls := [some (.int (nI c)), some (.int (nI 0)), some (.int (nI q))]) rfl (fun d' hd' => ?_)
  refine am_run 2 (pc' := 2) (ls' := [some (.int (nI c)), some (.int (nI 0)), some (.int (nI q))]) (st' := [.int (nI 0), .int (nI c)]) (σ' := σ) rfl ?_
  refine am_if (ty := 10) (tn := 5) rfl (by decide) rfl rfl (fun (h_1 : nI 0 = 0) => ?_) (fun (h_1 : ¬ (nI 0 = 0)) => ?_)
  rotate_left
  · exact absurd (by decide) h_1
  refine am_run 2 (pc' := 12) (ls' := [some (.int (nI c)), some (.int (nI 0)), some (.int (nI q))]) (st' := [.int (nI c ||| nI 0)]) (σ' := σ) rfl ?_
  refine am_top (v' := nI (c + 0)) (by rw [nx_or, Nat.or_zero]; rfl) ?_
  refine am_run 2 (pc' := 14) (ls' := [some (.int (nI c)), some (.int (nI 0)), some (.int (nI q))]) (st' := [.int (nI 1), .int (nI c), .int (nI (c + 0))]) (σ' := σ) rfl ?_
  refine am_ic (ty := 17) (tn := 23) rfl (by decide) rfl rfl (fun (h_2 : nI c = nI 1) => ?_) (fun (h_2 : ¬ (nI c = nI 1)) => ?_)
  · have h_2 : c = 1 := (nI_eq (by omega) (by omega)).mp h_2
    refine am_run 3 (pc' := 20) (ls' := [some (.int (nI c)), some (.int (nI 0)), some (.int (nI q))]) (st' := [.int ((nI q) <<< ((nI 4) &&& 31)), .int (nI (c + 0))]) (σ' := σ) rfl ?_
    refine am_top (v' := nI (q * 2 ^ 4)) (nx_shl _ (by decide)) ?_
    refine am_run 2 (pc' := 25) (ls' := [some (.int (nI c)), some (.int (nI 0)), some (.int (nI q))]) (st' := [.int (nI (c + 0) ||| nI (q * 2 ^ 4))]) (σ' := σ) rfl ?_
    refine am_top (v' := nI (eD (dne c false q))) (by rw [nx_or, h_2, eD_d1, Nat.mul_comm, nx_orAdd (k := 4) 16 rfl (by decide)]; rfl) ?_
    refine am_reti rfl rfl ?_
    exact hq
  · have h_2 : ¬ (c = 1) := fun z => h_2 ((nI_eq (by omega) (by omega)).mpr z)
    refine am_run 2 (pc' := 25) (ls' := [some (.int (nI c)), some (.int (nI 0)), some (.int (nI q))]) (st' := [.int (nI (c + 0) ||| nI 0)]) (σ' := σ) rfl ?_
    refine am_top (v' := nI (eD (dne c false q))) (by rw [nx_or, Nat.or_zero, eD_d0 c false h_2]; rfl) ?_
    refine am_reti rfl rfl ?_
    exact hq
set_option maxRecDepth 10000 in
set_option maxHeartbeats 2000000 in
theorem c_m_done1 {d : Nat} (hd : 1 ≤ d) {σ : am_M} {Q : am_Q} {c q : Nat} (hc : c < 8) (hq20 : q < 1048576) (hq : Q (some (.int (nI (eD (dne c true q))))) σ) : am_C d 215 [.int (nI c), .int (nI 1), .int (nI q)] σ Q := by
  refine am_enter' (M := M_X10_done) rfl rfl rfl (by omega) (ls := [some (.int (nI c)), some (.int (nI 1)), some (.int (nI q))]) rfl (fun d' hd' => ?_)
  refine am_run 2 (pc' := 2) (ls' := [some (.int (nI c)), some (.int (nI 1)), some (.int (nI q))]) (st' := [.int (nI 1), .int (nI c)]) (σ' := σ) rfl ?_
  refine am_if (ty := 10) (tn := 5) rfl (by decide) rfl rfl (fun (h_1 : nI 1 = 0) => ?_) (fun (h_1 : ¬ (nI 1 = 0)) => ?_)
  · exact absurd h_1 (by decide)
  refine am_run 3 (pc' := 12) (ls' := [some (.int (nI c)), some (.int (nI 1)), some (.int (nI q))]) (st' := [.int (nI c ||| nI 8)]) (σ' := σ) rfl ?_
  refine am_top (v' := nI (c + 8)) (by rw [nx_or, or8 c hc]) ?_
  refine am_run 2 (pc' := 14) (ls' := [some (.int (nI c)), some (.int (nI 1)), some (.int (nI q))]) (st' := [.int (nI 1), .int (nI c), .int (nI (c + 8))]) (σ' := σ) rfl ?_
  refine am_ic (ty := 17) (tn := 23) rfl (by decide) rfl rfl (fun (h_2 : nI c = nI 1) => ?_) (fun (h_2 : ¬ (nI c = nI 1)) => ?_)
  · have h_2 : c = 1 := (nI_eq (by omega) (by omega)).mp h_2
    refine am_run 3 (pc' := 20) (ls' := [some (.int (nI c)), some (.int (nI 1)), some (.int (nI q))]) (st' := [.int ((nI q) <<< ((nI 4) &&& 31)), .int (nI (c + 8))]) (σ' := σ) rfl ?_
    refine am_top (v' := nI (q * 2 ^ 4)) (nx_shl _ (by decide)) ?_
    refine am_run 2 (pc' := 25) (ls' := [some (.int (nI c)), some (.int (nI 1)), some (.int (nI q))]) (st' := [.int (nI (c + 8) ||| nI (q * 2 ^ 4))]) (σ' := σ) rfl ?_
    refine am_top (v' := nI (eD (dne c true q))) (by rw [nx_or, h_2, eD_d1, Nat.mul_comm, nx_orAdd (k := 4) 16 rfl (by decide)]; rfl) ?_
    refine am_reti rfl rfl ?_
    exact hq
  · have h_2 : ¬ (c = 1) := fun z => h_2 ((nI_eq (by omega) (by omega)).mpr z)
    refine am_run 2 (pc' := 25) (ls' := [some (.int (nI c)), some (.int (nI 1)), some (.int (nI q))]) (st' := [.int (nI (c + 8) ||| nI 0)]) (σ' := σ) rfl ?_
    refine am_top (v' := nI (eD (dne c true q))) (by rw [nx_or, Nat.or_zero, eD_d0 c true h_2]; rfl) ?_
    refine am_reti rfl rfl ?_
    exact hq
set_option maxRecDepth 10000 in
set_option maxHeartbeats 2000000 in
theorem c_m_codeOf {d : Nat} (hd : 1 ≤ d) {σ : am_M} {Q : am_Q} {v : D3} (hv : ok3 v) (hq : Q (some (.int (nI v.1))) σ) : am_C d 216 [.int (nI (eD v))] σ Q := by
  refine am_enter' (M := M_X10_codeOf) rfl rfl rfl (by omega) (ls := [some (.int (nI (eD v)))]) rfl (fun d' hd' => ?_)
  refine am_run 3 (pc' := 4) (ls' := [some (.int (nI (eD v)))]) (st' := [.int (nI (eD v) &&& nI 7)]) (σ' := σ) rfl ?_
  refine am_top (v' := nI v.1) (by rw [show nI 7 = nI (8 - 1) from rfl, nx_mask (k := 3) _ rfl, eD_7 hv]) ?_
  refine am_reti rfl rfl ?_
  exact hq
set_option maxRecDepth 10000 in
set_option maxHeartbeats 2000000 in
theorem c_m_restsOf {d : Nat} (hd : 1 ≤ d) {σ : am_M} {Q : am_Q} {v : D3} (hv : ok3 v) (hq : Q (some (.int (nI v.2.2))) σ) : am_C d 218 [.int (nI (eD v))] σ Q := by
  refine am_enter' (M := M_X10_restsOf) rfl rfl rfl (by omega) (ls := [some (.int (nI (eD v)))]) rfl (fun d' hd' => ?_)
  refine am_run 3 (pc' := 3) (ls' := [some (.int (nI (eD v)))]) (st' := [.int ((nI (eD v)) >>> ((nI 4) &&& 31))]) (σ' := σ) rfl ?_
  refine am_top (v' := nI v.2.2) (by rw [nx_shr (eD_lt hv) (by decide), eD_16 hv]) ?_
  refine am_reti rfl rfl ?_
  exact hq
set_option maxRecDepth 10000 in
set_option maxHeartbeats 2000000 in
theorem c_m_isBad {d : Nat} (hd : 2 ≤ d) {σ : am_M} {Q : am_Q} {v : D3} (hv : ok3 v) (h1 : v.2.1 = true → Q (some (.int (nI 1))) σ) (h0 : v.2.1 = false → Q (some (.int (nI 0))) σ) : am_C d 217 [.int (nI (eD v))] σ Q := by
  have hb := eD_b (v := v) (by have := hv.1; omega)
  refine am_enter' (M := M_X10_isBad) rfl rfl rfl (by omega) (ls := [some (.int (nI (eD v)))]) rfl (fun d' hd' => ?_)
  refine am_run 2 (pc' := 2) (ls' := [some (.int (nI (eD v)))]) (st' := [.int (nI 3), .int (nI (eD v))]) (σ' := σ) rfl ?_
  refine am_invs (y := 149) (as := [.int (nI (eD v)), .int (nI 3)]) (rest := []) rfl rfl rfl rfl rfl rfl (Nat.le_of_ble_eq_true rfl) ?_
  refine c_m_has (by omega) (a := eD v) (s := 3) (eD_lt hv) (by decide) (fun hz => ?_) (fun hz => ?_)
  · show am_G _ M_X10_isBad _ 5 [some (.int (nI (eD v)))] [.int (nI 1)] σ
    refine am_retz rfl rfl (by decide) ?_
    exact h1 (by rw [← hb]; exact hz)
  · show am_G _ M_X10_isBad _ 5 [some (.int (nI (eD v)))] [.int (nI 0)] σ
    refine am_retz rfl rfl (by decide) ?_
    exact h0 (by rw [← hb]; exact hz)
set_option maxRecDepth 10000 in
set_option maxHeartbeats 2000000 in
theorem c_m_then {d : Nat} (hd : 3 ≤ d) {σ : am_M} {Q : am_Q} {a b : D3} (ha : ok3 a) (hb : ok3 b) (hq : Q (some (.int (nI (eD (d_then a b))))) σ) : am_C d 220 [.int (nI (eD a)), .int (nI (eD b))] σ Q := by
  obtain ⟨a1, a2, a3⟩ := id ha
  obtain ⟨b1, b2, b3⟩ := id hb
  refine am_enter' (M := M_X10_then) rfl rfl rfl (by omega) (ls := [some (.int (nI (eD a))), some (.int (nI (eD b)))]) rfl (fun d' hd' => ?_)
  refine am_run 1 (pc' := 1) (ls' := [some (.int (nI (eD a))), some (.int (nI (eD b)))]) (st' := [.int (nI (eD a))]) (σ' := σ) rfl ?_
  refine am_invs (y := 216) (as := [.int (nI (eD a))]) (rest := []) rfl rfl rfl rfl rfl rfl (Nat.le_of_ble_eq_true rfl) ?_
  refine c_m_codeOf (by omega) (v := a) ha ?_
  show am_G _ M_X10_then _ 4 [some (.int (nI (eD a))), some (.int (nI (eD b)))] [.int (nI a.1)] σ
  refine am_if (ty := 11) (tn := 7) rfl (by decide) rfl rfl (fun (h_1 : nI a.1 = 0) => ?_) (fun (h_1 : ¬ (nI a.1 = 0)) => ?_)
  · have h_1 : a.1 = 0 := (am_n0 (by omega)).mp h_1
    refine am_run 1 (pc' := 12) (ls' := [some (.int (nI (eD a))), some (.int (nI (eD b)))]) (st' := [.int (nI (eD b))]) (σ' := σ) rfl ?_
    refine am_invs (y := 216) (as := [.int (nI (eD b))]) (rest := []) rfl rfl rfl rfl rfl rfl (Nat.le_of_ble_eq_true rfl) ?_
    refine c_m_codeOf (by omega) (v := b) hb ?_
    show am_G _ M_X10_then _ 15 [some (.int (nI (eD a))), some (.int (nI (eD b)))] [.int (nI b.1)] σ
    refine am_run 1 (pc' := 16) (ls' := [some (.int (nI (eD a))), some (.int (nI (eD b)))]) (st' := [.int (nI (eD a)), .int (nI b.1)]) (σ' := σ) rfl ?_
    refine am_invs (y := 217) (as := [.int (nI (eD a))]) (rest := [.int (nI b.1)]) rfl rfl rfl rfl rfl rfl (Nat.le_of_ble_eq_true rfl) ?_
    refine c_m_isBad (by omega) (v := a) ha (fun hz_2 => ?_) (fun hz_2 => ?_)
    · show am_G _ M_X10_then _ 19 [some (.int (nI (eD a))), some (.int (nI (eD b)))] [.int (nI 1), .int (nI b.1)] σ
      refine am_if (ty := 22) (tn := 29) rfl (by decide) rfl rfl (fun (h_3 : nI 1 = 0) => ?_) (fun (h_3 : ¬ (nI 1 = 0)) => ?_)
      · exact absurd h_3 (by decide)
      refine am_run 3 (pc' := 35) (ls' := [some (.int (nI (eD a))), some (.int (nI (eD b)))]) (st' := [.int (nI (eD b)), .int (nI 1), .int (nI b.1)]) (σ' := σ) rfl ?_
      refine am_invs (y := 218) (as := [.int (nI (eD b))]) (rest := [.int (nI 1), .int (nI b.1)]) rfl rfl rfl rfl rfl rfl (Nat.le_of_ble_eq_true rfl) ?_
      refine c_m_restsOf (by omega) (v := b) hb ?_
      show am_G _ M_X10_then _ 38 [some (.int (nI (eD a))), some (.int (nI (eD b)))] [.int (nI b.2.2), .int (nI 1), .int (nI b.1)] σ
      refine am_invs (y := 215) (as := [.int (nI b.1), .int (nI 1), .int (nI b.2.2)]) (rest := []) rfl rfl rfl rfl rfl rfl (Nat.le_of_ble_eq_true rfl) ?_
      refine c_m_done1 (by omega) (c := b.1) (q := b.2.2) (by omega) (by first | omega | exact or_lt20 (by omega) (by omega)) ?_
      show am_G _ M_X10_then _ 41 [some (.int (nI (eD a))), some (.int (nI (eD b)))] [.int (nI (eD (dne b.1 true b.2.2)))] σ
      refine am_reti rfl rfl ?_
      have e : d_then a b = (dne b.1 true b.2.2) := by
        unfold d_then
        first | rfl | (simp [*]; done) | (simp only [*, Bool.or_true, Bool.true_or, Bool.or_false, Bool.or_self, if_true, if_false]; done)
      rw [e] at hq
      exact hq
    · show am_G _ M_X10_then _ 19 [some (.int (nI (eD a))), some (.int (nI (eD b)))] [.int (nI 0), .int (nI b.1)] σ
      refine am_if (ty := 22) (tn := 29) rfl (by decide) rfl rfl (fun (h_4 : nI 0 = 0) => ?_) (fun (h_4 : ¬ (nI 0 = 0)) => ?_)
      rotate_left
      · exact absurd (by decide) h_4
      refine am_run 1 (pc' := 23) (ls' := [some (.int (nI (eD a))), some (.int (nI (eD b)))]) (st' := [.int (nI (eD b)), .int (nI b.1)]) (σ' := σ) rfl ?_
      refine am_invs (y := 217) (as := [.int (nI (eD b))]) (rest := [.int (nI b.1)]) rfl rfl rfl rfl rfl rfl (Nat.le_of_ble_eq_true rfl) ?_
      refine c_m_isBad (by omega) (v := b) hb (fun hz_5 => ?_) (fun hz_5 => ?_)
      · show am_G _ M_X10_then _ 26 [some (.int (nI (eD a))), some (.int (nI (eD b)))] [.int (nI 1), .int (nI b.1)] σ
        refine am_if (ty := 33) (tn := 29) rfl (by decide) rfl rfl (fun (h_6 : nI 1 = 0) => ?_) (fun (h_6 : ¬ (nI 1 = 0)) => ?_)
        · exact absurd h_6 (by decide)
        refine am_run 3 (pc' := 35) (ls' := [some (.int (nI (eD a))), some (.int (nI (eD b)))]) (st' := [.int (nI (eD b)), .int (nI 1), .int (nI b.1)]) (σ' := σ) rfl ?_
        refine am_invs (y := 218) (as := [.int (nI (eD b))]) (rest := [.int (nI 1), .int (nI b.1)]) rfl rfl rfl rfl rfl rfl (Nat.le_of_ble_eq_true rfl) ?_
        refine c_m_restsOf (by omega) (v := b) hb ?_
        show am_G _ M_X10_then _ 38 [some (.int (nI (eD a))), some (.int (nI (eD b)))] [.int (nI b.2.2), .int (nI 1), .int (nI b.1)] σ
        refine am_invs (y := 215) (as := [.int (nI b.1), .int (nI 1), .int (nI b.2.2)]) (rest := []) rfl rfl rfl rfl rfl rfl (Nat.le_of_ble_eq_true rfl) ?_
        refine c_m_done1 (by omega) (c := b.1) (q := b.2.2) (by omega) (by first | omega | exact or_lt20 (by omega) (by omega)) ?_
        show am_G _ M_X10_then _ 41 [some (.int (nI (eD a))), some (.int (nI (eD b)))] [.int (nI (eD (dne b.1 true b.2.2)))] σ
        refine am_reti rfl rfl ?_
        have e : d_then a b = (dne b.1 true b.2.2) := by
          unfold d_then
          first | rfl | (simp [*]; done) | (simp only [*, Bool.or_true, Bool.true_or, Bool.or_false, Bool.or_self, if_true, if_false]; done)
        rw [e] at hq
        exact hq
      · show am_G _ M_X10_then _ 26 [some (.int (nI (eD a))), some (.int (nI (eD b)))] [.int (nI 0), .int (nI b.1)] σ
        refine am_if (ty := 33) (tn := 29) rfl (by decide) rfl rfl (fun (h_7 : nI 0 = 0) => ?_) (fun (h_7 : ¬ (nI 0 = 0)) => ?_)
        rotate_left
        · exact absurd (by decide) h_7
        refine am_run 2 (pc' := 35) (ls' := [some (.int (nI (eD a))), some (.int (nI (eD b)))]) (st' := [.int (nI (eD b)), .int (nI 0), .int (nI b.1)]) (σ' := σ) rfl ?_
        refine am_invs (y := 218) (as := [.int (nI (eD b))]) (rest := [.int (nI 0), .int (nI b.1)]) rfl rfl rfl rfl rfl rfl (Nat.le_of_ble_eq_true rfl) ?_
        refine c_m_restsOf (by omega) (v := b) hb ?_
        show am_G _ M_X10_then _ 38 [some (.int (nI (eD a))), some (.int (nI (eD b)))] [.int (nI b.2.2), .int (nI 0), .int (nI b.1)] σ
        refine am_invs (y := 215) (as := [.int (nI b.1), .int (nI 0), .int (nI b.2.2)]) (rest := []) rfl rfl rfl rfl rfl rfl (Nat.le_of_ble_eq_true rfl) ?_
        refine c_m_done0 (by omega) (c := b.1) (q := b.2.2) (by omega) (by first | omega | exact or_lt20 (by omega) (by omega)) ?_
        show am_G _ M_X10_then _ 41 [some (.int (nI (eD a))), some (.int (nI (eD b)))] [.int (nI (eD (dne b.1 false b.2.2)))] σ
        refine am_reti rfl rfl ?_
        have e : d_then a b = (dne b.1 false b.2.2) := by
          unfold d_then
          first | rfl | (simp [*]; done) | (simp only [*, Bool.or_true, Bool.true_or, Bool.or_false, Bool.or_self, if_true, if_false]; done)
        rw [e] at hq
        exact hq
  · have h_1 : ¬ (a.1 = 0) := fun z => h_1 ((am_n0 (by omega)).mpr z)
    refine am_run 2 (pc' := 41) (ls' := [some (.int (nI (eD a))), some (.int (nI (eD b)))]) (st' := [.int (nI (eD a))]) (σ' := σ) rfl ?_
    refine am_reti rfl rfl ?_
    have e : d_then a b = a := by
      unfold d_then
      first | rfl | (simp [*]; done) | (simp only [*, Bool.or_true, Bool.true_or, Bool.or_false, Bool.or_self, if_true, if_false]; done)
    rw [e] at hq
    exact hq
set_option maxRecDepth 10000 in
set_option maxHeartbeats 2000000 in
theorem c_m_together {d : Nat} (hd : 3 ≤ d) {σ : am_M} {Q : am_Q} {a b : D3} (ha : ok3 a) (hb : ok3 b) (hq : Q (some (.int (nI (eD (d_par a b))))) σ) : am_C d 221 [.int (nI (eD a)), .int (nI (eD b))] σ Q := by
  obtain ⟨a1, a2, a3⟩ := id ha
  obtain ⟨b1, b2, b3⟩ := id hb
  refine am_enter' (M := M_X10_together) rfl rfl rfl (by omega) (ls := [some (.int (nI (eD a))), some (.int (nI (eD b))), none]) rfl (fun d' hd' => ?_)
  refine am_run 1 (pc' := 1) (ls' := [some (.int (nI (eD a))), some (.int (nI (eD b))), none]) (st' := [.int (nI (eD a))]) (σ' := σ) rfl ?_
  refine am_invs (y := 216) (as := [.int (nI (eD a))]) (rest := []) rfl rfl rfl rfl rfl rfl (Nat.le_of_ble_eq_true rfl) ?_
  refine c_m_codeOf (by omega) (v := a) ha ?_
  show am_G _ M_X10_together _ 4 [some (.int (nI (eD a))), some (.int (nI (eD b))), none] [.int (nI a.1)] σ
  refine am_run 1 (pc' := 5) (ls' := [some (.int (nI (eD a))), some (.int (nI (eD b))), none]) (st' := [.int (nI (eD b)), .int (nI a.1)]) (σ' := σ) rfl ?_
  refine am_invs (y := 216) (as := [.int (nI (eD b))]) (rest := [.int (nI a.1)]) rfl rfl rfl rfl rfl rfl (Nat.le_of_ble_eq_true rfl) ?_
  refine c_m_codeOf (by omega) (v := b) hb ?_
  show am_G _ M_X10_together _ 8 [some (.int (nI (eD a))), some (.int (nI (eD b))), none] [.int (nI b.1), .int (nI a.1)] σ
  refine am_ic (ty := 11) (tn := 18) rfl (by decide) rfl rfl (fun (h_1 : nI b.1 < nI a.1) => ?_) (fun (h_1 : ¬ (nI b.1 < nI a.1)) => ?_)
  · have h_1 : b.1 < a.1 := (nI_ltI (by omega) (by omega)).mp h_1
    refine am_run 1 (pc' := 12) (ls' := [some (.int (nI (eD a))), some (.int (nI (eD b))), none]) (st' := [.int (nI (eD a))]) (σ' := σ) rfl ?_
    refine am_invs (y := 216) (as := [.int (nI (eD a))]) (rest := []) rfl rfl rfl rfl rfl rfl (Nat.le_of_ble_eq_true rfl) ?_
    refine c_m_codeOf (by omega) (v := a) ha ?_
    show am_G _ M_X10_together _ 15 [some (.int (nI (eD a))), some (.int (nI (eD b))), none] [.int (nI a.1)] σ
    refine am_run 4 (pc' := 25) (ls' := [some (.int (nI (eD a))), some (.int (nI (eD b))), some (.int (nI a.1))]) (st' := [.int (nI (eD a)), .int (nI a.1)]) (σ' := σ) rfl ?_
    refine am_invs (y := 217) (as := [.int (nI (eD a))]) (rest := [.int (nI a.1)]) rfl rfl rfl rfl rfl rfl (Nat.le_of_ble_eq_true rfl) ?_
    refine c_m_isBad (by omega) (v := a) ha (fun hz_2 => ?_) (fun hz_2 => ?_)
    · show am_G _ M_X10_together _ 28 [some (.int (nI (eD a))), some (.int (nI (eD b))), some (.int (nI a.1))] [.int (nI 1), .int (nI a.1)] σ
      refine am_if (ty := 31) (tn := 38) rfl (by decide) rfl rfl (fun (h_3 : nI 1 = 0) => ?_) (fun (h_3 : ¬ (nI 1 = 0)) => ?_)
      · exact absurd h_3 (by decide)
      refine am_run 3 (pc' := 44) (ls' := [some (.int (nI (eD a))), some (.int (nI (eD b))), some (.int (nI a.1))]) (st' := [.int (nI (eD a)), .int (nI 1), .int (nI a.1)]) (σ' := σ) rfl ?_
      refine am_invs (y := 218) (as := [.int (nI (eD a))]) (rest := [.int (nI 1), .int (nI a.1)]) rfl rfl rfl rfl rfl rfl (Nat.le_of_ble_eq_true rfl) ?_
      refine c_m_restsOf (by omega) (v := a) ha ?_
      show am_G _ M_X10_together _ 47 [some (.int (nI (eD a))), some (.int (nI (eD b))), some (.int (nI a.1))] [.int (nI a.2.2), .int (nI 1), .int (nI a.1)] σ
      refine am_run 1 (pc' := 48) (ls' := [some (.int (nI (eD a))), some (.int (nI (eD b))), some (.int (nI a.1))]) (st' := [.int (nI (eD b)), .int (nI a.2.2), .int (nI 1), .int (nI a.1)]) (σ' := σ) rfl ?_
      refine am_invs (y := 218) (as := [.int (nI (eD b))]) (rest := [.int (nI a.2.2), .int (nI 1), .int (nI a.1)]) rfl rfl rfl rfl rfl rfl (Nat.le_of_ble_eq_true rfl) ?_
      refine c_m_restsOf (by omega) (v := b) hb ?_
      show am_G _ M_X10_together _ 51 [some (.int (nI (eD a))), some (.int (nI (eD b))), some (.int (nI a.1))] [.int (nI b.2.2), .int (nI a.2.2), .int (nI 1), .int (nI a.1)] σ
      refine am_run 1 (pc' := 52) (ls' := [some (.int (nI (eD a))), some (.int (nI (eD b))), some (.int (nI a.1))]) (st' := [.int (nI a.2.2 ||| nI b.2.2), .int (nI 1), .int (nI a.1)]) (σ' := σ) rfl ?_
      refine am_top (v' := nI (a.2.2 ||| b.2.2)) (nx_or _ _) ?_
      refine am_invs (y := 215) (as := [.int (nI a.1), .int (nI 1), .int (nI (a.2.2 ||| b.2.2))]) (rest := []) rfl rfl rfl rfl rfl rfl (Nat.le_of_ble_eq_true rfl) ?_
      refine c_m_done1 (by omega) (c := a.1) (q := a.2.2 ||| b.2.2) (by omega) (by first | omega | exact or_lt20 (by omega) (by omega)) ?_
      show am_G _ M_X10_together _ 55 [some (.int (nI (eD a))), some (.int (nI (eD b))), some (.int (nI a.1))] [.int (nI (eD (dne a.1 true (a.2.2 ||| b.2.2))))] σ
      refine am_reti rfl rfl ?_
      have e : d_par a b = (dne a.1 true (a.2.2 ||| b.2.2)) := by
        unfold d_par
        first | (rw [Nat.max_eq_left (by omega)]; simp [*]; done) | (rw [Nat.max_eq_right (by omega)]; simp [*]; done)
      rw [e] at hq
      exact hq
    · show am_G _ M_X10_together _ 28 [some (.int (nI (eD a))), some (.int (nI (eD b))), some (.int (nI a.1))] [.int (nI 0), .int (nI a.1)] σ
      refine am_if (ty := 31) (tn := 38) rfl (by decide) rfl rfl (fun (h_4 : nI 0 = 0) => ?_) (fun (h_4 : ¬ (nI 0 = 0)) => ?_)
      rotate_left
      · exact absurd (by decide) h_4
      refine am_run 1 (pc' := 32) (ls' := [some (.int (nI (eD a))), some (.int (nI (eD b))), some (.int (nI a.1))]) (st' := [.int (nI (eD b)), .int (nI a.1)]) (σ' := σ) rfl ?_
      refine am_invs (y := 217) (as := [.int (nI (eD b))]) (rest := [.int (nI a.1)]) rfl rfl rfl rfl rfl rfl (Nat.le_of_ble_eq_true rfl) ?_
      refine c_m_isBad (by omega) (v := b) hb (fun hz_5 => ?_) (fun hz_5 => ?_)
      · show am_G _ M_X10_together _ 35 [some (.int (nI (eD a))), some (.int (nI (eD b))), some (.int (nI a.1))] [.int (nI 1), .int (nI a.1)] σ
        refine am_if (ty := 42) (tn := 38) rfl (by decide) rfl rfl (fun (h_6 : nI 1 = 0) => ?_) (fun (h_6 : ¬ (nI 1 = 0)) => ?_)
        · exact absurd h_6 (by decide)
        refine am_run 3 (pc' := 44) (ls' := [some (.int (nI (eD a))), some (.int (nI (eD b))), some (.int (nI a.1))]) (st' := [.int (nI (eD a)), .int (nI 1), .int (nI a.1)]) (σ' := σ) rfl ?_
        refine am_invs (y := 218) (as := [.int (nI (eD a))]) (rest := [.int (nI 1), .int (nI a.1)]) rfl rfl rfl rfl rfl rfl (Nat.le_of_ble_eq_true rfl) ?_
        refine c_m_restsOf (by omega) (v := a) ha ?_
        show am_G _ M_X10_together _ 47 [some (.int (nI (eD a))), some (.int (nI (eD b))), some (.int (nI a.1))] [.int (nI a.2.2), .int (nI 1), .int (nI a.1)] σ
        refine am_run 1 (pc' := 48) (ls' := [some (.int (nI (eD a))), some (.int (nI (eD b))), some (.int (nI a.1))]) (st' := [.int (nI (eD b)), .int (nI a.2.2), .int (nI 1), .int (nI a.1)]) (σ' := σ) rfl ?_
        refine am_invs (y := 218) (as := [.int (nI (eD b))]) (rest := [.int (nI a.2.2), .int (nI 1), .int (nI a.1)]) rfl rfl rfl rfl rfl rfl (Nat.le_of_ble_eq_true rfl) ?_
        refine c_m_restsOf (by omega) (v := b) hb ?_
        show am_G _ M_X10_together _ 51 [some (.int (nI (eD a))), some (.int (nI (eD b))), some (.int (nI a.1))] [.int (nI b.2.2), .int (nI a.2.2), .int (nI 1), .int (nI a.1)] σ
        refine am_run 1 (pc' := 52) (ls' := [some (.int (nI (eD a))), some (.int (nI (eD b))), some (.int (nI a.1))]) (st' := [.int (nI a.2.2 ||| nI b.2.2), .int (nI 1), .int (nI a.1)]) (σ' := σ) rfl ?_
        refine am_top (v' := nI (a.2.2 ||| b.2.2)) (nx_or _ _) ?_
        refine am_invs (y := 215) (as := [.int (nI a.1), .int (nI 1), .int (nI (a.2.2 ||| b.2.2))]) (rest := []) rfl rfl rfl rfl rfl rfl (Nat.le_of_ble_eq_true rfl) ?_
        refine c_m_done1 (by omega) (c := a.1) (q := a.2.2 ||| b.2.2) (by omega) (by first | omega | exact or_lt20 (by omega) (by omega)) ?_
        show am_G _ M_X10_together _ 55 [some (.int (nI (eD a))), some (.int (nI (eD b))), some (.int (nI a.1))] [.int (nI (eD (dne a.1 true (a.2.2 ||| b.2.2))))] σ
        refine am_reti rfl rfl ?_
        have e : d_par a b = (dne a.1 true (a.2.2 ||| b.2.2)) := by
          unfold d_par
          first | (rw [Nat.max_eq_left (by omega)]; simp [*]; done) | (rw [Nat.max_eq_right (by omega)]; simp [*]; done)
        rw [e] at hq
        exact hq
      · show am_G _ M_X10_together _ 35 [some (.int (nI (eD a))), some (.int (nI (eD b))), some (.int (nI a.1))] [.int (nI 0), .int (nI a.1)] σ
        refine am_if (ty := 42) (tn := 38) rfl (by decide) rfl rfl (fun (h_7 : nI 0 = 0) => ?_) (fun (h_7 : ¬ (nI 0 = 0)) => ?_)
        rotate_left
        · exact absurd (by decide) h_7
        refine am_run 2 (pc' := 44) (ls' := [some (.int (nI (eD a))), some (.int (nI (eD b))), some (.int (nI a.1))]) (st' := [.int (nI (eD a)), .int (nI 0), .int (nI a.1)]) (σ' := σ) rfl ?_
        refine am_invs (y := 218) (as := [.int (nI (eD a))]) (rest := [.int (nI 0), .int (nI a.1)]) rfl rfl rfl rfl rfl rfl (Nat.le_of_ble_eq_true rfl) ?_
        refine c_m_restsOf (by omega) (v := a) ha ?_
        show am_G _ M_X10_together _ 47 [some (.int (nI (eD a))), some (.int (nI (eD b))), some (.int (nI a.1))] [.int (nI a.2.2), .int (nI 0), .int (nI a.1)] σ
        refine am_run 1 (pc' := 48) (ls' := [some (.int (nI (eD a))), some (.int (nI (eD b))), some (.int (nI a.1))]) (st' := [.int (nI (eD b)), .int (nI a.2.2), .int (nI 0), .int (nI a.1)]) (σ' := σ) rfl ?_
        refine am_invs (y := 218) (as := [.int (nI (eD b))]) (rest := [.int (nI a.2.2), .int (nI 0), .int (nI a.1)]) rfl rfl rfl rfl rfl rfl (Nat.le_of_ble_eq_true rfl) ?_
        refine c_m_restsOf (by omega) (v := b) hb ?_
        show am_G _ M_X10_together _ 51 [some (.int (nI (eD a))), some (.int (nI (eD b))), some (.int (nI a.1))] [.int (nI b.2.2), .int (nI a.2.2), .int (nI 0), .int (nI a.1)] σ
        refine am_run 1 (pc' := 52) (ls' := [some (.int (nI (eD a))), some (.int (nI (eD b))), some (.int (nI a.1))]) (st' := [.int (nI a.2.2 ||| nI b.2.2), .int (nI 0), .int (nI a.1)]) (σ' := σ) rfl ?_
        refine am_top (v' := nI (a.2.2 ||| b.2.2)) (nx_or _ _) ?_
        refine am_invs (y := 215) (as := [.int (nI a.1), .int (nI 0), .int (nI (a.2.2 ||| b.2.2))]) (rest := []) rfl rfl rfl rfl rfl rfl (Nat.le_of_ble_eq_true rfl) ?_
        refine c_m_done0 (by omega) (c := a.1) (q := a.2.2 ||| b.2.2) (by omega) (by first | omega | exact or_lt20 (by omega) (by omega)) ?_
        show am_G _ M_X10_together _ 55 [some (.int (nI (eD a))), some (.int (nI (eD b))), some (.int (nI a.1))] [.int (nI (eD (dne a.1 false (a.2.2 ||| b.2.2))))] σ
        refine am_reti rfl rfl ?_
        have e : d_par a b = (dne a.1 false (a.2.2 ||| b.2.2)) := by
          unfold d_par
          first | (rw [Nat.max_eq_left (by omega)]; simp [*]; done) | (rw [Nat.max_eq_right (by omega)]; simp [*]; done)
        rw [e] at hq
        exact hq
  · have h_1 : ¬ (b.1 < a.1) := fun z => h_1 ((nI_ltI (by omega) (by omega)).mpr z)
    refine am_run 1 (pc' := 19) (ls' := [some (.int (nI (eD a))), some (.int (nI (eD b))), none]) (st' := [.int (nI (eD b))]) (σ' := σ) rfl ?_
    refine am_invs (y := 216) (as := [.int (nI (eD b))]) (rest := []) rfl rfl rfl rfl rfl rfl (Nat.le_of_ble_eq_true rfl) ?_
    refine c_m_codeOf (by omega) (v := b) hb ?_
    show am_G _ M_X10_together _ 22 [some (.int (nI (eD a))), some (.int (nI (eD b))), none] [.int (nI b.1)] σ
    refine am_run 3 (pc' := 25) (ls' := [some (.int (nI (eD a))), some (.int (nI (eD b))), some (.int (nI b.1))]) (st' := [.int (nI (eD a)), .int (nI b.1)]) (σ' := σ) rfl ?_
    refine am_invs (y := 217) (as := [.int (nI (eD a))]) (rest := [.int (nI b.1)]) rfl rfl rfl rfl rfl rfl (Nat.le_of_ble_eq_true rfl) ?_
    refine c_m_isBad (by omega) (v := a) ha (fun hz_8 => ?_) (fun hz_8 => ?_)
    · show am_G _ M_X10_together _ 28 [some (.int (nI (eD a))), some (.int (nI (eD b))), some (.int (nI b.1))] [.int (nI 1), .int (nI b.1)] σ
      refine am_if (ty := 31) (tn := 38) rfl (by decide) rfl rfl (fun (h_9 : nI 1 = 0) => ?_) (fun (h_9 : ¬ (nI 1 = 0)) => ?_)
      · exact absurd h_9 (by decide)
      refine am_run 3 (pc' := 44) (ls' := [some (.int (nI (eD a))), some (.int (nI (eD b))), some (.int (nI b.1))]) (st' := [.int (nI (eD a)), .int (nI 1), .int (nI b.1)]) (σ' := σ) rfl ?_
      refine am_invs (y := 218) (as := [.int (nI (eD a))]) (rest := [.int (nI 1), .int (nI b.1)]) rfl rfl rfl rfl rfl rfl (Nat.le_of_ble_eq_true rfl) ?_
      refine c_m_restsOf (by omega) (v := a) ha ?_
      show am_G _ M_X10_together _ 47 [some (.int (nI (eD a))), some (.int (nI (eD b))), some (.int (nI b.1))] [.int (nI a.2.2), .int (nI 1), .int (nI b.1)] σ
      refine am_run 1 (pc' := 48) (ls' := [some (.int (nI (eD a))), some (.int (nI (eD b))), some (.int (nI b.1))]) (st' := [.int (nI (eD b)), .int (nI a.2.2), .int (nI 1), .int (nI b.1)]) (σ' := σ) rfl ?_
      refine am_invs (y := 218) (as := [.int (nI (eD b))]) (rest := [.int (nI a.2.2), .int (nI 1), .int (nI b.1)]) rfl rfl rfl rfl rfl rfl (Nat.le_of_ble_eq_true rfl) ?_
      refine c_m_restsOf (by omega) (v := b) hb ?_
      show am_G _ M_X10_together _ 51 [some (.int (nI (eD a))), some (.int (nI (eD b))), some (.int (nI b.1))] [.int (nI b.2.2), .int (nI a.2.2), .int (nI 1), .int (nI b.1)] σ
      refine am_run 1 (pc' := 52) (ls' := [some (.int (nI (eD a))), some (.int (nI (eD b))), some (.int (nI b.1))]) (st' := [.int (nI a.2.2 ||| nI b.2.2), .int (nI 1), .int (nI b.1)]) (σ' := σ) rfl ?_
      refine am_top (v' := nI (a.2.2 ||| b.2.2)) (nx_or _ _) ?_
      refine am_invs (y := 215) (as := [.int (nI b.1), .int (nI 1), .int (nI (a.2.2 ||| b.2.2))]) (rest := []) rfl rfl rfl rfl rfl rfl (Nat.le_of_ble_eq_true rfl) ?_
      refine c_m_done1 (by omega) (c := b.1) (q := a.2.2 ||| b.2.2) (by omega) (by first | omega | exact or_lt20 (by omega) (by omega)) ?_
      show am_G _ M_X10_together _ 55 [some (.int (nI (eD a))), some (.int (nI (eD b))), some (.int (nI b.1))] [.int (nI (eD (dne b.1 true (a.2.2 ||| b.2.2))))] σ
      refine am_reti rfl rfl ?_
      have e : d_par a b = (dne b.1 true (a.2.2 ||| b.2.2)) := by
        unfold d_par
        first | (rw [Nat.max_eq_left (by omega)]; simp [*]; done) | (rw [Nat.max_eq_right (by omega)]; simp [*]; done)
      rw [e] at hq
      exact hq
    · show am_G _ M_X10_together _ 28 [some (.int (nI (eD a))), some (.int (nI (eD b))), some (.int (nI b.1))] [.int (nI 0), .int (nI b.1)] σ
      refine am_if (ty := 31) (tn := 38) rfl (by decide) rfl rfl (fun (h_10 : nI 0 = 0) => ?_) (fun (h_10 : ¬ (nI 0 = 0)) => ?_)
      rotate_left
      · exact absurd (by decide) h_10
      refine am_run 1 (pc' := 32) (ls' := [some (.int (nI (eD a))), some (.int (nI (eD b))), some (.int (nI b.1))]) (st' := [.int (nI (eD b)), .int (nI b.1)]) (σ' := σ) rfl ?_
      refine am_invs (y := 217) (as := [.int (nI (eD b))]) (rest := [.int (nI b.1)]) rfl rfl rfl rfl rfl rfl (Nat.le_of_ble_eq_true rfl) ?_
      refine c_m_isBad (by omega) (v := b) hb (fun hz_11 => ?_) (fun hz_11 => ?_)
      · show am_G _ M_X10_together _ 35 [some (.int (nI (eD a))), some (.int (nI (eD b))), some (.int (nI b.1))] [.int (nI 1), .int (nI b.1)] σ
        refine am_if (ty := 42) (tn := 38) rfl (by decide) rfl rfl (fun (h_12 : nI 1 = 0) => ?_) (fun (h_12 : ¬ (nI 1 = 0)) => ?_)
        · exact absurd h_12 (by decide)
        refine am_run 3 (pc' := 44) (ls' := [some (.int (nI (eD a))), some (.int (nI (eD b))), some (.int (nI b.1))]) (st' := [.int (nI (eD a)), .int (nI 1), .int (nI b.1)]) (σ' := σ) rfl ?_
        refine am_invs (y := 218) (as := [.int (nI (eD a))]) (rest := [.int (nI 1), .int (nI b.1)]) rfl rfl rfl rfl rfl rfl (Nat.le_of_ble_eq_true rfl) ?_
        refine c_m_restsOf (by omega) (v := a) ha ?_
        show am_G _ M_X10_together _ 47 [some (.int (nI (eD a))), some (.int (nI (eD b))), some (.int (nI b.1))] [.int (nI a.2.2), .int (nI 1), .int (nI b.1)] σ
        refine am_run 1 (pc' := 48) (ls' := [some (.int (nI (eD a))), some (.int (nI (eD b))), some (.int (nI b.1))]) (st' := [.int (nI (eD b)), .int (nI a.2.2), .int (nI 1), .int (nI b.1)]) (σ' := σ) rfl ?_
        refine am_invs (y := 218) (as := [.int (nI (eD b))]) (rest := [.int (nI a.2.2), .int (nI 1), .int (nI b.1)]) rfl rfl rfl rfl rfl rfl (Nat.le_of_ble_eq_true rfl) ?_
        refine c_m_restsOf (by omega) (v := b) hb ?_
        show am_G _ M_X10_together _ 51 [some (.int (nI (eD a))), some (.int (nI (eD b))), some (.int (nI b.1))] [.int (nI b.2.2), .int (nI a.2.2), .int (nI 1), .int (nI b.1)] σ
        refine am_run 1 (pc' := 52) (ls' := [some (.int (nI (eD a))), some (.int (nI (eD b))), some (.int (nI b.1))]) (st' := [.int (nI a.2.2 ||| nI b.2.2), .int (nI 1), .int (nI b.1)]) (σ' := σ) rfl ?_
        refine am_top (v' := nI (a.2.2 ||| b.2.2)) (nx_or _ _) ?_
        refine am_invs (y := 215) (as := [.int (nI b.1), .int (nI 1), .int (nI (a.2.2 ||| b.2.2))]) (rest := []) rfl rfl rfl rfl rfl rfl (Nat.le_of_ble_eq_true rfl) ?_
        refine c_m_done1 (by omega) (c := b.1) (q := a.2.2 ||| b.2.2) (by omega) (by first | omega | exact or_lt20 (by omega) (by omega)) ?_
        show am_G _ M_X10_together _ 55 [some (.int (nI (eD a))), some (.int (nI (eD b))), some (.int (nI b.1))] [.int (nI (eD (dne b.1 true (a.2.2 ||| b.2.2))))] σ
        refine am_reti rfl rfl ?_
        have e : d_par a b = (dne b.1 true (a.2.2 ||| b.2.2)) := by
          unfold d_par
          first | (rw [Nat.max_eq_left (by omega)]; simp [*]; done) | (rw [Nat.max_eq_right (by omega)]; simp [*]; done)
        rw [e] at hq
        exact hq
      · show am_G _ M_X10_together _ 35 [some (.int (nI (eD a))), some (.int (nI (eD b))), some (.int (nI b.1))] [.int (nI 0), .int (nI b.1)] σ
        refine am_if (ty := 42) (tn := 38) rfl (by decide) rfl rfl (fun (h_13 : nI 0 = 0) => ?_) (fun (h_13 : ¬ (nI 0 = 0)) => ?_)
        rotate_left
        · exact absurd (by decide) h_13
        refine am_run 2 (pc' := 44) (ls' := [some (.int (nI (eD a))), some (.int (nI (eD b))), some (.int (nI b.1))]) (st' := [.int (nI (eD a)), .int (nI 0), .int (nI b.1)]) (σ' := σ) rfl ?_
        refine am_invs (y := 218) (as := [.int (nI (eD a))]) (rest := [.int (nI 0), .int (nI b.1)]) rfl rfl rfl rfl rfl rfl (Nat.le_of_ble_eq_true rfl) ?_
        refine c_m_restsOf (by omega) (v := a) ha ?_
        show am_G _ M_X10_together _ 47 [some (.int (nI (eD a))), some (.int (nI (eD b))), some (.int (nI b.1))] [.int (nI a.2.2), .int (nI 0), .int (nI b.1)] σ
        refine am_run 1 (pc' := 48) (ls' := [some (.int (nI (eD a))), some (.int (nI (eD b))), some (.int (nI b.1))]) (st' := [.int (nI (eD b)), .int (nI a.2.2), .int (nI 0), .int (nI b.1)]) (σ' := σ) rfl ?_
        refine am_invs (y := 218) (as := [.int (nI (eD b))]) (rest := [.int (nI a.2.2), .int (nI 0), .int (nI b.1)]) rfl rfl rfl rfl rfl rfl (Nat.le_of_ble_eq_true rfl) ?_
        refine c_m_restsOf (by omega) (v := b) hb ?_
        show am_G _ M_X10_together _ 51 [some (.int (nI (eD a))), some (.int (nI (eD b))), some (.int (nI b.1))] [.int (nI b.2.2), .int (nI a.2.2), .int (nI 0), .int (nI b.1)] σ
        refine am_run 1 (pc' := 52) (ls' := [some (.int (nI (eD a))), some (.int (nI (eD b))), some (.int (nI b.1))]) (st' := [.int (nI a.2.2 ||| nI b.2.2), .int (nI 0), .int (nI b.1)]) (σ' := σ) rfl ?_
        refine am_top (v' := nI (a.2.2 ||| b.2.2)) (nx_or _ _) ?_
        refine am_invs (y := 215) (as := [.int (nI b.1), .int (nI 0), .int (nI (a.2.2 ||| b.2.2))]) (rest := []) rfl rfl rfl rfl rfl rfl (Nat.le_of_ble_eq_true rfl) ?_
        refine c_m_done0 (by omega) (c := b.1) (q := a.2.2 ||| b.2.2) (by omega) (by first | omega | exact or_lt20 (by omega) (by omega)) ?_
        show am_G _ M_X10_together _ 55 [some (.int (nI (eD a))), some (.int (nI (eD b))), some (.int (nI b.1))] [.int (nI (eD (dne b.1 false (a.2.2 ||| b.2.2))))] σ
        refine am_reti rfl rfl ?_
        have e : d_par a b = (dne b.1 false (a.2.2 ||| b.2.2)) := by
          unfold d_par
          first | (rw [Nat.max_eq_left (by omega)]; simp [*]; done) | (rw [Nat.max_eq_right (by omega)]; simp [*]; done)
        rw [e] at hq
        exact hq
set_option maxRecDepth 10000 in
set_option maxHeartbeats 2000000 in
theorem c_m_leftTrap {d : Nat} (hd : 3 ≤ d) {σ : am_M} {Q : am_Q} {a : D3} (ha : ok3 a) (hq : Q (some (.int (nI (eD (d_trap a))))) σ) : am_C d 222 [.int (nI (eD a))] σ Q := by
  obtain ⟨a1, a2, a3⟩ := id ha
  refine am_enter' (M := M_X10_leftTrap) rfl rfl rfl (by omega) (ls := [some (.int (nI (eD a))), none]) rfl (fun d' hd' => ?_)
  refine am_run 1 (pc' := 1) (ls' := [some (.int (nI (eD a))), none]) (st' := [.int (nI (eD a))]) (σ' := σ) rfl ?_
  refine am_invs (y := 216) (as := [.int (nI (eD a))]) (rest := []) rfl rfl rfl rfl rfl rfl (Nat.le_of_ble_eq_true rfl) ?_
  refine c_m_codeOf (by omega) (v := a) ha ?_
  show am_G _ M_X10_leftTrap _ 4 [some (.int (nI (eD a))), none] [.int (nI a.1)] σ
  refine am_run 3 (pc' := 7) (ls' := [some (.int (nI (eD a))), some (.int (nI a.1))]) (st' := [.int (nI 2), .int (nI a.1)]) (σ' := σ) rfl ?_
  refine am_ic (ty := 10) (tn := 14) rfl (by decide) rfl rfl (fun (h_1 : nI a.1 = nI 2) => ?_) (fun (h_1 : ¬ (nI a.1 = nI 2)) => ?_)
  · have h_1 : a.1 = 2 := (nI_eq (by omega) (by omega)).mp h_1
    refine am_run 3 (pc' := 27) (ls' := [some (.int (nI (eD a))), some (.int (nI a.1))]) (st' := [.int (nI (eD a)), .int (nI 0)]) (σ' := σ) rfl ?_
    refine am_invs (y := 217) (as := [.int (nI (eD a))]) (rest := [.int (nI 0)]) rfl rfl rfl rfl rfl rfl (Nat.le_of_ble_eq_true rfl) ?_
    refine c_m_isBad (by omega) (v := a) ha (fun hz_2 => ?_) (fun hz_2 => ?_)
    · show am_G _ M_X10_leftTrap _ 30 [some (.int (nI (eD a))), some (.int (nI a.1))] [.int (nI 1), .int (nI 0)] σ
      refine am_run 1 (pc' := 31) (ls' := [some (.int (nI (eD a))), some (.int (nI a.1))]) (st' := [.int (nI (eD a)), .int (nI 1), .int (nI 0)]) (σ' := σ) rfl ?_
      refine am_invs (y := 218) (as := [.int (nI (eD a))]) (rest := [.int (nI 1), .int (nI 0)]) rfl rfl rfl rfl rfl rfl (Nat.le_of_ble_eq_true rfl) ?_
      refine c_m_restsOf (by omega) (v := a) ha ?_
      show am_G _ M_X10_leftTrap _ 34 [some (.int (nI (eD a))), some (.int (nI a.1))] [.int (nI a.2.2), .int (nI 1), .int (nI 0)] σ
      refine am_invs (y := 215) (as := [.int (nI 0), .int (nI 1), .int (nI a.2.2)]) (rest := []) rfl rfl rfl rfl rfl rfl (Nat.le_of_ble_eq_true rfl) ?_
      refine c_m_done1 (by omega) (c := 0) (q := a.2.2) (by omega) (by first | omega | exact or_lt20 (by omega) (by omega)) ?_
      show am_G _ M_X10_leftTrap _ 37 [some (.int (nI (eD a))), some (.int (nI a.1))] [.int (nI (eD (dne 0 true a.2.2)))] σ
      refine am_reti rfl rfl ?_
      have e : d_trap a = (dne 0 true a.2.2) := by
        unfold d_trap
        first | rfl | (simp [*]; done) | (simp only [*, Bool.or_true, Bool.true_or, Bool.or_false, Bool.or_self, if_true, if_false]; done)
      rw [e] at hq
      exact hq
    · show am_G _ M_X10_leftTrap _ 30 [some (.int (nI (eD a))), some (.int (nI a.1))] [.int (nI 0), .int (nI 0)] σ
      refine am_run 1 (pc' := 31) (ls' := [some (.int (nI (eD a))), some (.int (nI a.1))]) (st' := [.int (nI (eD a)), .int (nI 0), .int (nI 0)]) (σ' := σ) rfl ?_
      refine am_invs (y := 218) (as := [.int (nI (eD a))]) (rest := [.int (nI 0), .int (nI 0)]) rfl rfl rfl rfl rfl rfl (Nat.le_of_ble_eq_true rfl) ?_
      refine c_m_restsOf (by omega) (v := a) ha ?_
      show am_G _ M_X10_leftTrap _ 34 [some (.int (nI (eD a))), some (.int (nI a.1))] [.int (nI a.2.2), .int (nI 0), .int (nI 0)] σ
      refine am_invs (y := 215) (as := [.int (nI 0), .int (nI 0), .int (nI a.2.2)]) (rest := []) rfl rfl rfl rfl rfl rfl (Nat.le_of_ble_eq_true rfl) ?_
      refine c_m_done0 (by omega) (c := 0) (q := a.2.2) (by omega) (by first | omega | exact or_lt20 (by omega) (by omega)) ?_
      show am_G _ M_X10_leftTrap _ 37 [some (.int (nI (eD a))), some (.int (nI a.1))] [.int (nI (eD (dne 0 false a.2.2)))] σ
      refine am_reti rfl rfl ?_
      have e : d_trap a = (dne 0 false a.2.2) := by
        unfold d_trap
        first | rfl | (simp [*]; done) | (simp only [*, Bool.or_true, Bool.true_or, Bool.or_false, Bool.or_self, if_true, if_false]; done)
      rw [e] at hq
      exact hq
  · have h_1 : ¬ (a.1 = 2) := fun z => h_1 ((nI_eq (by omega) (by omega)).mpr z)
    refine am_run 2 (pc' := 16) (ls' := [some (.int (nI (eD a))), some (.int (nI a.1))]) (st' := [.int (nI 2), .int (nI a.1)]) (σ' := σ) rfl ?_
    refine am_ic (ty := 19) (tn := 25) rfl (by decide) rfl rfl (fun (h_3 : nI 2 < nI a.1) => ?_) (fun (h_3 : ¬ (nI 2 < nI a.1)) => ?_)
    · have h_3 : 2 < a.1 := (nI_ltI (by omega) (by omega)).mp h_3
      refine am_run 3 (pc' := 22) (ls' := [some (.int (nI (eD a))), some (.int (nI a.1))]) (st' := [.int (nI a.1 - nI 1)]) (σ' := σ) rfl ?_
      refine am_top (v' := nI (a.1 - 1)) (am_nsub (by omega)) ?_
      refine am_run 2 (pc' := 27) (ls' := [some (.int (nI (eD a))), some (.int (nI a.1))]) (st' := [.int (nI (eD a)), .int (nI (a.1 - 1))]) (σ' := σ) rfl ?_
      refine am_invs (y := 217) (as := [.int (nI (eD a))]) (rest := [.int (nI (a.1 - 1))]) rfl rfl rfl rfl rfl rfl (Nat.le_of_ble_eq_true rfl) ?_
      refine c_m_isBad (by omega) (v := a) ha (fun hz_4 => ?_) (fun hz_4 => ?_)
      · show am_G _ M_X10_leftTrap _ 30 [some (.int (nI (eD a))), some (.int (nI a.1))] [.int (nI 1), .int (nI (a.1 - 1))] σ
        refine am_run 1 (pc' := 31) (ls' := [some (.int (nI (eD a))), some (.int (nI a.1))]) (st' := [.int (nI (eD a)), .int (nI 1), .int (nI (a.1 - 1))]) (σ' := σ) rfl ?_
        refine am_invs (y := 218) (as := [.int (nI (eD a))]) (rest := [.int (nI 1), .int (nI (a.1 - 1))]) rfl rfl rfl rfl rfl rfl (Nat.le_of_ble_eq_true rfl) ?_
        refine c_m_restsOf (by omega) (v := a) ha ?_
        show am_G _ M_X10_leftTrap _ 34 [some (.int (nI (eD a))), some (.int (nI a.1))] [.int (nI a.2.2), .int (nI 1), .int (nI (a.1 - 1))] σ
        refine am_invs (y := 215) (as := [.int (nI (a.1 - 1)), .int (nI 1), .int (nI a.2.2)]) (rest := []) rfl rfl rfl rfl rfl rfl (Nat.le_of_ble_eq_true rfl) ?_
        refine c_m_done1 (by omega) (c := a.1 - 1) (q := a.2.2) (by omega) (by first | omega | exact or_lt20 (by omega) (by omega)) ?_
        show am_G _ M_X10_leftTrap _ 37 [some (.int (nI (eD a))), some (.int (nI a.1))] [.int (nI (eD (dne (a.1 - 1) true a.2.2)))] σ
        refine am_reti rfl rfl ?_
        have e : d_trap a = (dne (a.1 - 1) true a.2.2) := by
          unfold d_trap
          first | rfl | (simp [*]; done) | (simp only [*, Bool.or_true, Bool.true_or, Bool.or_false, Bool.or_self, if_true, if_false]; done)
        rw [e] at hq
        exact hq
      · show am_G _ M_X10_leftTrap _ 30 [some (.int (nI (eD a))), some (.int (nI a.1))] [.int (nI 0), .int (nI (a.1 - 1))] σ
        refine am_run 1 (pc' := 31) (ls' := [some (.int (nI (eD a))), some (.int (nI a.1))]) (st' := [.int (nI (eD a)), .int (nI 0), .int (nI (a.1 - 1))]) (σ' := σ) rfl ?_
        refine am_invs (y := 218) (as := [.int (nI (eD a))]) (rest := [.int (nI 0), .int (nI (a.1 - 1))]) rfl rfl rfl rfl rfl rfl (Nat.le_of_ble_eq_true rfl) ?_
        refine c_m_restsOf (by omega) (v := a) ha ?_
        show am_G _ M_X10_leftTrap _ 34 [some (.int (nI (eD a))), some (.int (nI a.1))] [.int (nI a.2.2), .int (nI 0), .int (nI (a.1 - 1))] σ
        refine am_invs (y := 215) (as := [.int (nI (a.1 - 1)), .int (nI 0), .int (nI a.2.2)]) (rest := []) rfl rfl rfl rfl rfl rfl (Nat.le_of_ble_eq_true rfl) ?_
        refine c_m_done0 (by omega) (c := a.1 - 1) (q := a.2.2) (by omega) (by first | omega | exact or_lt20 (by omega) (by omega)) ?_
        show am_G _ M_X10_leftTrap _ 37 [some (.int (nI (eD a))), some (.int (nI a.1))] [.int (nI (eD (dne (a.1 - 1) false a.2.2)))] σ
        refine am_reti rfl rfl ?_
        have e : d_trap a = (dne (a.1 - 1) false a.2.2) := by
          unfold d_trap
          first | rfl | (simp [*]; done) | (simp only [*, Bool.or_true, Bool.true_or, Bool.or_false, Bool.or_self, if_true, if_false]; done)
        rw [e] at hq
        exact hq
    · have h_3 : ¬ (2 < a.1) := fun z => h_3 ((nI_ltI (by omega) (by omega)).mpr z)
      refine am_run 2 (pc' := 27) (ls' := [some (.int (nI (eD a))), some (.int (nI a.1))]) (st' := [.int (nI (eD a)), .int (nI a.1)]) (σ' := σ) rfl ?_
      refine am_invs (y := 217) (as := [.int (nI (eD a))]) (rest := [.int (nI a.1)]) rfl rfl rfl rfl rfl rfl (Nat.le_of_ble_eq_true rfl) ?_
      refine c_m_isBad (by omega) (v := a) ha (fun hz_5 => ?_) (fun hz_5 => ?_)
      · show am_G _ M_X10_leftTrap _ 30 [some (.int (nI (eD a))), some (.int (nI a.1))] [.int (nI 1), .int (nI a.1)] σ
        refine am_run 1 (pc' := 31) (ls' := [some (.int (nI (eD a))), some (.int (nI a.1))]) (st' := [.int (nI (eD a)), .int (nI 1), .int (nI a.1)]) (σ' := σ) rfl ?_
        refine am_invs (y := 218) (as := [.int (nI (eD a))]) (rest := [.int (nI 1), .int (nI a.1)]) rfl rfl rfl rfl rfl rfl (Nat.le_of_ble_eq_true rfl) ?_
        refine c_m_restsOf (by omega) (v := a) ha ?_
        show am_G _ M_X10_leftTrap _ 34 [some (.int (nI (eD a))), some (.int (nI a.1))] [.int (nI a.2.2), .int (nI 1), .int (nI a.1)] σ
        refine am_invs (y := 215) (as := [.int (nI a.1), .int (nI 1), .int (nI a.2.2)]) (rest := []) rfl rfl rfl rfl rfl rfl (Nat.le_of_ble_eq_true rfl) ?_
        refine c_m_done1 (by omega) (c := a.1) (q := a.2.2) (by omega) (by first | omega | exact or_lt20 (by omega) (by omega)) ?_
        show am_G _ M_X10_leftTrap _ 37 [some (.int (nI (eD a))), some (.int (nI a.1))] [.int (nI (eD (dne a.1 true a.2.2)))] σ
        refine am_reti rfl rfl ?_
        have e : d_trap a = (dne a.1 true a.2.2) := by
          unfold d_trap
          first | rfl | (simp [*]; done) | (simp only [*, Bool.or_true, Bool.true_or, Bool.or_false, Bool.or_self, if_true, if_false]; done)
        rw [e] at hq
        exact hq
      · show am_G _ M_X10_leftTrap _ 30 [some (.int (nI (eD a))), some (.int (nI a.1))] [.int (nI 0), .int (nI a.1)] σ
        refine am_run 1 (pc' := 31) (ls' := [some (.int (nI (eD a))), some (.int (nI a.1))]) (st' := [.int (nI (eD a)), .int (nI 0), .int (nI a.1)]) (σ' := σ) rfl ?_
        refine am_invs (y := 218) (as := [.int (nI (eD a))]) (rest := [.int (nI 0), .int (nI a.1)]) rfl rfl rfl rfl rfl rfl (Nat.le_of_ble_eq_true rfl) ?_
        refine c_m_restsOf (by omega) (v := a) ha ?_
        show am_G _ M_X10_leftTrap _ 34 [some (.int (nI (eD a))), some (.int (nI a.1))] [.int (nI a.2.2), .int (nI 0), .int (nI a.1)] σ
        refine am_invs (y := 215) (as := [.int (nI a.1), .int (nI 0), .int (nI a.2.2)]) (rest := []) rfl rfl rfl rfl rfl rfl (Nat.le_of_ble_eq_true rfl) ?_
        refine c_m_done0 (by omega) (c := a.1) (q := a.2.2) (by omega) (by first | omega | exact or_lt20 (by omega) (by omega)) ?_
        show am_G _ M_X10_leftTrap _ 37 [some (.int (nI (eD a))), some (.int (nI a.1))] [.int (nI (eD (dne a.1 false a.2.2)))] σ
        refine am_reti rfl rfl ?_
        have e : d_trap a = (dne a.1 false a.2.2) := by
          unfold d_trap
          first | rfl | (simp [*]; done) | (simp only [*, Bool.or_true, Bool.true_or, Bool.or_false, Bool.or_self, if_true, if_false]; done)
        rw [e] at hq
        exact hq

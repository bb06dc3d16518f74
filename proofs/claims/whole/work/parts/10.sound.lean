/-! what holds of the small machine holds of the JVM -/
theorem am_chunk {α : Type} {P : α → Prop} {L : List α} : ∀ (n k : Nat), L.length ≤ k + n * 16 → (∀ i, i < n → ∀ q ∈ (L.drop (k + i * 16)).take 16, P q) → ∀ q ∈ L.drop k, P q
  | 0, k, hl, _ => fun q hq => by
    rw [List.drop_eq_nil_of_le (by omega)] at hq
    cases hq
  | n + 1, k, hl, h => fun q hq => by
    rw [← List.take_append_drop 16 (L.drop k), List.drop_drop] at hq
    rcases List.mem_append.mp hq with hq | hq
    · exact h 0 (Nat.succ_pos n) q (by simpa using hq)
    · refine am_chunk n (k + 16) (by omega) (fun i hi q hq => h (i + 1) (by omega) q ?_) q hq
      rw [show k + (i + 1) * 16 = k + 16 + i * 16 by omega]
      exact hq
theorem am_m_all : ∀ q ∈ am_tab.zip am_posL, am_okM q = true := by
  have := am_chunk (P := fun q => am_okM q = true) (L := am_tab.zip am_posL) 16 0 (by decide +kernel) ?_
  · simpa using this
  · intro i hi
    match i, hi with
    | 0, _ => exact List.all_eq_true.mp am_m_ok0
    | 1, _ => exact List.all_eq_true.mp am_m_ok1
    | 2, _ => exact List.all_eq_true.mp am_m_ok2
    | 3, _ => exact List.all_eq_true.mp am_m_ok3
    | 4, _ => exact List.all_eq_true.mp am_m_ok4
    | 5, _ => exact List.all_eq_true.mp am_m_ok5
    | 6, _ => exact List.all_eq_true.mp am_m_ok6
    | 7, _ => exact List.all_eq_true.mp am_m_ok7
    | 8, _ => exact List.all_eq_true.mp am_m_ok8
    | 9, _ => exact List.all_eq_true.mp am_m_ok9
    | 10, _ => exact List.all_eq_true.mp am_m_ok10
    | 11, _ => exact List.all_eq_true.mp am_m_ok11
    | 12, _ => exact List.all_eq_true.mp am_m_ok12
    | 13, _ => exact List.all_eq_true.mp am_m_ok13
    | 14, _ => exact List.all_eq_true.mp am_m_ok14
    | 15, _ => exact List.all_eq_true.mp am_m_ok15
    | k + 16, h => exact absurd h (by omega)
theorem am_w_all : ∀ q ∈ am_tab.zip am_posL, lw_tbl[q.2.1]? = some (Cond.code (am_y q.1) (am_b q.1) (am_ml q.1) (am_rt q.1)) := by
  have := am_chunk (P := fun q => lw_tbl[q.2.1]? = some (Cond.code (am_y q.1) (am_b q.1) (am_ml q.1) (am_rt q.1))) (L := am_tab.zip am_posL) 16 0 (by decide +kernel) ?_
  · simpa using this
  · intro i hi
    match i, hi with
    | 0, _ => exact am_w_ok0
    | 1, _ => exact am_w_ok1
    | 2, _ => exact am_w_ok2
    | 3, _ => exact am_w_ok3
    | 4, _ => exact am_w_ok4
    | 5, _ => exact am_w_ok5
    | 6, _ => exact am_w_ok6
    | 7, _ => exact am_w_ok7
    | 8, _ => exact am_w_ok8
    | 9, _ => exact am_w_ok9
    | 10, _ => exact am_w_ok10
    | 11, _ => exact am_w_ok11
    | 12, _ => exact am_w_ok12
    | 13, _ => exact am_w_ok13
    | 14, _ => exact am_w_ok14
    | 15, _ => exact am_w_ok15
    | k + 16, h => exact absurd h (by omega)
theorem am_i_all : ∀ M ∈ am_tab, am_okI M = true := by
  have := am_chunk (P := fun q => am_okI q = true) (L := am_tab) 16 0 (by decide +kernel) ?_
  · simpa using this
  · intro i hi
    match i, hi with
    | 0, _ => exact List.all_eq_true.mp am_i_ok0
    | 1, _ => exact List.all_eq_true.mp am_i_ok1
    | 2, _ => exact List.all_eq_true.mp am_i_ok2
    | 3, _ => exact List.all_eq_true.mp am_i_ok3
    | 4, _ => exact List.all_eq_true.mp am_i_ok4
    | 5, _ => exact List.all_eq_true.mp am_i_ok5
    | 6, _ => exact List.all_eq_true.mp am_i_ok6
    | 7, _ => exact List.all_eq_true.mp am_i_ok7
    | 8, _ => exact List.all_eq_true.mp am_i_ok8
    | 9, _ => exact List.all_eq_true.mp am_i_ok9
    | 10, _ => exact List.all_eq_true.mp am_i_ok10
    | 11, _ => exact List.all_eq_true.mp am_i_ok11
    | 12, _ => exact List.all_eq_true.mp am_i_ok12
    | 13, _ => exact List.all_eq_true.mp am_i_ok13
    | 14, _ => exact List.all_eq_true.mp am_i_ok14
    | 15, _ => exact List.all_eq_true.mp am_i_ok15
    | k + 16, h => exact absurd h (by omega)
/-- what is known of a method of the table -/
def am_known (M : am_I) : Prop := Cond.code (am_y M) (am_b M) (am_ml M) (am_rt M) ∈ lw_tbl ∧ (if am_st M then Cond.static (am_y M) else Cond.instanceMethod (am_y M)) ∈ lw_tbl ∧ Cond.initialized (am_y M).cls ∈ lw_tbl ∧ (am_st M = true ∨ Cond.selects (am_y M).cls (am_y M) (am_y M) ∈ lw_tbl) ∧ (am_y M).cls = am_cn (am_w M) ∧ plainName (am_y M).cls = true ∧ (am_y M).cls ≠ "java/lang/invoke/MethodHandle" ∧ (am_y M).cls ≠ "java/lang/invoke/VarHandle" ∧ (parseMethodDescriptor (am_y M).desc).map (fun d => d.parameters.length) = some (if am_st M then am_na M else am_na M - 1) ∧ am_ml M ≤ 20 ∧ am_na M ≤ am_ml M ∧ (am_st M = true ∨ 1 ≤ am_na M) ∧ (am_st M = true ∨ (vwCl[am_ci (am_w M)]?).map (fun q => q.1) = some (am_y M).cls) ∧ ∀ q ∈ am_is M, am_okD (am_b M) q = true
theorem am_know {y : Nat} {M : am_I} (h : am_meth y = some M) : am_known M := by
  have hM : M ∈ am_tab := List.mem_of_getElem? h
  have hlen : am_tab.length = am_posL.length := by decide +kernel
  obtain ⟨i, hi, he⟩ := List.getElem_of_mem hM
  have hz : (M, am_posL[i]'(by omega)) ∈ am_tab.zip am_posL := by
    refine List.mem_of_getElem? (i := i) ?_
    rw [List.getElem?_eq_getElem (by rw [List.length_zip]; omega), List.getElem_zip, he]
  have h1 := am_m_all _ hz
  have h2 := am_w_all _ hz
  have h3 := am_i_all _ hM
  generalize am_posL[i]'(by omega) = P at h1 h2
  obtain ⟨p1, p2, p3, p4⟩ := P
  unfold am_okM at h1
  simp only [Bool.and_eq_true, decide_eq_true_eq, Bool.or_eq_true] at h1
  obtain ⟨⟨⟨⟨⟨⟨⟨⟨⟨⟨⟨q1, q2⟩, q3⟩, q4⟩, q5⟩, q6⟩, q7⟩, q8⟩, q9⟩, q10⟩, q11⟩, q12⟩ := h1
  exact ⟨List.mem_of_getElem? h2, List.mem_of_getElem? q1, List.mem_of_getElem? q2, q3.imp id List.mem_of_getElem?, q4, q5, q6, q7, q8, q9, q10, q11, q12, List.all_eq_true.mp h3⟩
theorem am_dec {M : am_I} (h : am_known M) {pc : Nat} {i : Instr} (hi : am_lk (am_is M) pc = some i) : ∃ n, decode (am_b M) pc = .ok (i, n) ∧ (am_isw i = true ∨ n = am_il i) := by
  have key : ∀ L : List (Nat × Instr), am_lk L pc = some i → (pc, i) ∈ L := by
    intro L
    induction L with
    | nil => intro h; cases h
    | cons x r ih =>
      intro h
      unfold am_lk at h
      split at h
      · rename_i hx
        obtain rfl := Option.some.inj h
        rw [← hx]
        exact List.mem_cons_self
      · exact List.mem_cons_of_mem _ (ih h)
  obtain ⟨-, -, -, -, -, -, -, -, -, -, -, -, -, hd⟩ := h
  have h1 := hd _ (key _ hi)
  unfold am_okD at h1
  split at h1
  · rename_i i' n hdec
    simp only [Bool.and_eq_true, decide_eq_true_eq, Bool.or_eq_true, beq_iff_eq] at h1
    obtain ⟨rfl, h2⟩ := h1
    exact ⟨n, hdec, h2⟩
  · cases h1
def am_room (d : Nat) : Room := { frames := d, cells := 0, slots := 0, locals := 64 * d }
def am_A (ad : Nat → Nat) (sz : Nat) : Nat → Prop := fun q => (∃ c, c < 88 ∧ ad c = q) ∨ sz ≤ q
def am_Pc (D : va_G) (ad : Nat → Nat) (cA cR : ClassId) (sz : Nat) (as : List Value) (σ : am_M) : Array Value → State → Prop := va_Pc (as.map (am_cv ad)) (fun U => U.heap.size = sz ∧ va_P D vwCl (am_world ad cA cR σ) U.heap ∧ va_K D vwCl (am_tys cA cR) U ∧ va_D (fun _ => True) (am_world ad cA cR σ) ∧ va_Nw am_nw U)
def am_Qc (D : va_G) (ad : Nat → Nat) (cA cR : ClassId) (sz : Nat) (Q : am_Q) : Array Value → State → Outcome → State → Prop := fun _ st oc t => (∃ (v : Option Value) (σ' : am_M), oc = .returned (v.map (am_cv ad)) ∧ Q v σ' ∧ va_P D vwCl (am_world ad cA cR σ') t.heap ∧ va_K D vwCl (am_tys cA cR) t ∧ va_D (am_A ad sz) (am_world ad cA cR σ')) ∧ va_F (am_A ad sz) st t
theorem am_D_A {ad : Nat → Nat} {cA cR : ClassId} {sz : Nat} {σ : am_M} {B : Nat → Prop} (h : va_D B (am_world ad cA cR σ)) : va_D (am_A ad sz) (am_world ad cA cR σ) := by
  refine ⟨h.1, fun k q hk => Or.inl ?_⟩
  have hlt : k < 88 := by
    have := (List.getElem?_eq_some_iff.mp hk).1
    simpa [am_world] using this
  rw [am_at hlt] at hk
  exact ⟨k, hlt, by rw [← Option.some.inj hk]⟩
theorem am_D_to {ad : Nat → Nat} {cA cR : ClassId} {σ σ' : am_M} {B : Nat → Prop} (h : va_D B (am_world ad cA cR σ)) : va_D B (am_world ad cA cR σ') := by
  have key : ∀ (k : Nat) (q : Nat × va_E), (am_world ad cA cR σ')[k]? = some q → ∃ q' : Nat × va_E, (am_world ad cA cR σ)[k]? = some q' ∧ q'.1 = q.1 := by
    intro k q hk
    have hlt : k < 88 := by
      have := (List.getElem?_eq_some_iff.mp hk).1
      simpa [am_world] using this
    rw [am_at hlt] at hk
    exact ⟨_, am_at hlt, by rw [← Option.some.inj hk]⟩
  refine ⟨fun i j x y hx hy hxy => ?_, fun k q hk => ?_⟩
  · obtain ⟨x', hx', e1⟩ := key i x hx
    obtain ⟨y', hy', e2⟩ := key j y hy
    exact h.1 i j x' y' hx' hy' (by rw [e1, e2, hxy])
  · obtain ⟨q', hq', e⟩ := key k q hk
    rw [← e]
    exact h.2 k q' hq'
theorem am_goodIn {M : am_I} (h : am_known M) : GoodIn am_ws (Cond.code (am_y M) (am_b M) (am_ml M) (am_rt M) :: am_ws) := by
  intro w hw
  rcases List.mem_cons.mp hw with rfl | hw
  · exact ⟨am_in h.1 rfl, good_of_word rfl⟩
  · exact ⟨hw, good_of_word (List.mem_filter.mp hw).2⟩

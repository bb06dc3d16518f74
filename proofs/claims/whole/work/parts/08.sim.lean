/-! each instruction of the small machine is one of the JVM's -/
abbrev am_ws : List Cond := lw_tbl.filter goodWord
theorem am_in {w : Cond} (h : w ∈ lw_tbl) (hg : goodWord w = true) : w ∈ am_ws := List.mem_filter.mpr ⟨h, hg⟩
theorem am_lay_good {C : String} {T : u_T} {N : Nat} {w : Cond} (h : w ∈ u_ws C T N) : goodWord w = true := by
  obtain ⟨k, -, rfl⟩ := List.mem_map.mp h
  unfold u_lay
  split <;> rfl
/-- the nest mate's private method, as the tables have it -/
abbrev am_nw : Cond := Cond.methodLinkNest (am_cn 2) 94 yX0_analyse "SettledInstants"
theorem am_nw_ok : lw_tbl[672]? = some am_nw := by decide +kernel
section Sim
variable {p : Program} {l : Launch} {e : Env} {R : Room} {s : State} {m : MethodId} {args : Array Value} {below : List Frame} {meth : Method} {c : Code} {D : va_G} {ad : Nat → Nat} {cA cR : ClassId} {A : Nat → Prop} {M : am_I} {Z : State → Prop}
/-- the JVM comes to Z from every state that looks like this one of the small machine -/
def am_W (p : Program) (l : Launch) (e : Env) (R : Room) (s : State) (m : MethodId) (args : Array Value) (below : List Frame) (meth : Method) (c : Code) (D : va_G) (ad : Nat → Nat) (cA cR : ClassId) (A : Nat → Prop) (M : am_I) (Z : State → Prop) : am_X := fun pc ls st σ =>
  ∀ (H : Heap) (locs : List Loc) (a : Array Slot), va_P D vwCl (am_world ad cA cR σ) H → va_D A (am_world ad cA cR σ) → va_S A s.heap H locs → am_lv ad (am_ml M) ls a → W p l e R s m args below meth c H locs 0 0 Z (F0 m pc a (st.map (am_cv ad)))
theorem am_mem_c {w idx : Nat} {v : Int32 × Nat} (h : am_cst w idx = some v) : Cond.constant (am_cn w) idx v.1 ∈ lw_tbl := by
  have key : ∀ (L : List (Nat × Int32 × Nat)), L.all (am_okC w) = true → am_lk L idx = some v → Cond.constant (am_cn w) idx v.1 ∈ lw_tbl := by
    intro L
    induction L with
    | nil => intro _ h; cases h
    | cons x r ih =>
      intro h1 h2
      rw [List.all_cons, Bool.and_eq_true] at h1
      unfold am_lk at h2
      split at h2
      · rename_i hx
        obtain rfl := Option.some.inj h2
        have := of_decide_eq_true h1.1
        rw [hx] at this
        exact List.mem_of_getElem? this
      · exact ih h1.2 h2
  refine key _ ?_ h
  by_cases hw : w < 13
  · exact List.all_eq_true.mp am_c_ok w (List.mem_range.mpr hw)
  · rw [List.getD_eq_getElem?_getD, List.getElem?_eq_none (by have : am_cstL.length = 13 := rfl; omega)]
    rfl
theorem am_mem_f {w idx : Nat} {k : Nat × Nat} (h : am_fld w idx = some k) : ∃ q, vwCl[am_ci w]? = some q ∧ k.1 < q.2.2 ∧ Cond.fieldLink (am_cn w) idx (q.2.1 k.1).1 (q.2.1 k.1).2.1 (q.2.1 k.1).2.2.1 ∈ lw_tbl ∧ am_okT (q.2.1 k.1).2.2.1 (q.2.1 k.1).2.2.2 (am_ft (am_ci w) k.1) = true := by
  have key : ∀ (L : List (Nat × Nat × Nat)), L.all (am_okF w) = true → am_lk L idx = some k → ∃ q, vwCl[am_ci w]? = some q ∧ k.1 < q.2.2 ∧ Cond.fieldLink (am_cn w) idx (q.2.1 k.1).1 (q.2.1 k.1).2.1 (q.2.1 k.1).2.2.1 ∈ lw_tbl ∧ am_okT (q.2.1 k.1).2.2.1 (q.2.1 k.1).2.2.2 (am_ft (am_ci w) k.1) = true := by
    intro L
    induction L with
    | nil => intro _ h; cases h
    | cons x r ih =>
      intro h1 h2
      rw [List.all_cons, Bool.and_eq_true] at h1
      unfold am_lk at h2
      split at h2
      · rename_i hx
        obtain rfl := Option.some.inj h2
        have h3 := h1.1
        unfold am_okF at h3
        split at h3
        · rename_i q hq
          simp only [Bool.and_eq_true, decide_eq_true_eq] at h3
          obtain ⟨⟨h4, h5⟩, h6⟩ := h3
          refine ⟨q, hq, h4, ?_, h6⟩
          rw [← hx]
          exact List.mem_of_getElem? h5
        · cases h3
      · exact ih h1.2 h2
  refine key _ ?_ h
  by_cases hw : w < 13
  · exact List.all_eq_true.mp am_f_ok w (List.mem_range.mpr hw)
  · rw [List.getD_eq_getElem?_getD, List.getElem?_eq_none (by have : am_fldL.length = 13 := rfl; omega)]
    rfl
theorem am_mem_l {w idx : Nat} {y : Nat × Nat} {M : am_I} (h : am_mth w idx = some y) (hM : am_meth y.1 = some M) : Cond.methodLink (am_cn w) idx (am_y M) ∈ lw_tbl := by
  have key : ∀ (L : List (Nat × Nat × Nat)), L.all (am_okL w) = true → am_lk L idx = some y → Cond.methodLink (am_cn w) idx (am_y M) ∈ lw_tbl := by
    intro L
    induction L with
    | nil => intro _ h; cases h
    | cons x r ih =>
      intro h1 h2
      rw [List.all_cons, Bool.and_eq_true] at h1
      unfold am_lk at h2
      split at h2
      · rename_i hx
        obtain rfl := Option.some.inj h2
        have h3 := h1.1
        unfold am_okL at h3
        rw [hM] at h3
        have := of_decide_eq_true h3
        rw [hx] at this
        exact List.mem_of_getElem? this
      · exact ih h1.2 h2
  refine key _ ?_ h
  by_cases hw : w < 13
  · exact List.all_eq_true.mp am_l_ok w (List.mem_range.mpr hw)
  · rw [List.getD_eq_getElem?_getD, List.getElem?_eq_none (by have : am_mthL.length = 13 := rfl; omega)]
    rfl
theorem am_mem_x {w idx p : Nat} {b : Bool} (h : am_mm w idx = some (b, p)) : Cond.methodLink (am_cn w) idx (if b then Lib.Math.max.name else Lib.Math.min.name) ∈ lw_tbl := by
  have key : ∀ (L : List (Nat × Bool × Nat)), L.all (am_okX w) = true → am_lk L idx = some (b, p) → Cond.methodLink (am_cn w) idx (if b then Lib.Math.max.name else Lib.Math.min.name) ∈ lw_tbl := by
    intro L
    induction L with
    | nil => intro _ h; cases h
    | cons x r ih =>
      intro h1 h2
      rw [List.all_cons, Bool.and_eq_true] at h1
      unfold am_lk at h2
      split at h2
      · rename_i hx
        have hq := Option.some.inj h2
        have := of_decide_eq_true h1.1
        rw [hx, hq] at this
        exact List.mem_of_getElem? this
      · exact ih h1.2 h2
  refine key _ ?_ h
  by_cases hw : w < 13
  · exact List.all_eq_true.mp am_x_ok w (List.mem_range.mpr hw)
  · rw [List.getD_eq_getElem?_getD, List.getElem?_eq_none (by have : am_mmL.length = 13 := rfl; omega)]
    rfl
/-- what is known of each class of objects -/
theorem am_cls {ci : Nat} {q : vw_C} (h : vwCl[ci]? = some q) : ci < 9 ∧ q.2.2 = am_nf ci ∧ (∀ w ∈ u_ws q.1 q.2.1 q.2.2, w ∈ am_ws) ∧ (∃ ty : Nat → FieldType, ∀ k, k < q.2.2 → parseFieldDescriptor (q.2.1 k).2.2.1 = some (ty k)) ∧ ∀ a, a < q.2.2 → ∀ b, b < q.2.2 → a ≠ b → (q.2.1 a).2.1 ≠ (q.2.1 b).2.1 := by
  match ci, h with
  | 0, h => obtain rfl := Option.some.inj h; exact ⟨by decide, rfl, fun w h => am_in (inX1 w h) (am_lay_good h), ⟨_, tyX1_ok⟩, nmX1⟩
  | 1, h => obtain rfl := Option.some.inj h; exact ⟨by decide, rfl, fun w h => am_in (inX3 w h) (am_lay_good h), ⟨_, tyX3_ok⟩, nmX3⟩
  | 2, h => obtain rfl := Option.some.inj h; exact ⟨by decide, rfl, fun w h => am_in (inX4 w h) (am_lay_good h), ⟨_, tyX4_ok⟩, nmX4⟩
  | 3, h => obtain rfl := Option.some.inj h; exact ⟨by decide, rfl, fun w h => am_in (inX5 w h) (am_lay_good h), ⟨_, tyX5_ok⟩, nmX5⟩
  | 4, h => obtain rfl := Option.some.inj h; exact ⟨by decide, rfl, fun w h => am_in (inX6 w h) (am_lay_good h), ⟨_, tyX6_ok⟩, nmX6⟩
  | 5, h => obtain rfl := Option.some.inj h; exact ⟨by decide, rfl, fun w h => am_in (inX7 w h) (am_lay_good h), ⟨_, tyX7_ok⟩, nmX7⟩
  | 6, h => obtain rfl := Option.some.inj h; exact ⟨by decide, rfl, fun w h => am_in (inX8 w h) (am_lay_good h), ⟨_, tyX8_ok⟩, nmX8⟩
  | 7, h => obtain rfl := Option.some.inj h; exact ⟨by decide, rfl, fun w h => am_in (inX9 w h) (am_lay_good h), ⟨_, tyX9_ok⟩, nmX9⟩
  | 8, h => obtain rfl := Option.some.inj h; exact ⟨by decide, rfl, fun w h => am_in (inX10 w h) (am_lay_good h), ⟨_, tyX10_ok⟩, nmX10⟩
  | k + 9, h => cases h
end Sim

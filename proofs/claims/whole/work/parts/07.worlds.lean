/-! the small machine's heap as a world of the kit -/
def am_cv (ad : Nat → Nat) : Value → Value
  | .ref n => .ref (ad n)
  | v => v
def am_cell (ad : Nat → Nat) (cA cR : ClassId) (σ : am_M) (c : Nat) : va_E :=
  if am_kind c = 100 then .inl (cA, am_len c, .inl (σ.1 c))
  else if am_kind c = 101 then .inl (cR, am_len c, .inr (.inr (.inr (.inr (fun j => some (ad (am_fr c j)))))))
  else .inr (am_kind c, (List.range (am_nf (am_kind c))).map (fun k => am_cv ad (am_get σ c k)))
def am_world (ad : Nat → Nat) (cA cR : ClassId) (σ : am_M) : va_W := (List.range 88).map (fun c => (ad c, am_cell ad cA cR σ c))
abbrev am_tys (cA cR : ClassId) : List (ClassId × FieldType) := [(cA, .int), (cR, .object "SettledInstants$Place")]
theorem am_kl : am_kindL.length = 88 := rfl
theorem am_lt {c : Nat} (h : am_kind c ≠ 999) : c < 88 := by
  refine Nat.lt_of_not_le fun q => h ?_
  have h1 : am_kindL[c]? = none := List.getElem?_eq_none (by rw [am_kl]; exact q)
  unfold am_kind
  rw [List.getD_eq_getElem?_getD, h1]
  rfl
section Worlds
variable {ad : Nat → Nat} {cA cR : ClassId} {σ σ' : am_M} {c k : Nat}
theorem am_at (h : c < 88) : (am_world ad cA cR σ)[c]? = some (ad c, am_cell ad cA cR σ c) := by
  unfold am_world
  rw [List.getElem?_map, List.getElem?_range h]
  rfl
theorem am_world_set {e : va_E} (hc : c < 88) (h : ∀ j, j ≠ c → am_cell ad cA cR σ' j = am_cell ad cA cR σ j) (he : am_cell ad cA cR σ' c = e) : (am_world ad cA cR σ).set c (ad c, e) = am_world ad cA cR σ' := by
  subst he
  apply List.ext_getElem?
  intro j
  by_cases hlt : j < 88
  · rw [am_at hlt, List.getElem?_set]
    by_cases hj : c = j
    · subst hj
      rw [if_pos rfl, if_pos (by simpa [am_world] using hc)]
    · rw [if_neg hj, am_at hlt, h j (Ne.symm hj)]
  · rw [List.getElem?_eq_none (by simp [am_world]; omega), List.getElem?_eq_none (by simp [am_world]; omega)]
theorem am_cell_same {j : Nat} (h1 : σ'.1 j = σ.1 j) (h2 : σ'.2 j = σ.2 j) : am_cell ad cA cR σ' j = am_cell ad cA cR σ j := by
  unfold am_cell am_get
  rw [h1, h2]
theorem am_cell_arr (h : am_kind c = 100) : am_cell ad cA cR σ c = .inl (cA, am_len c, .inl (σ.1 c)) := by
  unfold am_cell
  rw [if_pos h]
theorem am_cell_ref (h : am_kind c = 101) : am_cell ad cA cR σ c = .inl (cR, am_len c, .inr (.inr (.inr (.inr (fun j => some (ad (am_fr c j))))))) := by
  unfold am_cell
  rw [if_neg (by rw [h]; decide), if_pos h]
theorem am_cell_obj (h : am_kind c < 9) : am_cell ad cA cR σ c = .inr (am_kind c, (List.range (am_nf (am_kind c))).map (fun k => am_cv ad (am_get σ c k))) := by
  unfold am_cell
  rw [if_neg (by omega), if_neg (by omega)]
theorem am_wr_at (x : Int32) : (am_wr σ c k x).1 c = upd (σ.1 c) k x := by simp [am_wr, am_up]
theorem am_wr_ne {j : Nat} (x : Int32) (h : j ≠ c) : (am_wr σ c k x).1 j = σ.1 j := by simp [am_wr, am_up, h]
theorem am_map_set {n : Nat} {f f' : Nat → Value} {v : Value} (hk : f' k = v) (h : ∀ j, j ≠ k → f' j = f j) : ((List.range n).map f).set k v = (List.range n).map f' := by
  subst hk
  apply List.ext_getElem?
  intro j
  by_cases hlt : j < n
  · rw [List.getElem?_set, List.getElem?_map, List.getElem?_map, List.getElem?_range hlt]
    by_cases hj : k = j
    · subst hj
      rw [if_pos rfl, if_pos (by simpa using hlt)]
      rfl
    · rw [if_neg hj]
      simp [h j (Ne.symm hj)]
  · rw [List.getElem?_eq_none (by simp; omega), List.getElem?_eq_none (by simp; omega)]
theorem am_put_spec {v : Value} (h : am_put σ c k v = some σ') : (∀ j, j ≠ c → σ'.1 j = σ.1 j ∧ σ'.2 j = σ.2 j) ∧ am_get σ' c k = v ∧ (∀ j, j ≠ k → am_get σ' c j = am_get σ c j) ∧ ((am_ft (am_kind c) k = 0 ∧ ∃ x, v = .int x) ∨ (am_ft (am_kind c) k = 1 ∧ ∃ x : Int32, v = .int x ∧ (x = 0 ∨ x = 1)) ∨ (am_ft (am_kind c) k = 3 ∧ ∃ t, v = .ref t)) := by
  have hI : ∀ x : Int32, ∀ j, j ≠ c → (am_wr σ c k x).1 j = σ.1 j ∧ (am_wr σ c k x).2 j = σ.2 j := fun x j hj => ⟨am_wr_ne x hj, rfl⟩
  have hO : ∀ x : Int32, ∀ j, j ≠ k → am_get (am_wr σ c k x) c j = am_get σ c j := by
    intro x j hj
    unfold am_get
    rw [am_wr_at]
    simp [upd, hj, am_wr]
  unfold am_put at h
  split at h
  · rename_i x hft
    obtain rfl := Option.some.inj h
    refine ⟨hI x, ?_, hO x, Or.inl ⟨hft, x, rfl⟩⟩
    unfold am_get
    rw [hft, am_wr_at]
    simp [upd]
  · rename_i x hft
    split at h
    · rename_i hx
      obtain rfl := Option.some.inj h
      refine ⟨hI x, ?_, hO x, Or.inr (Or.inl ⟨hft, x, rfl, hx⟩)⟩
      unfold am_get
      rw [hft, am_wr_at]
      simp [upd]
    · cases h
  · rename_i t hft
    obtain rfl := Option.some.inj h
    refine ⟨fun j hj => ⟨rfl, ?_⟩, ?_, ?_, Or.inr (Or.inr ⟨hft, t, rfl⟩)⟩
    · funext q
      simp [am_wrR, hj]
    · unfold am_get
      rw [hft]
      simp [am_wrR]
    · intro j hj
      unfold am_get
      simp [am_wrR, hj]
  · cases h
end Worlds
/-- locals: what the small machine knows of them -/
def am_lv (ad : Nat → Nat) (nL : Nat) (ls : am_L) (a : Array Slot) : Prop := ls.length = nL ∧ a.size = nL ∧ lv_wf a ∧ ∀ (i : Nat) (v : Value), am_ld ls i = some v → v.category = 1 ∧ a[i]? = some (.val (am_cv ad v))
theorem am_cv_cat (ad : Nat → Nat) (v : Value) : (am_cv ad v).category = v.category := by cases v <;> rfl
theorem am_cat_sum (ad : Nat → Nat) (st : List Value) : ((st.map (am_cv ad)).map fun v => v.category).sum = (st.map fun v => v.category).sum := by
  rw [List.map_map]
  congr 1
  exact List.map_congr_left fun v _ => am_cv_cat ad v
def am_al (ad : Nat → Nat) (ls : am_L) : List (Nat × Value) := (List.range ls.length).filterMap (fun i => (am_ld ls i).map (fun v => (i, am_cv ad v)))
theorem am_ld_lt {ls : am_L} {i : Nat} {v : Value} (h : am_ld ls i = some v) : i < ls.length := by
  refine Nat.lt_of_not_le fun q => ?_
  unfold am_ld at h
  rw [List.getD_eq_getElem?_getD, List.getElem?_eq_none q] at h
  cases h
theorem am_lv_has {ad : Nat → Nat} {nL : Nat} {ls : am_L} {a : Array Slot} (h : am_lv ad nL ls a) : lv_has a nL (am_al ad ls) := by
  obtain ⟨h1, h2, h3, h4⟩ := h
  refine ⟨h2, h3, fun q hq => ?_⟩
  obtain ⟨i, -, hi⟩ := List.mem_filterMap.mp hq
  cases hv : am_ld ls i with
  | none => rw [hv] at hi; cases hi
  | some v =>
    rw [hv] at hi
    obtain rfl := Option.some.inj hi
    exact (h4 i v hv).2
theorem am_al_mem {ad : Nat → Nat} {ls : am_L} {i : Nat} {v : Value} (h : am_ld ls i = some v) : (i, am_cv ad v) ∈ am_al ad ls :=
  List.mem_filterMap.mpr ⟨i, List.mem_range.mpr (am_ld_lt h), by rw [h]; rfl⟩
theorem am_lv_set {ad : Nat → Nat} {nL i : Nat} {ls : am_L} {a a' : Array Slot} {v : Value} (h : am_lv ad nL ls a) (hv : v.category = 1) (h' : lv_has a' nL ((i, am_cv ad v) :: (am_al ad ls).filter (fun q => !(q.1 == i) && !(q.1 + 1 == i && q.2.category == 2)))) : am_lv ad nL (ls.set i (some v)) a' := by
  obtain ⟨h1, h2, h3, h4⟩ := h
  obtain ⟨g1, g2, g3⟩ := h'
  refine ⟨by rw [List.length_set]; exact h1, g1, g2, fun j w hw => ?_⟩
  by_cases hj : i = j
  · subst hj
    have hlt := am_ld_lt hw
    rw [List.length_set] at hlt
    have : am_ld (ls.set i (some v)) i = some v := by
      unfold am_ld
      rw [List.getD_eq_getElem?_getD, List.getElem?_set, if_pos rfl, if_pos hlt]
      rfl
    obtain rfl : v = w := Option.some.inj (this.symm.trans hw)
    exact ⟨hv, g3 _ List.mem_cons_self⟩
  · have hw' : am_ld ls j = some w := by
      unfold am_ld at hw ⊢
      rw [List.getD_eq_getElem?_getD, List.getElem?_set, if_neg hj, ← List.getD_eq_getElem?_getD] at hw
      exact hw
    have hc := (h4 j w hw').1
    refine ⟨hc, g3 (j, am_cv ad w) (List.mem_cons_of_mem _ (List.mem_filter.mpr ⟨am_al_mem hw', ?_⟩))⟩
    have hji : ¬ j = i := fun q => hj q.symm
    simp [hji, am_cv_cat, hc]
theorem am_k_eq (n : Int) : Int32.ofInt n = am_k n := by
  cases n with
  | ofNat n => exact Int32.ofInt_eq_ofNat
  | negSucc n =>
    cases n with
    | zero => decide
    | succ n => rfl
theorem am_k8 {n : Int} (h : -128 ≤ n ∧ n < 128) : (Int8.ofInt n).toInt32 = am_k n := by
  rw [← am_k_eq, ← Int32.ofInt_int8ToInt, Int8.toInt_ofInt_of_le (by omega) (by omega)]
theorem am_k16 {n : Int} (h : -32768 ≤ n ∧ n < 32768) : (Int16.ofInt n).toInt32 = am_k n := by
  rw [← am_k_eq, ← Int32.ofInt_int16ToInt, Int16.toInt_ofInt_of_le (by omega) (by omega)]
theorem am_tg_eq {pc : Nat} {off : Int} (h : 0 ≤ (pc : Int) + off) : (pc : Int) + off = (am_tg pc off : Int) := (Int.toNat_of_nonneg h).symm

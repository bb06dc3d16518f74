/-! what reading leaves as it was: the statements that stood before; where it stands then -/
def PF (n0 : Nat) (p0 : Nat → Nat → Nat) (S' : PS) (r : Nat) : Prop := n0 ≤ r ∧ r < S'.2.1 ∧ ∀ w i, i < n0 → S'.2.2.2 w i = p0 w i
def FRM (f : Nat → Nat → PS → RS) : Prop := ∀ tr lc (S S' : PS) r, f tr lc S = .inr (S', r) → PF S.2.1 S.2.2.2 S' r
theorem PF.ops {n0 : Nat} {p0 : Nat → Nat → Nat} {S' : PS} {r st l q : Nat} (h : PF n0 p0 S' r) (hs : n0 ≤ st) (hs2 : st < S'.2.1) : PF n0 p0 (ps_ops S' st l q) st := ⟨hs, hs2, fun w i hi => by
  show (if i = st then _ else S'.2.2.2 w i) = p0 w i
  rw [if_neg (by omega)]
  exact h.2.2 w i hi⟩
theorem PF.at {n0 : Nat} {p0 : Nat → Nat → Nat} {S' : PS} {r q : Nat} (h : PF n0 p0 S' r) : PF n0 p0 (ps_at S' q) r := h
theorem ps_add_old (S : PS) (c q w : Nat) {i : Nat} (h : i < S.2.1) : (ps_add S c q).2.2.2 w i = S.2.2.2 w i := if_neg (by omega)
theorem PF.add {S S' : PS} {c q r : Nat} (h : PF (S.2.1 + 1) (ps_add S c q).2.2.2 S' r) : PF S.2.1 S.2.2.2 S' r := ⟨by have := h.1; omega, h.2.1, fun w i hi => by rw [h.2.2 w i (by omega)]; exact ps_add_old S c q w hi⟩
section Frames
variable {tx : Nat → Nat} {L : Nat}
theorem beg_inr {S S1 : PS} {c lc q : Nat} (h : p_beg S c lc q = .inr S1) : S1 = ps_add S c q ∧ S.2.1 < 60 ∧ (isP c = true → S.2.2.1 < 20) ∧ (c = 36 → lc < 3) := by
  unfold p_beg at h
  split at h
  · cases h
  · rename_i hr
    split at h
    · cases h
    · rename_i h36
      refine ⟨(Sum.inr.inj h).symm, ?_, fun z => ?_, fun z => ?_⟩
      · rcases Nat.lt_or_ge S.2.1 60 with y | y
        · exact y
        · exact absurd (Or.inl y) hr
      · rcases Nat.lt_or_ge S.2.2.1 20 with y | y
        · exact y
        · exact absurd (Or.inr ⟨z, y⟩) hr
      · rcases Nat.lt_or_ge lc 3 with y | y
        · exact y
        · exact absurd ⟨z, y⟩ h36
theorem enc_inr {blk : Option (Nat → Nat → PS → RS)} {op cl tr lc r : Nat} {S S' : PS} (h : p_enc tx L blk op cl tr lc S = .inr (S', r)) : ∃ f S1, blk = some f ∧ tk tx L (lk tx L S.1) = op ∧ f tr lc (ps_at S (lk tx L S.1 + 1)) = .inr (S1, r) ∧ tk tx L (lk tx L S1.1) = cl ∧ S' = ps_at S1 (lk tx L S1.1 + 1) := by
  unfold p_enc at h
  split at h
  · cases h
  · rename_i ho
    have ho := Classical.not_not.mp ho
    match blk, h with
    | none, h => cases h
    | some f, h =>
      have h : (match f tr lc (ps_at S (lk tx L S.1 + 1)) with
        | .inl e => .inl e
        | .inr (S1, r) => if ¬ tk tx L (lk tx L S1.1) = cl then .inl (1, lk tx L S1.1) else .inr (ps_at S1 (lk tx L S1.1 + 1), r)) = (.inr (S', r) : RS) := h
      match hf : f tr lc (ps_at S (lk tx L S.1 + 1)), h with
      | .inl e, h => cases h
      | .inr (S1, r1), h =>
        have h : (if ¬ tk tx L (lk tx L S1.1) = cl then .inl (1, lk tx L S1.1) else .inr (ps_at S1 (lk tx L S1.1 + 1), r1)) = (.inr (S', r) : RS) := h
        split at h
        · cases h
        · rename_i hc
          have e := Sum.inr.inj h
          have e1 : ps_at S1 (lk tx L S1.1 + 1) = S' := congrArg Prod.fst e
          have e2 : r1 = r := congrArg Prod.snd e
          subst e2
          exact ⟨f, S1, rfl, ho, hf, Classical.not_not.mp hc, e1.symm⟩
theorem enc_pf {blk : Option (Nat → Nat → PS → RS)} (hb : ∀ f, blk = some f → FRM f) {op cl tr lc r : Nat} {S S' : PS} (h : p_enc tx L blk op cl tr lc S = .inr (S', r)) : PF S.2.1 S.2.2.2 S' r := by
  obtain ⟨f, S1, e1, -, e2, -, rfl⟩ := enc_inr h
  have q := hb f e1 _ _ _ _ _ e2
  exact q
/-- what a block's reading comes to -/
theorem blk_inr {blk : Option (Nat → Nat → PS → RS)} {c tr lc st r : Nat} {S S' : PS} (h : p_blk tx L blk c tr lc st S = .inr (S', r)) : r = st ∧ ∃ S3 f, p_enc tx L blk 123 125 (if c = 94 then tr + 1 else tr) (if c = 36 then lc + 1 else lc) S = .inr (S3, f) ∧ ((¬ c = 63 ∧ S' = ps_ops S3 st (f + 1) 0) ∨ (c = 63 ∧ ¬ tk tx L (lk tx L S3.1) = 123 ∧ S' = ps_ops (ps_at S3 (lk tx L S3.1)) st (f + 1) 0) ∨ (c = 63 ∧ tk tx L (lk tx L S3.1) = 123 ∧ ∃ S4 g, p_enc tx L blk 123 125 tr lc (ps_at S3 (lk tx L S3.1)) = .inr (S4, g) ∧ S' = ps_ops S4 st (f + 1) (g + 1))) := by
  unfold p_blk at h
  match he : p_enc tx L blk 123 125 (if c = 94 then tr + 1 else tr) (if c = 36 then lc + 1 else lc) S, h with
  | .inl e, h => cases h
  | .inr (S3, f), h =>
    have h : (if c = 63 then (if tk tx L (lk tx L S3.1) = 123 then (match p_enc tx L blk 123 125 tr lc (ps_at S3 (lk tx L S3.1)) with
        | .inl e => .inl e
        | .inr (S4, g) => .inr (ps_ops S4 st (f + 1) (g + 1), st)) else .inr (ps_ops (ps_at S3 (lk tx L S3.1)) st (f + 1) 0, st)) else .inr (ps_ops S3 st (f + 1) 0, st)) = (.inr (S', r) : RS) := h
    split at h
    · rename_i hc
      split at h
      · rename_i hn
        match hg : p_enc tx L blk 123 125 tr lc (ps_at S3 (lk tx L S3.1)), h with
        | .inl e, h => cases h
        | .inr (S4, g), h =>
          have e := Sum.inr.inj h
          have e1 : ps_ops S4 st (f + 1) (g + 1) = S' := congrArg Prod.fst e
          have e2 : st = r := congrArg Prod.snd e
          exact ⟨e2.symm, S3, f, rfl, Or.inr (Or.inr ⟨hc, hn, S4, g, hg, e1.symm⟩)⟩
      · rename_i hn
        have e := Sum.inr.inj h
        have e1 : ps_ops (ps_at S3 (lk tx L S3.1)) st (f + 1) 0 = S' := congrArg Prod.fst e
        have e2 : st = r := congrArg Prod.snd e
        exact ⟨e2.symm, S3, f, rfl, Or.inr (Or.inl ⟨hc, hn, e1.symm⟩)⟩
    · rename_i hc
      have e := Sum.inr.inj h
      have e1 : ps_ops S3 st (f + 1) 0 = S' := congrArg Prod.fst e
      have e2 : st = r := congrArg Prod.snd e
      exact ⟨e2.symm, S3, f, rfl, Or.inl ⟨hc, e1.symm⟩⟩
theorem blk_pf {blk : Option (Nat → Nat → PS → RS)} (hb : ∀ f, blk = some f → FRM f) {c tr lc st r n0 : Nat} {p0 : Nat → Nat → Nat} {S S' : PS} (hn : n0 ≤ st) (hst : st < S.2.1) (hS : ∀ w i, i < n0 → S.2.2.2 w i = p0 w i) (h : p_blk tx L blk c tr lc st S = .inr (S', r)) : PF n0 p0 S' r := by
  obtain ⟨rfl, S3, f, e3, h⟩ := blk_inr h
  have h3 := enc_pf hb e3
  have h3' : PF n0 p0 S3 f := ⟨by have := h3.1; omega, h3.2.1, fun w i hi => by rw [h3.2.2 w i (by omega)]; exact hS w i hi⟩
  have hl3 : r < S3.2.1 := by have := h3.1; have := h3.2.1; omega
  rcases h with ⟨-, rfl⟩ | ⟨-, -, rfl⟩ | ⟨-, -, S4, g, e4, rfl⟩
  · exact h3'.ops hn hl3
  · exact (h3'.at (q := lk tx L S3.1)).ops hn hl3
  · have h4 := enc_pf hb e4
    have n34 : (ps_at S3 (lk tx L S3.1)).2.1 = S3.2.1 := rfl
    rw [n34] at h4
    have h4' : PF n0 p0 S4 g := ⟨by have := h4.1; omega, h4.2.1, fun w i hi => by rw [h4.2.2 w i (by omega)]; exact h3'.2.2 w i hi⟩
    exact h4'.ops hn (by have := h4.1; have := h4.2.1; omega)
theorem part_pf {blk : Option (Nat → Nat → PS → RS)} (hb : ∀ f, blk = some f → FRM f) : FRM (p_part tx L blk) := by
  intro tr lc S S' r h
  by_cases e40 : tk tx L (lk tx L S.1) = 40
  · rw [pp_40 e40] at h
    have q := enc_pf hb h
    exact q
  · by_cases hbad : isF (tk tx L (lk tx L S.1)) = false ∧ isB (tk tx L (lk tx L S.1)) = false
    · rw [pp_bad e40 hbad] at h; cases h
    · match hp : p_beg S (tk tx L (lk tx L S.1)) lc (lk tx L S.1) with
      | .inl k =>
        unfold p_part at h
        rw [if_neg e40, if_neg hbad, hp] at h
        cases h
      | .inr S1 =>
        unfold p_part at h
        rw [if_neg e40, if_neg hbad, hp] at h
        obtain ⟨rfl, -⟩ := beg_inr hp
        have base : ∀ (S2 : PS), S2.2.1 = S.2.1 + 1 → (∀ w i, i < S.2.1 → S2.2.2.2 w i = S.2.2.2 w i) → PF S.2.1 S.2.2.2 S2 S.2.1 := fun S2 h1 h2 => ⟨Nat.le_refl _, by omega, h2⟩
        have hd : ∀ v q w i, i < S.2.1 → (ps_at (ps_det (ps_add S (tk tx L (lk tx L S.1)) (lk tx L S.1)) S.2.1 v) q).2.2.2 w i = S.2.2.2 w i := fun v q w i hi => by
          show (if i = S.2.1 ∧ w = 1 then _ else _) = _
          rw [if_neg (by omega)]
          exact ps_add_old S _ _ w hi
        have fin : ∀ {S2 : PS}, (.inr (S2, S.2.1) : RS) = .inr (S', r) → S2.2.1 = S.2.1 + 1 → (∀ w i, i < S.2.1 → S2.2.2.2 w i = S.2.2.2 w i) → PF S.2.1 S.2.2.2 S' r := fun e h1 h2 => by
          have e := Sum.inr.inj e
          have e1 := congrArg Prod.fst e
          have e2 := congrArg Prod.snd e
          subst e1
          subst e2
          exact base _ h1 h2
        have h : (if tk tx L (lk tx L S.1) = 120 then _ else if isS (tk tx L (lk tx L S.1)) = true then _ else if isB (tk tx L (lk tx L S.1)) = true then _ else _) = (.inr (S', r) : RS) := h
        split at h
        · split at h
          · cases h
          · split at h
            · cases h
            · exact fin h rfl (hd _ _)
        · split at h
          · split at h
            · cases h
            · split at h
              · exact blk_pf hb (Nat.le_refl _) (by show S.2.1 < S.2.1 + 1; omega) (hd _ _) h
              · exact fin h rfl (hd _ _)
          · split at h
            · exact blk_pf hb (Nat.le_refl _) (by show S.2.1 < S.2.1 + 1; omega) (fun w i hi => ps_add_old S _ _ w hi) h
            · exact fin h rfl (fun w i hi => ps_add_old S _ _ w hi)
theorem lop_s {sg tr lc g l : Nat} {nx : Nat → Nat → PS → RS} {S : PS} : p_lop tx L sg nx tr lc (g + 1) S l = (if tk tx L (lk tx L S.1) = sg then (match p_beg S sg lc (lk tx L S.1) with
      | .inl e => .inl e
      | .inr S1 => match nx tr lc S1 with
        | .inl e => .inl e
        | .inr (S2, r) => p_lop tx L sg nx tr lc g (ps_ops S2 S.2.1 (l + 1) (r + 1)) S.2.1) else .inr (ps_at S (lk tx L S.1), l)) := rfl
theorem lop_pf {sg : Nat} {nx : Nat → Nat → PS → RS} (hn : FRM nx) {tr lc n0 : Nat} {p0 : Nat → Nat → Nat} {S' : PS} {r : Nat} : ∀ (g : Nat) (S : PS) (l : Nat), PF n0 p0 S l → p_lop tx L sg nx tr lc g S l = .inr (S', r) → PF n0 p0 S' r
  | 0, S, l, hP, h => by
    have e := Sum.inr.inj h
    have e1 : S = S' := congrArg Prod.fst e
    have e2 : l = r := congrArg Prod.snd e
    subst e1
    subst e2
    exact hP
  | g + 1, S, l, hP, h => by
    rw [lop_s] at h
    split at h
    · match hp : p_beg S sg lc (lk tx L S.1), h with
      | .inl k, h => cases h
      | .inr S1, h =>
        obtain ⟨rfl, -⟩ := beg_inr hp
        have h : (match nx tr lc (ps_add S sg (lk tx L S.1)) with | .inl e => .inl e | .inr (S2, r) => p_lop tx L sg nx tr lc g (ps_ops S2 S.2.1 (l + 1) (r + 1)) S.2.1) = (.inr (S', r) : RS) := h
        match hx : nx tr lc (ps_add S sg (lk tx L S.1)), h with
        | .inl k, h => cases h
        | .inr (S2, r2), h =>
          have h : p_lop tx L sg nx tr lc g (ps_ops S2 S.2.1 (l + 1) (r2 + 1)) S.2.1 = (.inr (S', r) : RS) := h
          have h2 := hn _ _ _ _ _ hx
          have q1 : S.2.1 + 1 ≤ r2 := h2.1
          have q2 := h2.2.1
          have l1 := hP.1
          have l2 := hP.2.1
          have hS2 : PF n0 p0 S2 r2 := ⟨by omega, q2, fun w i hi => by rw [h2.2.2 w i (show i < S.2.1 + 1 by omega), ps_add_old S _ _ w (by omega)]; exact hP.2.2 w i hi⟩
          exact lop_pf hn g _ _ (hS2.ops (by omega) (by omega)) h
    · have e := Sum.inr.inj h
      have e1 : ps_at S (lk tx L S.1) = S' := congrArg Prod.fst e
      have e2 : l = r := congrArg Prod.snd e
      subst e1
      subst e2
      exact hP
theorem row_pf {sg : Nat} {nx : Nat → Nat → PS → RS} (hn : FRM nx) : FRM (p_row tx L sg nx) := by
  intro tr lc S S' r h
  unfold p_row at h
  match hx : nx tr lc S, h with
  | .inl k, h => cases h
  | .inr (S1, l), h =>
    exact lop_pf hn 120 S1 l (hn _ _ _ _ _ hx) h
theorem lv_pf : ∀ m, FRM (p_lv tx L m)
  | 0 => row_pf (row_pf (part_pf (fun f h => by cases h)))
  | m + 1 => row_pf (row_pf (part_pf (fun f h => by cases h; exact lv_pf m)))
end Frames

/-! where the letter of each statement stands -/
def nTb (c : Nat) : Bool := isF c || isB c || c == 59 || c == 124
def stp (c : Nat) (u : Nat × Nat) : Nat × Nat := if c = 32 then u else (if c = 120 ∧ u.1 = 0 then 1 else 0, if u.1 = 0 ∧ nTb c = true then u.2 + 1 else u.2)
def stf (tx : Nat → Nat) : Nat → Nat × Nat
  | 0 => (0, 0)
  | q + 1 => stp (tx q) (stf tx q)
section Places
variable {tx : Nat → Nat} {L : Nat}
def PK (tx : Nat → Nat) (L u : Nat) (S : PS) : Prop := S.1 ≤ L ∧ stf tx S.1 = (u, S.2.1) ∧ ∀ k, k < S.2.1 → S.2.2.2 5 k < L ∧ stf tx (S.2.2.2 5 k) = (0, k) ∧ nTb (tx (S.2.2.2 5 k)) = true ∧ nTb (S.2.2.2 0 k) = true ∧ (isF (S.2.2.2 0 k) = true → S.2.2.2 2 k = 0 ∧ S.2.2.2 3 k = 0)
def PKM (tx : Nat → Nat) (L : Nat) (f : Nat → Nat → PS → RS) : Prop := ∀ tr lc (S S' : PS) r, f tr lc S = .inr (S', r) → PK tx L 0 S → PK tx L 0 S'
theorem tk_lt {q c : Nat} (h : tk tx L q = c) (hc : c ≠ 256) : q < L ∧ tx q = c := by
  unfold tk at h
  split at h
  · exact ⟨by assumption, h⟩
  · exact absurd h.symm hc
theorem stf_skp : ∀ m q, stf tx (skp tx L m q) = stf tx q
  | 0, q => rfl
  | m + 1, q => by
    unfold skp
    split
    · rename_i e
      rw [stf_skp m (q + 1)]
      show stp (tx q) (stf tx q) = _
      rw [e.2]
      rfl
    · rfl
theorem stf_lk {q : Nat} : stf tx (lk tx L q) = stf tx q := stf_skp 120 q
theorem PK.at {u : Nat} {S : PS} (h : PK tx L u S) : PK tx L u (ps_at S (lk tx L S.1)) := ⟨(lk_le h.1).2, (stf_lk (L := L)).trans h.2.1, h.2.2⟩
theorem PK.tok {u c : Nat} {S : PS} (h : PK tx L u S) (hc : tk tx L (lk tx L S.1) = c) (h1 : c ≠ 256) (h2 : c ≠ 32) (h3 : u = 0 → c ≠ 120 ∧ nTb c = false) : PK tx L 0 (ps_at S (lk tx L S.1 + 1)) := by
  obtain ⟨q1, q2⟩ := tk_lt hc h1
  refine ⟨by show lk tx L S.1 + 1 ≤ L; omega, ?_, h.2.2⟩
  show stp (tx (lk tx L S.1)) (stf tx (lk tx L S.1)) = (0, S.2.1)
  rw [q2, stf_lk, h.2.1]
  unfold stp
  rw [if_neg h2]
  by_cases hu : u = 0
  · obtain ⟨h4, h5⟩ := h3 hu
    rw [if_neg (fun z => h4 z.1), if_neg (fun z => by have z := z.2; rw [h5] at z; cases z)]
  · rw [if_neg (fun z => hu z.2), if_neg (fun z => hu z.1)]
theorem PK.add {c : Nat} {S : PS} (h : PK tx L 0 S) (hc : tk tx L (lk tx L S.1) = c) (h1 : c ≠ 256) (h2 : c ≠ 32) (h3 : nTb c = true) : PK tx L (if c = 120 then 1 else 0) (ps_add S c (lk tx L S.1)) := by
  obtain ⟨q1, q2⟩ := tk_lt hc h1
  refine ⟨by show lk tx L S.1 + 1 ≤ L; omega, ?_, fun k hk => ?_⟩
  · show stp (tx (lk tx L S.1)) (stf tx (lk tx L S.1)) = (if c = 120 then 1 else 0, S.2.1 + 1)
    rw [q2, stf_lk, h.2.1]
    unfold stp
    rw [if_neg h2, if_pos (⟨rfl, h3⟩ : (0, S.2.1).1 = 0 ∧ nTb c = true)]
    by_cases hz : c = 120
    · rw [if_pos hz, if_pos ⟨hz, rfl⟩]
    · rw [if_neg hz, if_neg (fun z => hz z.1)]
  · by_cases hz : k = S.2.1
    · subst hz
      have r5 : (ps_add S c (lk tx L S.1)).2.2.2 5 S.2.1 = lk tx L S.1 := if_pos rfl
      have r0 : (ps_add S c (lk tx L S.1)).2.2.2 0 S.2.1 = c := if_pos rfl
      have r2 : (ps_add S c (lk tx L S.1)).2.2.2 2 S.2.1 = 0 := if_pos rfl
      have r3 : (ps_add S c (lk tx L S.1)).2.2.2 3 S.2.1 = 0 := if_pos rfl
      rw [r5, r0, r2, r3, q2, stf_lk]
      exact ⟨q1, h.2.1, h3, h3, fun _ => ⟨rfl, rfl⟩⟩
    · have hk : k < S.2.1 + 1 := hk
      have hk : k < S.2.1 := by omega
      rw [ps_add_old S c _ 5 hk, ps_add_old S c _ 0 hk, ps_add_old S c _ 2 hk, ps_add_old S c _ 3 hk]
      exact h.2.2 k hk
theorem det_o (S : PS) (st v w k : Nat) (hw : w ≠ 1) : (ps_det S st v).2.2.2 w k = S.2.2.2 w k := if_neg (fun z => hw z.2)
theorem PK.det {u st v : Nat} {S : PS} (h : PK tx L u S) : PK tx L u (ps_det S st v) := ⟨h.1, h.2.1, fun k hk => by
  rw [det_o S st v 5 k (by decide), det_o S st v 0 k (by decide), det_o S st v 2 k (by decide), det_o S st v 3 k (by decide)]
  exact h.2.2 k hk⟩
theorem PK.ops {u st l r : Nat} {S : PS} (h : PK tx L u S) (hF : isF (S.2.2.2 0 st) = false) : PK tx L u (ps_ops S st l r) := ⟨h.1, h.2.1, fun k hk => by
  have hk : k < S.2.1 := hk
  by_cases hz : k = st
  · subst hz
    have K := ops_k S k l r
    have K5 : (ps_ops S k l r).2.2.2 5 k = S.2.2.2 5 k := K 5
    have K0 : (ps_ops S k l r).2.2.2 0 k = S.2.2.2 0 k := K 0
    rw [K5, K0, hF]
    obtain ⟨g1, g2, g3, g4, -⟩ := h.2.2 k hk
    exact ⟨g1, g2, g3, g4, fun z => by cases z⟩
  · rw [ops_o S st l r 5 hz, ops_o S st l r 0 hz, ops_o S st l r 2 hz, ops_o S st l r 3 hz]
    exact h.2.2 k hk⟩
theorem enc_pk {blk : Option (Nat → Nat → PS → RS)} (hb : ∀ f, blk = some f → PKM tx L f) {op cl tr lc r : Nat} (hop : (op = 40 ∧ cl = 41) ∨ (op = 123 ∧ cl = 125)) {S S' : PS} (h : p_enc tx L blk op cl tr lc S = .inr (S', r)) (hS : PK tx L 0 S) : PK tx L 0 S' := by
  obtain ⟨f, S1, e1, e0, e2, e3, rfl⟩ := enc_inr h
  have no : ∀ c, (c = 40 ∨ c = 41 ∨ c = 123 ∨ c = 125) → nTb c = false := fun c hc => by
    rcases hc with rfl | rfl | rfl | rfl <;> rfl
  have h1 := hb f e1 _ _ _ _ _ e2 (hS.tok e0 (by omega) (by omega) (fun _ => ⟨by omega, no _ (by omega)⟩))
  exact h1.tok e3 (by omega) (by omega) (fun _ => ⟨by omega, no _ (by omega)⟩)
theorem blk_pk {blk : Option (Nat → Nat → PS → RS)} (hb : ∀ f, blk = some f → PKM tx L f) (hm : ∀ f, blk = some f → FRM f) {c tr lc st r : Nat} {S S' : PS} (hst : st < S.2.1) (hF : isF (S.2.2.2 0 st) = false) (h : p_blk tx L blk c tr lc st S = .inr (S', r)) (hS : PK tx L 0 S) : PK tx L 0 S' := by
  obtain ⟨rfl, S3, f, e3, h⟩ := blk_inr h
  have k3 := enc_pk hb (Or.inr ⟨rfl, rfl⟩) e3 hS
  have f3 := enc_pf hm e3
  have t3 : isF (S3.2.2.2 0 r) = false := by rw [f3.2.2 0 r hst]; exact hF
  rcases h with ⟨-, rfl⟩ | ⟨-, -, rfl⟩ | ⟨-, -, S4, g, e4, rfl⟩
  · exact k3.ops t3
  · exact k3.at.ops t3
  · have k4 := enc_pk hb (Or.inr ⟨rfl, rfl⟩) e4 k3.at
    have f4 := enc_pf hm e4
    have q1 := f3.1
    have q2 := f3.2.1
    exact k4.ops (by rw [f4.2.2 0 r (by show r < S3.2.1; omega)]; exact t3)
theorem part_pk {blk : Option (Nat → Nat → PS → RS)} (hb : ∀ f, blk = some f → PKM tx L f) (hm : ∀ f, blk = some f → FRM f) : PKM tx L (p_part tx L blk) := by
  intro tr lc S S' r h hS
  by_cases e40 : tk tx L (lk tx L S.1) = 40
  · rw [pp_40 e40] at h
    exact enc_pk hb (Or.inl ⟨rfl, rfl⟩) h hS.at
  · by_cases hbad : isF (tk tx L (lk tx L S.1)) = false ∧ isB (tk tx L (lk tx L S.1)) = false
    · rw [pp_bad e40 hbad] at h; cases h
    · match hp : p_beg S (tk tx L (lk tx L S.1)) lc (lk tx L S.1) with
      | .inl k =>
        unfold p_part at h
        rw [if_neg e40, if_neg hbad, hp] at h
        cases h
      | .inr S1 =>
        unfold p_part at h
        rw [if_neg e40, if_neg hbad, hp] at h
        obtain ⟨rfl, -⟩ := beg_inr hp
        have cs := isB_cases hbad e40
        obtain ⟨c, hc⟩ : ∃ c, tk tx L (lk tx L S.1) = c := ⟨_, rfl⟩
        rw [hc] at cs
        have hn : nTb c = true := by rcases cs with rfl | rfl | rfl | rfl | rfl | rfl | rfl | rfl | rfl | rfl | rfl <;> rfl
        have ka := hS.add hc (by omega) (by omega) hn
        rw [hc] at h
        have fin : ∀ {S2 : PS}, (.inr (S2, S.2.1) : RS) = .inr (S', r) → PK tx L 0 S2 → PK tx L 0 S' := fun e h1 => by
          have e1 := congrArg Prod.fst (Sum.inr.inj e)
          subst e1
          exact h1
        have let_ : ∀ {q}, ¬ (tk tx L q < 97 ∨ 104 < tk tx L q) → tk tx L q ≠ 256 ∧ tk tx L q ≠ 32 ∧ tk tx L q ≠ 120 ∧ nTb (tk tx L q) = false := fun {q} z => by
          generalize tk tx L q = y at z
          refine ⟨by omega, by omega, by omega, ?_⟩
          have cs : y = 97 ∨ y = 98 ∨ y = 99 ∨ y = 100 ∨ y = 101 ∨ y = 102 ∨ y = 103 ∨ y = 104 := by omega
          rcases cs with rfl | rfl | rfl | rfl | rfl | rfl | rfl | rfl <;> rfl
        have h : (if c = 120 then _ else if isS c = true then _ else if isB c = true then _ else _) = (.inr (S', r) : RS) := h
        split at h
        · rename_i h120
          rw [if_pos h120] at ka
          split at h
          · cases h
          · rename_i hdg
            split at h
            · cases h
            · exact fin h ((ka.det (st := S.2.1) (v := _)).tok rfl (by show tk tx L (lk tx L (ps_add S c (lk tx L S.1)).1) ≠ 256; omega) (by show tk tx L (lk tx L (ps_add S c (lk tx L S.1)).1) ≠ 32; omega) (fun z => by cases z))
        · rename_i h120
          rw [if_neg h120] at ka
          have r0 : (ps_add S c (lk tx L S.1)).2.2.2 0 S.2.1 = c := if_pos rfl
          have nF : isB c = true → isF c = false := fun z => by
            rcases cs with rfl | rfl | rfl | rfl | rfl | rfl | rfl | rfl | rfl | rfl | rfl <;> first | rfl | cases z
          split at h
          · split at h
            · cases h
            · rename_i hdg
              obtain ⟨l1, l2, l3, l4⟩ := let_ hdg
              have kd := (ka.det (st := S.2.1) (v := tk tx L (lk tx L (ps_add S c (lk tx L S.1)).1) - 97)).tok rfl l1 l2 (fun _ => ⟨l3, l4⟩)
              split at h
              · rename_i hB
                exact blk_pk hb hm (by show S.2.1 < S.2.1 + 1; omega) (by show isF ((ps_det (ps_add S c (lk tx L S.1)) S.2.1 _).2.2.2 0 S.2.1) = false; rw [det_o _ _ _ _ _ (by decide), r0]; exact nF hB) h kd
              · exact fin h kd
          · split at h
            · rename_i hB
              exact blk_pk hb hm (by show S.2.1 < S.2.1 + 1; omega) (by rw [r0]; exact nF hB) h ka
            · exact fin h ka
theorem lop_pk {sg : Nat} (hsg : sg = 59 ∨ sg = 124) {nx : Nat → Nat → PS → RS} (hn : PKM tx L nx) (hm : FRM nx) {tr lc : Nat} {S' : PS} {r : Nat} : ∀ (g : Nat) (S : PS) (l : Nat), PK tx L 0 S → p_lop tx L sg nx tr lc g S l = .inr (S', r) → PK tx L 0 S'
  | 0, S, l, hP, h => by
    have e1 : S = S' := congrArg Prod.fst (Sum.inr.inj h)
    subst e1
    exact hP
  | g + 1, S, l, hP, h => by
    rw [lop_s] at h
    split at h
    · rename_i hc
      match hp : p_beg S sg lc (lk tx L S.1), h with
      | .inl k, h => cases h
      | .inr S1, h =>
        obtain ⟨rfl, -⟩ := beg_inr hp
        have h : (match nx tr lc (ps_add S sg (lk tx L S.1)) with | .inl e => .inl e | .inr (S2, r) => p_lop tx L sg nx tr lc g (ps_ops S2 S.2.1 (l + 1) (r + 1)) S.2.1) = (.inr (S', r) : RS) := h
        match hx : nx tr lc (ps_add S sg (lk tx L S.1)), h with
        | .inl k, h => cases h
        | .inr (S2, r2), h =>
          have h : p_lop tx L sg nx tr lc g (ps_ops S2 S.2.1 (l + 1) (r2 + 1)) S.2.1 = (.inr (S', r) : RS) := h
          have ka := hP.add hc (by omega) (by omega) (by rcases hsg with rfl | rfl <;> rfl)
          rw [if_neg (by omega)] at ka
          have h2 := hm _ _ _ _ _ hx
          have k2 := hn _ _ _ _ _ hx ka
          have r0 : (ps_add S sg (lk tx L S.1)).2.2.2 0 S.2.1 = sg := if_pos rfl
          refine lop_pk hsg hn hm g _ _ (k2.ops ?_) h
          rw [h2.2.2 0 S.2.1 (by show S.2.1 < S.2.1 + 1; omega), r0]
          rcases hsg with rfl | rfl <;> rfl
    · have e1 : ps_at S (lk tx L S.1) = S' := congrArg Prod.fst (Sum.inr.inj h)
      subst e1
      exact hP.at
theorem row_pk {sg : Nat} (hsg : sg = 59 ∨ sg = 124) {nx : Nat → Nat → PS → RS} (hn : PKM tx L nx) (hm : FRM nx) : PKM tx L (p_row tx L sg nx) := by
  intro tr lc S S' r h hS
  unfold p_row at h
  match hx : nx tr lc S, h with
  | .inl k, h => cases h
  | .inr (S1, l), h =>
    exact lop_pk hsg hn hm 120 S1 l (hn _ _ _ _ _ hx hS) h
theorem lv_pk : ∀ m, PKM tx L (p_lv tx L m)
  | 0 => row_pk (Or.inr rfl) (row_pk (Or.inl rfl) (part_pk (fun f h => by cases h) (fun f h => by cases h)) (part_pf (fun f h => by cases h))) (row_pf (part_pf (fun f h => by cases h)))
  | m + 1 => row_pk (Or.inr rfl) (row_pk (Or.inl rfl) (part_pk (fun f h => by cases h; exact lv_pk m) (fun f h => by cases h; exact lv_pf m)) (part_pf (fun f h => by cases h; exact lv_pf m))) (row_pf (part_pf (fun f h => by cases h; exact lv_pf m)))
theorem rt_pk {S : PS} {r : Nat} (h : p_rt tx L = .inr (S, r)) : PK tx L 0 S := by
  unfold p_rt at h
  match hx : p_lv tx L 12 0 0 (0, 0, 0, fun _ _ => 0), h with
  | .inl e, h => cases h
  | .inr (S1, r1), h =>
    have h : (if tk tx L (lk tx L S1.1) = 256 then .inr (S1, r1) else .inl (1, lk tx L S1.1)) = (.inr (S, r) : RS) := h
    split at h
    · have e1 : S1 = S := congrArg Prod.fst (Sum.inr.inj h)
      subst e1
      exact lv_pk 12 _ _ _ _ _ hx ⟨Nat.zero_le _, rfl, fun k hk => absurd hk (Nat.not_lt_zero _)⟩
    · cases h
end Places
/-- the count of letters never falls -/
theorem stf_mono {tx : Nat → Nat} {a : Nat} : ∀ m, (stf tx a).2 ≤ (stf tx (a + m)).2
  | 0 => Nat.le_refl _
  | m + 1 => by
    refine Nat.le_trans (stf_mono m) ?_
    show (stf tx (a + m)).2 ≤ (stp (tx (a + m)) (stf tx (a + m))).2
    unfold stp
    split
    · exact Nat.le_refl _
    · show _ ≤ (if _ then _ else _)
      split
      · exact Nat.le_succ _
      · exact Nat.le_refl _

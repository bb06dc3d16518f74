/-! the parts that hold blocks -/
set_option maxRecDepth 10000 in
set_option maxHeartbeats 2000000 in
theorem pt_42 {L lev tr lc e d : Nat} {tx O : Nat → Nat} {blk : Option (Nat → Nat → PS → RS)} {S : PS} {σ : am_M} {Q : am_Q} (hd : 12 ≤ d) (hB : RB σ L tx S.1 S.2.1 S.2.2.1 e lev tr lc O) (htr : tr ≤ lev) (h22 : σ.1 0 22 = nI 0) (hf : FA Q σ (p_part tx L blk tr lc S)) (hk : ∀ S' r σ1 g pos, p_part tx L blk tr lc S = .inr (S', r) → SU σ σ1 L tx S S' r e lev tr lc O pos g → (∀ c, 20 ≤ c → c ≤ 26 → σ1.1 c lev = σ.1 c lev) → CT d Q L tx (lk tx L S'.1) lev r σ1) (hK : BLK L tx lev blk) (hc : tk tx L (lk tx L S.1) = 42) : HG d Q σ := by
  obtain ⟨⟨t1, t2, t3⟩, a1, a2, a3, a4, a5, a6, a7, a8, a9, a10, a11, a12, a13, a14⟩ := id hB
  have hql := (lk_le (tx := tx) a1).2
  have hqL : lk tx L S.1 < L := (tkm hB.tx (lk tx L S.1)).2.1 (by omega)
  have e22 : (am_wr σ 0 21 (nI (lk tx L S.1))).1 0 22 = nI 0 := by rw [am_diff _ _ _ _ _ (by decide)]; exact h22
  have r1 : RF σ (am_wr σ 0 21 (nI (lk tx L S.1))) S.2.1 e lev lc := RF.wr _ (by omega)
  refine hg_step hd hB.tx a1 a2 (fun _ => ?_) (fun z => by omega)
  rw [hc]
  refine tok_0 (by omega) e22 (fun d' hd' => am_C_to (Q := TPk d Q (lk tx L S.1)) ?_ (fun _ _ z => z.x))
  refine rp_42 (by omega) (hB.at hql) (fun h60 => ?_) (fun h60 σ' hB' hF' hN h0 h20 => ?_)
  · exact TPk.flt (am_same _ _ _ _) (by decide) (hf 3 (lk tx L S.1) _ (pp_full hc (by decide) (by decide) (if_pos (Or.inl h60))) r1.z (am_same _ _ _ _))
  have hb : p_beg S 42 lc (lk tx L S.1) = .inr (ps_add S 42 (lk tx L S.1)) := by
    unfold p_beg
    rw [if_neg (fun z => h60 (z.resolve_right (fun q => absurd q.1 (by decide)))), if_neg (by omega)]
  have hpp := pp_42 (blk := blk) (tr := tr) hc hb
  obtain ⟨n5, n6, n7, n8, n15, n10, n11, n12⟩ := hN
  have hBs := ((hB'.wr (nI S.2.1) (c := 0) (k := 23) (by omega)).wr (nI 2) (c := 0) (k := 22) (by omega)).at (q := lk tx L S.1 + 1) (by omega)
  have r2 := (((r1.tr hF' (Nat.le_refl _) (Nat.le_refl _) (Nat.le_refl _) (Nat.le_refl _)).tr (RF.wr (c := 0) (k := 23) (nI S.2.1) (by omega)) (Nat.le_refl _) (Nat.le_refl _) (Nat.le_refl _) (Nat.le_refl _)).tr (RF.wr (c := 0) (k := 22) (nI 2) (by omega)) (Nat.le_refl _) (Nat.le_refl _) (Nat.le_refl _) (Nat.le_refl _)).tr (RF.wr (c := 0) (k := 21) (nI (lk tx L S.1 + 1)) (by omega)) (Nat.le_refl _) (Nat.le_refl _) (Nat.le_refl _) (Nat.le_refl _)
  refine TPk.ok (by rw [am_diff _ _ _ _ _ (by decide), am_diff _ _ _ _ _ (by decide), h0, am_same]) ?_
  rw [hpp] at hf
  exact bk_42 (S := S) (Ss := (ps_add S 42 (lk tx L S.1))) (dv := 0) hd hK rfl hBs a8 htr (by rw [am_diff _ _ _ _ _ (by decide), am_same]) ⟨⟨by rw [am_diff _ _ _ _ _ (by decide), am_diff _ _ _ _ _ (by decide), am_same], by rw [am_wr_ne _ (by omega), am_wr_ne _ (by omega), am_wr_ne _ (by omega)]; exact n5, by rw [am_wr_ne _ (by omega), am_wr_ne _ (by omega), am_wr_ne _ (by omega)]; exact n6, by rw [am_wr_ne _ (by omega), am_wr_ne _ (by omega), am_wr_ne _ (by omega)]; exact n8, by rw [am_wr_ne _ (by omega), am_wr_ne _ (by omega), am_wr_ne _ (by omega)]; exact n10, fun y hy => by rw [am_wr_ne _ (by omega), am_wr_ne _ (by omega), am_wr_ne _ (by omega)]; exact n11 y hy, by rw [am_wr_ne _ (by omega), am_wr_ne _ (by omega), am_wr_ne _ (by omega)]; exact n12, by rw [am_wr_ne _ (by omega), am_wr_ne _ (by omega), am_wr_ne _ (by omega)]; exact n15⟩, if_pos rfl, if_pos rfl, by decide, fun z => absurd z (by unfold tSig; omega)⟩ r2 (fun c c1 c2 => by rw [am_wr_ne _ (by omega), am_wr_ne _ (by omega), am_wr_ne _ (by omega), h20 c c1 (by omega), am_wr_ne _ (by omega)]) hf (fun S' σ1 g pos hx hU hl => hk S' S.2.1 σ1 g pos (hpp.trans hx) hU hl)
set_option maxRecDepth 10000 in
set_option maxHeartbeats 2000000 in
theorem pt_94 {L lev tr lc e d : Nat} {tx O : Nat → Nat} {blk : Option (Nat → Nat → PS → RS)} {S : PS} {σ : am_M} {Q : am_Q} (hd : 12 ≤ d) (hB : RB σ L tx S.1 S.2.1 S.2.2.1 e lev tr lc O) (htr : tr ≤ lev) (h22 : σ.1 0 22 = nI 0) (hf : FA Q σ (p_part tx L blk tr lc S)) (hk : ∀ S' r σ1 g pos, p_part tx L blk tr lc S = .inr (S', r) → SU σ σ1 L tx S S' r e lev tr lc O pos g → (∀ c, 20 ≤ c → c ≤ 26 → σ1.1 c lev = σ.1 c lev) → CT d Q L tx (lk tx L S'.1) lev r σ1) (hK : BLK L tx lev blk) (hc : tk tx L (lk tx L S.1) = 94) : HG d Q σ := by
  obtain ⟨⟨t1, t2, t3⟩, a1, a2, a3, a4, a5, a6, a7, a8, a9, a10, a11, a12, a13, a14⟩ := id hB
  have hql := (lk_le (tx := tx) a1).2
  have hqL : lk tx L S.1 < L := (tkm hB.tx (lk tx L S.1)).2.1 (by omega)
  have e22 : (am_wr σ 0 21 (nI (lk tx L S.1))).1 0 22 = nI 0 := by rw [am_diff _ _ _ _ _ (by decide)]; exact h22
  have r1 : RF σ (am_wr σ 0 21 (nI (lk tx L S.1))) S.2.1 e lev lc := RF.wr _ (by omega)
  refine hg_step hd hB.tx a1 a2 (fun _ => ?_) (fun z => by omega)
  rw [hc]
  refine tok_0 (by omega) e22 (fun d' hd' => am_C_to (Q := TPk d Q (lk tx L S.1)) ?_ (fun _ _ z => z.x))
  refine rp_94 (by omega) (hB.at hql) (fun h60 => ?_) (fun h60 σ' hB' hF' hN h0 h20 => ?_)
  · exact TPk.flt (am_same _ _ _ _) (by decide) (hf 3 (lk tx L S.1) _ (pp_full hc (by decide) (by decide) (if_pos (Or.inl h60))) r1.z (am_same _ _ _ _))
  have hb : p_beg S 94 lc (lk tx L S.1) = .inr (ps_add S 94 (lk tx L S.1)) := by
    unfold p_beg
    rw [if_neg (fun z => h60 (z.resolve_right (fun q => absurd q.1 (by decide)))), if_neg (by omega)]
  have hpp := pp_94 (blk := blk) (tr := tr) hc hb
  obtain ⟨n5, n6, n7, n8, n15, n10, n11, n12⟩ := hN
  have hBs := ((hB'.wr (nI S.2.1) (c := 0) (k := 23) (by omega)).wr (nI 2) (c := 0) (k := 22) (by omega)).at (q := lk tx L S.1 + 1) (by omega)
  have r2 := (((r1.tr hF' (Nat.le_refl _) (Nat.le_refl _) (Nat.le_refl _) (Nat.le_refl _)).tr (RF.wr (c := 0) (k := 23) (nI S.2.1) (by omega)) (Nat.le_refl _) (Nat.le_refl _) (Nat.le_refl _) (Nat.le_refl _)).tr (RF.wr (c := 0) (k := 22) (nI 2) (by omega)) (Nat.le_refl _) (Nat.le_refl _) (Nat.le_refl _) (Nat.le_refl _)).tr (RF.wr (c := 0) (k := 21) (nI (lk tx L S.1 + 1)) (by omega)) (Nat.le_refl _) (Nat.le_refl _) (Nat.le_refl _) (Nat.le_refl _)
  refine TPk.ok (by rw [am_diff _ _ _ _ _ (by decide), am_diff _ _ _ _ _ (by decide), h0, am_same]) ?_
  rw [hpp] at hf
  exact bk_94 (S := S) (Ss := (ps_add S 94 (lk tx L S.1))) (dv := 0) hd hK rfl hBs a8 htr (by rw [am_diff _ _ _ _ _ (by decide), am_same]) ⟨⟨by rw [am_diff _ _ _ _ _ (by decide), am_diff _ _ _ _ _ (by decide), am_same], by rw [am_wr_ne _ (by omega), am_wr_ne _ (by omega), am_wr_ne _ (by omega)]; exact n5, by rw [am_wr_ne _ (by omega), am_wr_ne _ (by omega), am_wr_ne _ (by omega)]; exact n6, by rw [am_wr_ne _ (by omega), am_wr_ne _ (by omega), am_wr_ne _ (by omega)]; exact n8, by rw [am_wr_ne _ (by omega), am_wr_ne _ (by omega), am_wr_ne _ (by omega)]; exact n10, fun y hy => by rw [am_wr_ne _ (by omega), am_wr_ne _ (by omega), am_wr_ne _ (by omega)]; exact n11 y hy, by rw [am_wr_ne _ (by omega), am_wr_ne _ (by omega), am_wr_ne _ (by omega)]; exact n12, by rw [am_wr_ne _ (by omega), am_wr_ne _ (by omega), am_wr_ne _ (by omega)]; exact n15⟩, if_pos rfl, if_pos rfl, by decide, fun z => absurd z (by unfold tSig; omega)⟩ r2 (fun c c1 c2 => by rw [am_wr_ne _ (by omega), am_wr_ne _ (by omega), am_wr_ne _ (by omega), h20 c c1 (by omega), am_wr_ne _ (by omega)]) hf (fun S' σ1 g pos hx hU hl => hk S' S.2.1 σ1 g pos (hpp.trans hx) hU hl)
set_option maxRecDepth 10000 in
set_option maxHeartbeats 2000000 in
theorem pt_63 {L lev tr lc e d : Nat} {tx O : Nat → Nat} {blk : Option (Nat → Nat → PS → RS)} {S : PS} {σ : am_M} {Q : am_Q} (hd : 12 ≤ d) (hB : RB σ L tx S.1 S.2.1 S.2.2.1 e lev tr lc O) (htr : tr ≤ lev) (h22 : σ.1 0 22 = nI 0) (hf : FA Q σ (p_part tx L blk tr lc S)) (hk : ∀ S' r σ1 g pos, p_part tx L blk tr lc S = .inr (S', r) → SU σ σ1 L tx S S' r e lev tr lc O pos g → (∀ c, 20 ≤ c → c ≤ 26 → σ1.1 c lev = σ.1 c lev) → CT d Q L tx (lk tx L S'.1) lev r σ1) (hK : BLK L tx lev blk) (hc : tk tx L (lk tx L S.1) = 63) : HG d Q σ := by
  obtain ⟨⟨t1, t2, t3⟩, a1, a2, a3, a4, a5, a6, a7, a8, a9, a10, a11, a12, a13, a14⟩ := id hB
  have hql := (lk_le (tx := tx) a1).2
  have hqL : lk tx L S.1 < L := (tkm hB.tx (lk tx L S.1)).2.1 (by omega)
  have e22 : (am_wr σ 0 21 (nI (lk tx L S.1))).1 0 22 = nI 0 := by rw [am_diff _ _ _ _ _ (by decide)]; exact h22
  have r1 : RF σ (am_wr σ 0 21 (nI (lk tx L S.1))) S.2.1 e lev lc := RF.wr _ (by omega)
  refine hg_step hd hB.tx a1 a2 (fun _ => ?_) (fun z => by omega)
  rw [hc]
  refine tok_0 (by omega) e22 (fun d' hd' => am_C_to (Q := TPk d Q (lk tx L S.1)) ?_ (fun _ _ z => z.x))
  refine rp_63 (by omega) (hB.at hql) (fun h60 => ?_) (fun h60 σ' hB' hF' hN h0 h20 => ?_)
  · exact TPk.flt (am_same _ _ _ _) (by decide) (hf 3 (lk tx L S.1) _ (pp_full hc (by decide) (by decide) (if_pos (Or.inl h60))) r1.z (am_same _ _ _ _))
  have hb : p_beg S 63 lc (lk tx L S.1) = .inr (ps_add S 63 (lk tx L S.1)) := by
    unfold p_beg
    rw [if_neg (fun z => h60 (z.resolve_right (fun q => absurd q.1 (by decide)))), if_neg (by omega)]
  have hpp := pp_63 (blk := blk) (tr := tr) hc hb
  obtain ⟨n5, n6, n7, n8, n15, n10, n11, n12⟩ := hN
  have hBs := ((hB'.wr (nI S.2.1) (c := 0) (k := 23) (by omega)).wr (nI 1) (c := 0) (k := 22) (by omega)).at (q := lk tx L S.1 + 1) (by omega)
  have r2 := (((r1.tr hF' (Nat.le_refl _) (Nat.le_refl _) (Nat.le_refl _) (Nat.le_refl _)).tr (RF.wr (c := 0) (k := 23) (nI S.2.1) (by omega)) (Nat.le_refl _) (Nat.le_refl _) (Nat.le_refl _) (Nat.le_refl _)).tr (RF.wr (c := 0) (k := 22) (nI 1) (by omega)) (Nat.le_refl _) (Nat.le_refl _) (Nat.le_refl _) (Nat.le_refl _)).tr (RF.wr (c := 0) (k := 21) (nI (lk tx L S.1 + 1)) (by omega)) (Nat.le_refl _) (Nat.le_refl _) (Nat.le_refl _) (Nat.le_refl _)
  refine TPk.ok (by rw [am_diff _ _ _ _ _ (by decide), am_diff _ _ _ _ _ (by decide), h0, am_same]) ?_
  rw [show (ps_add S 63 (lk tx L S.1)).1 = lk tx L S.1 + 1 from rfl] at hpp
  rw [hpp] at hf
  have hq2 := (lk_le (tx := tx) (q := lk tx L S.1 + 1) (L := L) (by omega)).2
  have r3 := r2.tr (RF.wr (c := 0) (k := 21) (nI (lk tx L (lk tx L S.1 + 1))) (by omega)) (Nat.le_refl _) (Nat.le_refl _) (Nat.le_refl _) (Nat.le_refl _)
  have k2 := tkm hBs.tx (lk tx L (lk tx L S.1 + 1))
  refine hg_step hd hBs.tx (by omega) (am_same _ _ _ _) (fun hc2 => ?_) (fun hc2 => ?_)
  · have f22 : (am_wr (am_wr (am_wr (am_wr σ' 0 23 (nI S.2.1)) 0 22 (nI 1)) 0 21 (nI (lk tx L S.1 + 1))) 0 21 (nI (lk tx L (lk tx L S.1 + 1)))).1 0 22 = nI 1 := by rw [am_diff _ _ _ _ _ (by decide), am_diff _ _ _ _ _ (by decide), am_same]
    refine tok_1 (by omega) f22 (fun d' hd' => am_C_to (Q := TPk d Q (lk tx L (lk tx L S.1 + 1))) ?_ (fun _ _ z => z.x))
    by_cases hbad : tk tx L (lk tx L (lk tx L S.1 + 1)) < 97 ∨ 104 < tk tx L (lk tx L (lk tx L S.1 + 1))
    · rw [if_pos hbad] at hf
      exact rs_bad (by omega) hc2 hbad (TPk.flt (am_same _ _ _ _) (by decide) (hf 1 _ _ rfl r3.z (am_same _ _ _ _)))
    rw [if_neg hbad] at hf hpp
    have f23 : (am_wr (am_wr (am_wr (am_wr σ' 0 23 (nI S.2.1)) 0 22 (nI 1)) 0 21 (nI (lk tx L S.1 + 1))) 0 21 (nI (lk tx L (lk tx L S.1 + 1)))).1 0 23 = nI S.2.1 := by rw [am_diff _ _ _ _ _ (by decide), am_diff _ _ _ _ _ (by decide), am_diff _ _ _ _ _ (by decide), am_same]
    have f35 : (am_wr (am_wr (am_wr (am_wr σ' 0 23 (nI S.2.1)) 0 22 (nI 1)) 0 21 (nI (lk tx L S.1 + 1))) 0 21 (nI (lk tx L (lk tx L S.1 + 1)))).1 0 35 = nI e := (hBs.at hq2).2.2.2.2.2.2.2.1
    have hqL2 := k2.2.1 hc2
    have hBJ := (((hBs.at hq2).wr (nI (tk tx L (lk tx L (lk tx L S.1 + 1)) - 97)) (c := 6) (k := 120 + S.2.1) (by omega)).wr (nI 2) (c := 0) (k := 22) (by omega)).at (q := (lk tx L (lk tx L S.1 + 1)) + 1) (by omega)
    refine rs_63 (by omega) (by omega) f23 (by omega) f35 (by omega) (by rw [am_wr_ne _ (by omega), am_wr_ne _ (by omega), am_wr_ne _ (by omega), am_wr_ne _ (by omega)]; exact n5) ?_
    refine TPk.ok (by rw [am_diff _ _ _ _ _ (by decide), am_wr_ne _ (by omega), am_same]) ?_
    exact bk_63 (S := S) (Ss := (ps_at (ps_det (ps_add S 63 (lk tx L S.1)) S.2.1 (tk tx L (lk tx L (lk tx L S.1 + 1)) - 97)) ((lk tx L (lk tx L S.1 + 1)) + 1))) (dv := (tk tx L (lk tx L (lk tx L S.1 + 1)) - 97) + 1) hd hK rfl hBJ a8 htr (by rw [am_diff _ _ _ _ _ (by decide), am_same]) ⟨⟨by rw [am_diff _ _ _ _ _ (by decide), am_diff _ _ _ _ _ (by decide), am_wr_ne _ (by omega)]; exact f23, by rw [am_wr_ne _ (by omega), am_wr_ne _ (by omega), am_wr_ne _ (by omega), am_wr_ne _ (by omega), am_wr_ne _ (by omega), am_wr_ne _ (by omega), am_wr_ne _ (by omega)]; exact n5, by rw [oI_s, am_wr_ne _ (by omega), am_wr_ne _ (by omega), am_same], by rw [am_wr_ne _ (by omega), am_wr_ne _ (by omega), am_wr_ne _ (by omega), am_wr_ne _ (by omega), am_wr_ne _ (by omega), am_wr_ne _ (by omega), am_wr_ne _ (by omega)]; exact n8, by rw [am_wr_ne _ (by omega), am_wr_ne _ (by omega), am_wr_ne _ (by omega), am_wr_ne _ (by omega), am_wr_ne _ (by omega), am_wr_ne _ (by omega), am_wr_ne _ (by omega)]; exact n10, fun y hy => by rw [am_wr_ne _ (by omega), am_wr_ne _ (by omega), am_wr_ne _ (by omega), am_wr_ne _ (by omega), am_wr_ne _ (by omega), am_wr_ne _ (by omega), am_wr_ne _ (by omega)]; exact n11 y hy, by rw [am_wr_ne _ (by omega), am_wr_ne _ (by omega), am_wr_ne _ (by omega), am_wr_ne _ (by omega), am_wr_ne _ (by omega), am_wr_ne _ (by omega), am_wr_ne _ (by omega)]; exact n12, by rw [am_wr_ne _ (by omega), am_wr_ne _ (by omega), am_wr_ne _ (by omega), am_wr_ne _ (by omega), am_wr_ne _ (by omega), am_wr_ne _ (by omega), am_wr_ne _ (by omega)]; exact n15⟩, (if_neg (fun z => absurd z.2 (by decide))).trans (if_pos rfl), if_pos ⟨rfl, rfl⟩, by omega, fun _ => by omega⟩ (((r3.tr (RF.wr _ (by omega)) (Nat.le_refl _) (Nat.le_refl _) (Nat.le_refl _) (Nat.le_refl _)).tr (RF.wr _ (by omega)) (Nat.le_refl _) (Nat.le_refl _) (Nat.le_refl _) (Nat.le_refl _)).tr (RF.wr _ (by omega)) (Nat.le_refl _) (Nat.le_refl _) (Nat.le_refl _) (Nat.le_refl _)) (fun c c1 c2 => by rw [am_wr_ne _ (by omega), am_wr_ne _ (by omega), am_wr_ne _ (by omega), am_wr_ne _ (by omega), am_wr_ne _ (by omega), am_wr_ne _ (by omega), am_wr_ne _ (by omega), h20 c c1 (by omega), am_wr_ne _ (by omega)]) hf (fun S' σ1 g pos hx hU hl => hk S' S.2.1 σ1 g pos (hpp.trans hx) hU hl)
  · rw [if_pos (Or.inr (by omega))] at hf
    exact en_1 (by omega) (by rw [am_diff _ _ _ _ _ (by decide), am_diff _ _ _ _ _ (by decide), am_same]) (hf 1 _ _ rfl r3.z (am_same _ _ _ _))
set_option maxRecDepth 10000 in
set_option maxHeartbeats 2000000 in
theorem pt_64 {L lev tr lc e d : Nat} {tx O : Nat → Nat} {blk : Option (Nat → Nat → PS → RS)} {S : PS} {σ : am_M} {Q : am_Q} (hd : 12 ≤ d) (hB : RB σ L tx S.1 S.2.1 S.2.2.1 e lev tr lc O) (htr : tr ≤ lev) (h22 : σ.1 0 22 = nI 0) (hf : FA Q σ (p_part tx L blk tr lc S)) (hk : ∀ S' r σ1 g pos, p_part tx L blk tr lc S = .inr (S', r) → SU σ σ1 L tx S S' r e lev tr lc O pos g → (∀ c, 20 ≤ c → c ≤ 26 → σ1.1 c lev = σ.1 c lev) → CT d Q L tx (lk tx L S'.1) lev r σ1) (hK : BLK L tx lev blk) (hc : tk tx L (lk tx L S.1) = 64) : HG d Q σ := by
  obtain ⟨⟨t1, t2, t3⟩, a1, a2, a3, a4, a5, a6, a7, a8, a9, a10, a11, a12, a13, a14⟩ := id hB
  have hql := (lk_le (tx := tx) a1).2
  have hqL : lk tx L S.1 < L := (tkm hB.tx (lk tx L S.1)).2.1 (by omega)
  have e22 : (am_wr σ 0 21 (nI (lk tx L S.1))).1 0 22 = nI 0 := by rw [am_diff _ _ _ _ _ (by decide)]; exact h22
  have r1 : RF σ (am_wr σ 0 21 (nI (lk tx L S.1))) S.2.1 e lev lc := RF.wr _ (by omega)
  refine hg_step hd hB.tx a1 a2 (fun _ => ?_) (fun z => by omega)
  rw [hc]
  refine tok_0 (by omega) e22 (fun d' hd' => am_C_to (Q := TPk d Q (lk tx L S.1)) ?_ (fun _ _ z => z.x))
  refine rp_64 (by omega) (hB.at hql) (fun h60 => ?_) (fun h60 σ' hB' hF' hN h0 h20 => ?_)
  · exact TPk.flt (am_same _ _ _ _) (by decide) (hf 3 (lk tx L S.1) _ (pp_full hc (by decide) (by decide) (if_pos (Or.inl h60))) r1.z (am_same _ _ _ _))
  have hb : p_beg S 64 lc (lk tx L S.1) = .inr (ps_add S 64 (lk tx L S.1)) := by
    unfold p_beg
    rw [if_neg (fun z => h60 (z.resolve_right (fun q => absurd q.1 (by decide)))), if_neg (by omega)]
  have hpp := pp_64 (blk := blk) (tr := tr) hc hb
  obtain ⟨n5, n6, n7, n8, n15, n10, n11, n12⟩ := hN
  have hBs := ((hB'.wr (nI S.2.1) (c := 0) (k := 23) (by omega)).wr (nI 1) (c := 0) (k := 22) (by omega)).at (q := lk tx L S.1 + 1) (by omega)
  have r2 := (((r1.tr hF' (Nat.le_refl _) (Nat.le_refl _) (Nat.le_refl _) (Nat.le_refl _)).tr (RF.wr (c := 0) (k := 23) (nI S.2.1) (by omega)) (Nat.le_refl _) (Nat.le_refl _) (Nat.le_refl _) (Nat.le_refl _)).tr (RF.wr (c := 0) (k := 22) (nI 1) (by omega)) (Nat.le_refl _) (Nat.le_refl _) (Nat.le_refl _) (Nat.le_refl _)).tr (RF.wr (c := 0) (k := 21) (nI (lk tx L S.1 + 1)) (by omega)) (Nat.le_refl _) (Nat.le_refl _) (Nat.le_refl _) (Nat.le_refl _)
  refine TPk.ok (by rw [am_diff _ _ _ _ _ (by decide), am_diff _ _ _ _ _ (by decide), h0, am_same]) ?_
  rw [show (ps_add S 64 (lk tx L S.1)).1 = lk tx L S.1 + 1 from rfl] at hpp
  rw [hpp] at hf
  have hq2 := (lk_le (tx := tx) (q := lk tx L S.1 + 1) (L := L) (by omega)).2
  have r3 := r2.tr (RF.wr (c := 0) (k := 21) (nI (lk tx L (lk tx L S.1 + 1))) (by omega)) (Nat.le_refl _) (Nat.le_refl _) (Nat.le_refl _) (Nat.le_refl _)
  have k2 := tkm hBs.tx (lk tx L (lk tx L S.1 + 1))
  refine hg_step hd hBs.tx (by omega) (am_same _ _ _ _) (fun hc2 => ?_) (fun hc2 => ?_)
  · have f22 : (am_wr (am_wr (am_wr (am_wr σ' 0 23 (nI S.2.1)) 0 22 (nI 1)) 0 21 (nI (lk tx L S.1 + 1))) 0 21 (nI (lk tx L (lk tx L S.1 + 1)))).1 0 22 = nI 1 := by rw [am_diff _ _ _ _ _ (by decide), am_diff _ _ _ _ _ (by decide), am_same]
    refine tok_1 (by omega) f22 (fun d' hd' => am_C_to (Q := TPk d Q (lk tx L (lk tx L S.1 + 1))) ?_ (fun _ _ z => z.x))
    by_cases hbad : tk tx L (lk tx L (lk tx L S.1 + 1)) < 97 ∨ 104 < tk tx L (lk tx L (lk tx L S.1 + 1))
    · rw [if_pos hbad] at hf
      exact rs_bad (by omega) hc2 hbad (TPk.flt (am_same _ _ _ _) (by decide) (hf 1 _ _ rfl r3.z (am_same _ _ _ _)))
    rw [if_neg hbad] at hf hpp
    have f23 : (am_wr (am_wr (am_wr (am_wr σ' 0 23 (nI S.2.1)) 0 22 (nI 1)) 0 21 (nI (lk tx L S.1 + 1))) 0 21 (nI (lk tx L (lk tx L S.1 + 1)))).1 0 23 = nI S.2.1 := by rw [am_diff _ _ _ _ _ (by decide), am_diff _ _ _ _ _ (by decide), am_diff _ _ _ _ _ (by decide), am_same]
    have f35 : (am_wr (am_wr (am_wr (am_wr σ' 0 23 (nI S.2.1)) 0 22 (nI 1)) 0 21 (nI (lk tx L S.1 + 1))) 0 21 (nI (lk tx L (lk tx L S.1 + 1)))).1 0 35 = nI e := (hBs.at hq2).2.2.2.2.2.2.2.1
    have hqL2 := k2.2.1 hc2
    have hBJ := (((hBs.at hq2).wr (nI (tk tx L (lk tx L (lk tx L S.1 + 1)) - 97)) (c := 6) (k := 120 + S.2.1) (by omega)).wr (nI 2) (c := 0) (k := 22) (by omega)).at (q := (lk tx L (lk tx L S.1 + 1)) + 1) (by omega)
    refine rs_64 (by omega) (by omega) f23 (by omega) f35 (by omega) (by rw [am_wr_ne _ (by omega), am_wr_ne _ (by omega), am_wr_ne _ (by omega), am_wr_ne _ (by omega)]; exact n5) ?_
    refine TPk.ok (by rw [am_diff _ _ _ _ _ (by decide), am_wr_ne _ (by omega), am_same]) ?_
    exact bk_64 (S := S) (Ss := (ps_at (ps_det (ps_add S 64 (lk tx L S.1)) S.2.1 (tk tx L (lk tx L (lk tx L S.1 + 1)) - 97)) ((lk tx L (lk tx L S.1 + 1)) + 1))) (dv := (tk tx L (lk tx L (lk tx L S.1 + 1)) - 97) + 1) hd hK rfl hBJ a8 htr (by rw [am_diff _ _ _ _ _ (by decide), am_same]) ⟨⟨by rw [am_diff _ _ _ _ _ (by decide), am_diff _ _ _ _ _ (by decide), am_wr_ne _ (by omega)]; exact f23, by rw [am_wr_ne _ (by omega), am_wr_ne _ (by omega), am_wr_ne _ (by omega), am_wr_ne _ (by omega), am_wr_ne _ (by omega), am_wr_ne _ (by omega), am_wr_ne _ (by omega)]; exact n5, by rw [oI_s, am_wr_ne _ (by omega), am_wr_ne _ (by omega), am_same], by rw [am_wr_ne _ (by omega), am_wr_ne _ (by omega), am_wr_ne _ (by omega), am_wr_ne _ (by omega), am_wr_ne _ (by omega), am_wr_ne _ (by omega), am_wr_ne _ (by omega)]; exact n8, by rw [am_wr_ne _ (by omega), am_wr_ne _ (by omega), am_wr_ne _ (by omega), am_wr_ne _ (by omega), am_wr_ne _ (by omega), am_wr_ne _ (by omega), am_wr_ne _ (by omega)]; exact n10, fun y hy => by rw [am_wr_ne _ (by omega), am_wr_ne _ (by omega), am_wr_ne _ (by omega), am_wr_ne _ (by omega), am_wr_ne _ (by omega), am_wr_ne _ (by omega), am_wr_ne _ (by omega)]; exact n11 y hy, by rw [am_wr_ne _ (by omega), am_wr_ne _ (by omega), am_wr_ne _ (by omega), am_wr_ne _ (by omega), am_wr_ne _ (by omega), am_wr_ne _ (by omega), am_wr_ne _ (by omega)]; exact n12, by rw [am_wr_ne _ (by omega), am_wr_ne _ (by omega), am_wr_ne _ (by omega), am_wr_ne _ (by omega), am_wr_ne _ (by omega), am_wr_ne _ (by omega), am_wr_ne _ (by omega)]; exact n15⟩, (if_neg (fun z => absurd z.2 (by decide))).trans (if_pos rfl), if_pos ⟨rfl, rfl⟩, by omega, fun _ => by omega⟩ (((r3.tr (RF.wr _ (by omega)) (Nat.le_refl _) (Nat.le_refl _) (Nat.le_refl _) (Nat.le_refl _)).tr (RF.wr _ (by omega)) (Nat.le_refl _) (Nat.le_refl _) (Nat.le_refl _) (Nat.le_refl _)).tr (RF.wr _ (by omega)) (Nat.le_refl _) (Nat.le_refl _) (Nat.le_refl _) (Nat.le_refl _)) (fun c c1 c2 => by rw [am_wr_ne _ (by omega), am_wr_ne _ (by omega), am_wr_ne _ (by omega), am_wr_ne _ (by omega), am_wr_ne _ (by omega), am_wr_ne _ (by omega), am_wr_ne _ (by omega), h20 c c1 (by omega), am_wr_ne _ (by omega)]) hf (fun S' σ1 g pos hx hU hl => hk S' S.2.1 σ1 g pos (hpp.trans hx) hU hl)
  · rw [if_pos (Or.inr (by omega))] at hf
    exact en_1 (by omega) (by rw [am_diff _ _ _ _ _ (by decide), am_diff _ _ _ _ _ (by decide), am_same]) (hf 1 _ _ rfl r3.z (am_same _ _ _ _))
set_option maxRecDepth 10000 in
set_option maxHeartbeats 2000000 in
theorem pt_126 {L lev tr lc e d : Nat} {tx O : Nat → Nat} {blk : Option (Nat → Nat → PS → RS)} {S : PS} {σ : am_M} {Q : am_Q} (hd : 12 ≤ d) (hB : RB σ L tx S.1 S.2.1 S.2.2.1 e lev tr lc O) (htr : tr ≤ lev) (h22 : σ.1 0 22 = nI 0) (hf : FA Q σ (p_part tx L blk tr lc S)) (hk : ∀ S' r σ1 g pos, p_part tx L blk tr lc S = .inr (S', r) → SU σ σ1 L tx S S' r e lev tr lc O pos g → (∀ c, 20 ≤ c → c ≤ 26 → σ1.1 c lev = σ.1 c lev) → CT d Q L tx (lk tx L S'.1) lev r σ1) (hK : BLK L tx lev blk) (hc : tk tx L (lk tx L S.1) = 126) : HG d Q σ := by
  obtain ⟨⟨t1, t2, t3⟩, a1, a2, a3, a4, a5, a6, a7, a8, a9, a10, a11, a12, a13, a14⟩ := id hB
  have hql := (lk_le (tx := tx) a1).2
  have hqL : lk tx L S.1 < L := (tkm hB.tx (lk tx L S.1)).2.1 (by omega)
  have e22 : (am_wr σ 0 21 (nI (lk tx L S.1))).1 0 22 = nI 0 := by rw [am_diff _ _ _ _ _ (by decide)]; exact h22
  have r1 : RF σ (am_wr σ 0 21 (nI (lk tx L S.1))) S.2.1 e lev lc := RF.wr _ (by omega)
  refine hg_step hd hB.tx a1 a2 (fun _ => ?_) (fun z => by omega)
  rw [hc]
  refine tok_0 (by omega) e22 (fun d' hd' => am_C_to (Q := TPk d Q (lk tx L S.1)) ?_ (fun _ _ z => z.x))
  refine rp_126 (by omega) (hB.at hql) (fun h60 => ?_) (fun h60 σ' hB' hF' hN h0 h20 => ?_)
  · exact TPk.flt (am_same _ _ _ _) (by decide) (hf 3 (lk tx L S.1) _ (pp_full hc (by decide) (by decide) (if_pos (Or.inl h60))) r1.z (am_same _ _ _ _))
  have hb : p_beg S 126 lc (lk tx L S.1) = .inr (ps_add S 126 (lk tx L S.1)) := by
    unfold p_beg
    rw [if_neg (fun z => h60 (z.resolve_right (fun q => absurd q.1 (by decide)))), if_neg (by omega)]
  have hpp := pp_126 (blk := blk) (tr := tr) hc hb
  obtain ⟨n5, n6, n7, n8, n15, n10, n11, n12⟩ := hN
  have hBs := ((hB'.wr (nI S.2.1) (c := 0) (k := 23) (by omega)).wr (nI 1) (c := 0) (k := 22) (by omega)).at (q := lk tx L S.1 + 1) (by omega)
  have r2 := (((r1.tr hF' (Nat.le_refl _) (Nat.le_refl _) (Nat.le_refl _) (Nat.le_refl _)).tr (RF.wr (c := 0) (k := 23) (nI S.2.1) (by omega)) (Nat.le_refl _) (Nat.le_refl _) (Nat.le_refl _) (Nat.le_refl _)).tr (RF.wr (c := 0) (k := 22) (nI 1) (by omega)) (Nat.le_refl _) (Nat.le_refl _) (Nat.le_refl _) (Nat.le_refl _)).tr (RF.wr (c := 0) (k := 21) (nI (lk tx L S.1 + 1)) (by omega)) (Nat.le_refl _) (Nat.le_refl _) (Nat.le_refl _) (Nat.le_refl _)
  refine TPk.ok (by rw [am_diff _ _ _ _ _ (by decide), am_diff _ _ _ _ _ (by decide), h0, am_same]) ?_
  rw [show (ps_add S 126 (lk tx L S.1)).1 = lk tx L S.1 + 1 from rfl] at hpp
  rw [hpp] at hf
  have hq2 := (lk_le (tx := tx) (q := lk tx L S.1 + 1) (L := L) (by omega)).2
  have r3 := r2.tr (RF.wr (c := 0) (k := 21) (nI (lk tx L (lk tx L S.1 + 1))) (by omega)) (Nat.le_refl _) (Nat.le_refl _) (Nat.le_refl _) (Nat.le_refl _)
  have k2 := tkm hBs.tx (lk tx L (lk tx L S.1 + 1))
  refine hg_step hd hBs.tx (by omega) (am_same _ _ _ _) (fun hc2 => ?_) (fun hc2 => ?_)
  · have f22 : (am_wr (am_wr (am_wr (am_wr σ' 0 23 (nI S.2.1)) 0 22 (nI 1)) 0 21 (nI (lk tx L S.1 + 1))) 0 21 (nI (lk tx L (lk tx L S.1 + 1)))).1 0 22 = nI 1 := by rw [am_diff _ _ _ _ _ (by decide), am_diff _ _ _ _ _ (by decide), am_same]
    refine tok_1 (by omega) f22 (fun d' hd' => am_C_to (Q := TPk d Q (lk tx L (lk tx L S.1 + 1))) ?_ (fun _ _ z => z.x))
    by_cases hbad : tk tx L (lk tx L (lk tx L S.1 + 1)) < 97 ∨ 104 < tk tx L (lk tx L (lk tx L S.1 + 1))
    · rw [if_pos hbad] at hf
      exact rs_bad (by omega) hc2 hbad (TPk.flt (am_same _ _ _ _) (by decide) (hf 1 _ _ rfl r3.z (am_same _ _ _ _)))
    rw [if_neg hbad] at hf hpp
    have f23 : (am_wr (am_wr (am_wr (am_wr σ' 0 23 (nI S.2.1)) 0 22 (nI 1)) 0 21 (nI (lk tx L S.1 + 1))) 0 21 (nI (lk tx L (lk tx L S.1 + 1)))).1 0 23 = nI S.2.1 := by rw [am_diff _ _ _ _ _ (by decide), am_diff _ _ _ _ _ (by decide), am_diff _ _ _ _ _ (by decide), am_same]
    have f35 : (am_wr (am_wr (am_wr (am_wr σ' 0 23 (nI S.2.1)) 0 22 (nI 1)) 0 21 (nI (lk tx L S.1 + 1))) 0 21 (nI (lk tx L (lk tx L S.1 + 1)))).1 0 35 = nI e := (hBs.at hq2).2.2.2.2.2.2.2.1
    have hqL2 := k2.2.1 hc2
    have hBJ := (((hBs.at hq2).wr (nI (tk tx L (lk tx L (lk tx L S.1 + 1)) - 97)) (c := 6) (k := 120 + S.2.1) (by omega)).wr (nI 2) (c := 0) (k := 22) (by omega)).at (q := (lk tx L (lk tx L S.1 + 1)) + 1) (by omega)
    refine rs_126 (by omega) (by omega) f23 (by omega) f35 (by omega) (by rw [am_wr_ne _ (by omega), am_wr_ne _ (by omega), am_wr_ne _ (by omega), am_wr_ne _ (by omega)]; exact n5) ?_
    refine TPk.ok (by rw [am_diff _ _ _ _ _ (by decide), am_wr_ne _ (by omega), am_same]) ?_
    exact bk_126 (S := S) (Ss := (ps_at (ps_det (ps_add S 126 (lk tx L S.1)) S.2.1 (tk tx L (lk tx L (lk tx L S.1 + 1)) - 97)) ((lk tx L (lk tx L S.1 + 1)) + 1))) (dv := (tk tx L (lk tx L (lk tx L S.1 + 1)) - 97) + 1) hd hK rfl hBJ a8 htr (by rw [am_diff _ _ _ _ _ (by decide), am_same]) ⟨⟨by rw [am_diff _ _ _ _ _ (by decide), am_diff _ _ _ _ _ (by decide), am_wr_ne _ (by omega)]; exact f23, by rw [am_wr_ne _ (by omega), am_wr_ne _ (by omega), am_wr_ne _ (by omega), am_wr_ne _ (by omega), am_wr_ne _ (by omega), am_wr_ne _ (by omega), am_wr_ne _ (by omega)]; exact n5, by rw [oI_s, am_wr_ne _ (by omega), am_wr_ne _ (by omega), am_same], by rw [am_wr_ne _ (by omega), am_wr_ne _ (by omega), am_wr_ne _ (by omega), am_wr_ne _ (by omega), am_wr_ne _ (by omega), am_wr_ne _ (by omega), am_wr_ne _ (by omega)]; exact n8, by rw [am_wr_ne _ (by omega), am_wr_ne _ (by omega), am_wr_ne _ (by omega), am_wr_ne _ (by omega), am_wr_ne _ (by omega), am_wr_ne _ (by omega), am_wr_ne _ (by omega)]; exact n10, fun y hy => by rw [am_wr_ne _ (by omega), am_wr_ne _ (by omega), am_wr_ne _ (by omega), am_wr_ne _ (by omega), am_wr_ne _ (by omega), am_wr_ne _ (by omega), am_wr_ne _ (by omega)]; exact n11 y hy, by rw [am_wr_ne _ (by omega), am_wr_ne _ (by omega), am_wr_ne _ (by omega), am_wr_ne _ (by omega), am_wr_ne _ (by omega), am_wr_ne _ (by omega), am_wr_ne _ (by omega)]; exact n12, by rw [am_wr_ne _ (by omega), am_wr_ne _ (by omega), am_wr_ne _ (by omega), am_wr_ne _ (by omega), am_wr_ne _ (by omega), am_wr_ne _ (by omega), am_wr_ne _ (by omega)]; exact n15⟩, (if_neg (fun z => absurd z.2 (by decide))).trans (if_pos rfl), if_pos ⟨rfl, rfl⟩, by omega, fun _ => by omega⟩ (((r3.tr (RF.wr _ (by omega)) (Nat.le_refl _) (Nat.le_refl _) (Nat.le_refl _) (Nat.le_refl _)).tr (RF.wr _ (by omega)) (Nat.le_refl _) (Nat.le_refl _) (Nat.le_refl _) (Nat.le_refl _)).tr (RF.wr _ (by omega)) (Nat.le_refl _) (Nat.le_refl _) (Nat.le_refl _) (Nat.le_refl _)) (fun c c1 c2 => by rw [am_wr_ne _ (by omega), am_wr_ne _ (by omega), am_wr_ne _ (by omega), am_wr_ne _ (by omega), am_wr_ne _ (by omega), am_wr_ne _ (by omega), am_wr_ne _ (by omega), h20 c c1 (by omega), am_wr_ne _ (by omega)]) hf (fun S' σ1 g pos hx hU hl => hk S' S.2.1 σ1 g pos (hpp.trans hx) hU hl)
  · rw [if_pos (Or.inr (by omega))] at hf
    exact en_1 (by omega) (by rw [am_diff _ _ _ _ _ (by decide), am_diff _ _ _ _ _ (by decide), am_same]) (hf 1 _ _ rfl r3.z (am_same _ _ _ _))
set_option maxRecDepth 10000 in
set_option maxHeartbeats 2000000 in
theorem pt_36 {L lev tr lc e d : Nat} {tx O : Nat → Nat} {blk : Option (Nat → Nat → PS → RS)} {S : PS} {σ : am_M} {Q : am_Q} (hd : 12 ≤ d) (hB : RB σ L tx S.1 S.2.1 S.2.2.1 e lev tr lc O) (htr : tr ≤ lev) (h22 : σ.1 0 22 = nI 0) (hf : FA Q σ (p_part tx L blk tr lc S)) (hk : ∀ S' r σ1 g pos, p_part tx L blk tr lc S = .inr (S', r) → SU σ σ1 L tx S S' r e lev tr lc O pos g → (∀ c, 20 ≤ c → c ≤ 26 → σ1.1 c lev = σ.1 c lev) → CT d Q L tx (lk tx L S'.1) lev r σ1) (hK : BLK L tx lev blk) (hc : tk tx L (lk tx L S.1) = 36) : HG d Q σ := by
  obtain ⟨⟨t1, t2, t3⟩, a1, a2, a3, a4, a5, a6, a7, a8, a9, a10, a11, a12, a13, a14⟩ := id hB
  have hql := (lk_le (tx := tx) a1).2
  have hqL : lk tx L S.1 < L := (tkm hB.tx (lk tx L S.1)).2.1 (by omega)
  have e22 : (am_wr σ 0 21 (nI (lk tx L S.1))).1 0 22 = nI 0 := by rw [am_diff _ _ _ _ _ (by decide)]; exact h22
  have r1 : RF σ (am_wr σ 0 21 (nI (lk tx L S.1))) S.2.1 e lev lc := RF.wr _ (by omega)
  refine hg_step hd hB.tx a1 a2 (fun _ => ?_) (fun z => by omega)
  rw [hc]
  refine tok_0 (by omega) e22 (fun d' hd' => am_C_to (Q := TPk d Q (lk tx L S.1)) ?_ (fun _ _ z => z.x))
  refine rp_36 (by omega) (hB.at hql) (fun h60 => ?_) (fun h60 hl3 => ?_) (fun h60 hl3 σ' hB' hF' hN h0 h20 => ?_)
  · exact TPk.flt (am_same _ _ _ _) (by decide) (hf 3 (lk tx L S.1) _ (pp_full hc (by decide) (by decide) (if_pos (Or.inl h60))) r1.z (am_same _ _ _ _))
  · refine TPk.flt (am_same _ _ _ _) (by decide) (hf 4 (lk tx L S.1) _ (pp_full hc (by decide) (by decide) ?_) r1.z (am_same _ _ _ _))
    unfold p_beg
    rw [if_neg (fun z => h60 (z.resolve_right (fun q => absurd q.1 (by decide)))), if_pos ⟨rfl, by omega⟩]
  have hb : p_beg S 36 lc (lk tx L S.1) = .inr (ps_add S 36 (lk tx L S.1)) := by
    unfold p_beg
    rw [if_neg (fun z => h60 (z.resolve_right (fun q => absurd q.1 (by decide)))), if_neg (by omega)]
  have hpp := pp_36 (blk := blk) (tr := tr) hc hb
  obtain ⟨n5, n6, n7, n8, n15, n10, n11, n12⟩ := hN
  have hBs := ((hB'.wr (nI S.2.1) (c := 0) (k := 23) (by omega)).wr (nI 1) (c := 0) (k := 22) (by omega)).at (q := lk tx L S.1 + 1) (by omega)
  have r2 := (((r1.tr hF' (Nat.le_refl _) (Nat.le_refl _) (Nat.le_refl _) (Nat.le_refl _)).tr (RF.wr (c := 0) (k := 23) (nI S.2.1) (by omega)) (Nat.le_refl _) (Nat.le_refl _) (Nat.le_refl _) (Nat.le_refl _)).tr (RF.wr (c := 0) (k := 22) (nI 1) (by omega)) (Nat.le_refl _) (Nat.le_refl _) (Nat.le_refl _) (Nat.le_refl _)).tr (RF.wr (c := 0) (k := 21) (nI (lk tx L S.1 + 1)) (by omega)) (Nat.le_refl _) (Nat.le_refl _) (Nat.le_refl _) (Nat.le_refl _)
  refine TPk.ok (by rw [am_diff _ _ _ _ _ (by decide), am_diff _ _ _ _ _ (by decide), h0, am_same]) ?_
  rw [show (ps_add S 36 (lk tx L S.1)).1 = lk tx L S.1 + 1 from rfl] at hpp
  rw [hpp] at hf
  have hq2 := (lk_le (tx := tx) (q := lk tx L S.1 + 1) (L := L) (by omega)).2
  have r3 := r2.tr (RF.wr (c := 0) (k := 21) (nI (lk tx L (lk tx L S.1 + 1))) (by omega)) (Nat.le_refl _) (Nat.le_refl _) (Nat.le_refl _) (Nat.le_refl _)
  have k2 := tkm hBs.tx (lk tx L (lk tx L S.1 + 1))
  refine hg_step hd hBs.tx (by omega) (am_same _ _ _ _) (fun hc2 => ?_) (fun hc2 => ?_)
  · have f22 : (am_wr (am_wr (am_wr (am_wr σ' 0 23 (nI S.2.1)) 0 22 (nI 1)) 0 21 (nI (lk tx L S.1 + 1))) 0 21 (nI (lk tx L (lk tx L S.1 + 1)))).1 0 22 = nI 1 := by rw [am_diff _ _ _ _ _ (by decide), am_diff _ _ _ _ _ (by decide), am_same]
    refine tok_1 (by omega) f22 (fun d' hd' => am_C_to (Q := TPk d Q (lk tx L (lk tx L S.1 + 1))) ?_ (fun _ _ z => z.x))
    by_cases hbad : tk tx L (lk tx L (lk tx L S.1 + 1)) < 97 ∨ 104 < tk tx L (lk tx L (lk tx L S.1 + 1))
    · rw [if_pos hbad] at hf
      exact rs_bad (by omega) hc2 hbad (TPk.flt (am_same _ _ _ _) (by decide) (hf 1 _ _ rfl r3.z (am_same _ _ _ _)))
    rw [if_neg hbad] at hf hpp
    have f23 : (am_wr (am_wr (am_wr (am_wr σ' 0 23 (nI S.2.1)) 0 22 (nI 1)) 0 21 (nI (lk tx L S.1 + 1))) 0 21 (nI (lk tx L (lk tx L S.1 + 1)))).1 0 23 = nI S.2.1 := by rw [am_diff _ _ _ _ _ (by decide), am_diff _ _ _ _ _ (by decide), am_diff _ _ _ _ _ (by decide), am_same]
    have f35 : (am_wr (am_wr (am_wr (am_wr σ' 0 23 (nI S.2.1)) 0 22 (nI 1)) 0 21 (nI (lk tx L S.1 + 1))) 0 21 (nI (lk tx L (lk tx L S.1 + 1)))).1 0 35 = nI e := (hBs.at hq2).2.2.2.2.2.2.2.1
    have hqL2 := k2.2.1 hc2
    have hBJ := (((hBs.at hq2).wr (nI (tk tx L (lk tx L (lk tx L S.1 + 1)) - 97)) (c := 6) (k := 120 + S.2.1) (by omega)).wr (nI 2) (c := 0) (k := 22) (by omega)).at (q := (lk tx L (lk tx L S.1 + 1)) + 1) (by omega)
    refine rs_36 (by omega) (by omega) f23 (by omega) f35 (by omega) (by rw [am_wr_ne _ (by omega), am_wr_ne _ (by omega), am_wr_ne _ (by omega), am_wr_ne _ (by omega)]; exact n5) ?_
    refine TPk.ok (by rw [am_diff _ _ _ _ _ (by decide), am_wr_ne _ (by omega), am_same]) ?_
    exact bk_36 (S := S) (Ss := (ps_at (ps_det (ps_add S 36 (lk tx L S.1)) S.2.1 (tk tx L (lk tx L (lk tx L S.1 + 1)) - 97)) ((lk tx L (lk tx L S.1 + 1)) + 1))) (dv := (tk tx L (lk tx L (lk tx L S.1 + 1)) - 97) + 1) hd hK rfl hBJ (by omega) a8 htr (by rw [am_diff _ _ _ _ _ (by decide), am_same]) ⟨⟨by rw [am_diff _ _ _ _ _ (by decide), am_diff _ _ _ _ _ (by decide), am_wr_ne _ (by omega)]; exact f23, by rw [am_wr_ne _ (by omega), am_wr_ne _ (by omega), am_wr_ne _ (by omega), am_wr_ne _ (by omega), am_wr_ne _ (by omega), am_wr_ne _ (by omega), am_wr_ne _ (by omega)]; exact n5, by rw [oI_s, am_wr_ne _ (by omega), am_wr_ne _ (by omega), am_same], by rw [am_wr_ne _ (by omega), am_wr_ne _ (by omega), am_wr_ne _ (by omega), am_wr_ne _ (by omega), am_wr_ne _ (by omega), am_wr_ne _ (by omega), am_wr_ne _ (by omega)]; exact n8, by rw [am_wr_ne _ (by omega), am_wr_ne _ (by omega), am_wr_ne _ (by omega), am_wr_ne _ (by omega), am_wr_ne _ (by omega), am_wr_ne _ (by omega), am_wr_ne _ (by omega)]; exact n10, fun y hy => by rw [am_wr_ne _ (by omega), am_wr_ne _ (by omega), am_wr_ne _ (by omega), am_wr_ne _ (by omega), am_wr_ne _ (by omega), am_wr_ne _ (by omega), am_wr_ne _ (by omega)]; exact n11 y hy, by rw [am_wr_ne _ (by omega), am_wr_ne _ (by omega), am_wr_ne _ (by omega), am_wr_ne _ (by omega), am_wr_ne _ (by omega), am_wr_ne _ (by omega), am_wr_ne _ (by omega)]; exact n12, by rw [am_wr_ne _ (by omega), am_wr_ne _ (by omega), am_wr_ne _ (by omega), am_wr_ne _ (by omega), am_wr_ne _ (by omega), am_wr_ne _ (by omega), am_wr_ne _ (by omega)]; exact n15⟩, (if_neg (fun z => absurd z.2 (by decide))).trans (if_pos rfl), if_pos ⟨rfl, rfl⟩, by omega, fun _ => by omega⟩ (((r3.tr (RF.wr _ (by omega)) (Nat.le_refl _) (Nat.le_refl _) (Nat.le_refl _) (Nat.le_refl _)).tr (RF.wr _ (by omega)) (Nat.le_refl _) (Nat.le_refl _) (Nat.le_refl _) (Nat.le_refl _)).tr (RF.wr _ (by omega)) (Nat.le_refl _) (Nat.le_refl _) (Nat.le_refl _) (Nat.le_refl _)) (fun c c1 c2 => by rw [am_wr_ne _ (by omega), am_wr_ne _ (by omega), am_wr_ne _ (by omega), am_wr_ne _ (by omega), am_wr_ne _ (by omega), am_wr_ne _ (by omega), am_wr_ne _ (by omega), h20 c c1 (by omega), am_wr_ne _ (by omega)]) hf (fun S' σ1 g pos hx hU hl => hk S' S.2.1 σ1 g pos (hpp.trans hx) hU hl)
  · rw [if_pos (Or.inr (by omega))] at hf
    exact en_1 (by omega) (by rw [am_diff _ _ _ _ _ (by decide), am_diff _ _ _ _ _ (by decide), am_same]) (hf 1 _ _ rfl r3.z (am_same _ _ _ _))
/-- every part -/
theorem psim {L lev : Nat} {tx : Nat → Nat} {blk : Option (Nat → Nat → PS → RS)} (hK : BLK L tx lev blk) : PSIM L tx lev (p_part tx L blk) := by
  intro tr lc S σ O e d Q hd hB htr h22 hf hk
  by_cases h40 : tk tx L (lk tx L S.1) = 40
  · exact pt_40 hd hB htr h22 hf hk hK h40
  by_cases hb : isF (tk tx L (lk tx L S.1)) = false ∧ isB (tk tx L (lk tx L S.1)) = false
  · exact pt_bad hd hB htr h22 hf hk h40 hb
  rcases isB_cases hb h40 with h | h | h | h | h | h | h | h | h | h | h
  · exact pt_48 hd hB htr h22 hf hk h
  · exact pt_46 hd hB htr h22 hf hk h
  · exact pt_120 hd hB htr h22 hf hk h
  · exact pt_33 hd hB htr h22 hf hk h
  · exact pt_38 hd hB htr h22 hf hk h
  · exact pt_63 hd hB htr h22 hf hk hK h
  · exact pt_42 hd hB htr h22 hf hk hK h
  · exact pt_94 hd hB htr h22 hf hk hK h
  · exact pt_64 hd hB htr h22 hf hk hK h
  · exact pt_126 hd hB htr h22 hf hk hK h
  · exact pt_36 hd hB htr h22 hf hk hK h
theorem lv_sim {L : Nat} {tx : Nat → Nat} : ∀ (m lev : Nat), lev + m = 12 → RSIM L tx lev (p_lv tx L m)
  | 0, lev, h => row124 (row59 (psim (Or.inl ⟨rfl, h⟩)) (part_pf (fun f h => by cases h))) (row_pf (part_pf (fun f h => by cases h)))
  | m + 1, lev, h => row124 (row59 (psim (Or.inr ⟨p_lv tx L m, rfl, by omega, lv_sim m (lev + 1) (by omega), lv_pf m⟩)) (part_pf (fun f h => by cases h; exact lv_pf m))) (row_pf (part_pf (fun f h => by cases h; exact lv_pf m)))

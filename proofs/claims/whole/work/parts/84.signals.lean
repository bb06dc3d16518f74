set_option maxRecDepth 10000 in
set_option maxHeartbeats 2000000 in
theorem pt_33 {L lev tr lc e d : Nat} {tx O : Nat → Nat} {blk : Option (Nat → Nat → PS → RS)} {S : PS} {σ : am_M} {Q : am_Q} (hd : 12 ≤ d) (hB : RB σ L tx S.1 S.2.1 S.2.2.1 e lev tr lc O) (htr : tr ≤ lev) (h22 : σ.1 0 22 = nI 0) (hf : FA Q σ (p_part tx L blk tr lc S)) (hk : ∀ S' r σ1 g pos, p_part tx L blk tr lc S = .inr (S', r) → SU σ σ1 L tx S S' r e lev tr lc O pos g → (∀ c, 20 ≤ c → c ≤ 26 → σ1.1 c lev = σ.1 c lev) → CT d Q L tx (lk tx L S'.1) lev r σ1) (hc : tk tx L (lk tx L S.1) = 33) : HG d Q σ := by
  obtain ⟨⟨t1, t2, t3⟩, a1, a2, a3, a4, a5, a6, a7, a8, a9, a10, a11, a12, a13, a14⟩ := id hB
  have hql := (lk_le (tx := tx) a1).2
  have hqL : lk tx L S.1 < L := (tkm hB.tx (lk tx L S.1)).2.1 (by omega)
  have e22 : (am_wr σ 0 21 (nI (lk tx L S.1))).1 0 22 = nI 0 := by rw [am_diff _ _ _ _ _ (by decide)]; exact h22
  have r1 : RF σ (am_wr σ 0 21 (nI (lk tx L S.1))) S.2.1 e lev lc := RF.wr _ (by omega)
  refine hg_step hd hB.tx a1 a2 (fun _ => ?_) (fun z => by omega)
  rw [hc]
  refine tok_0 (by omega) e22 (fun d' hd' => am_C_to (Q := TPk d Q (lk tx L S.1)) ?_ (fun _ _ z => z.x))
  refine rp_33 (by omega) (hB.at hql) (fun h60 => ?_) (fun h60 σ' hB' hF' hN h0 h20 => ?_)
  · exact TPk.flt (am_same _ _ _ _) (by decide) (hf 3 (lk tx L S.1) _ (pp_full hc (by decide) (by decide) (if_pos (Or.inl h60))) r1.z (am_same _ _ _ _))
  have hb : p_beg S 33 lc (lk tx L S.1) = .inr (ps_add S 33 (lk tx L S.1)) := by
    unfold p_beg
    rw [if_neg (fun z => h60 (z.resolve_right (fun q => absurd q.1 (by decide)))), if_neg (by omega)]
  have hpp := pp_33 (blk := blk) (tr := tr) hc hb
  rw [show (ps_add S 33 (lk tx L S.1)).1 = lk tx L S.1 + 1 from rfl] at hpp
  rw [hpp] at hf
  obtain ⟨n5, n6, n7, n8, n15, n10, n11, n12⟩ := hN
  have hBs := ((hB'.wr (nI S.2.1) (c := 0) (k := 23) (by omega)).wr (nI 1) (c := 0) (k := 22) (by omega)).at (q := lk tx L S.1 + 1) (by omega)
  have hq2 := (lk_le (tx := tx) (q := lk tx L S.1 + 1) (L := L) (by omega)).2
  have r2 := (((r1.tr hF' (Nat.le_refl _) (Nat.le_refl _) (Nat.le_refl _) (Nat.le_refl _)).tr (RF.wr (c := 0) (k := 23) (nI S.2.1) (by omega)) (Nat.le_refl _) (Nat.le_refl _) (Nat.le_refl _) (Nat.le_refl _)).tr (RF.wr (c := 0) (k := 22) (nI 1) (by omega)) (Nat.le_refl _) (Nat.le_refl _) (Nat.le_refl _) (Nat.le_refl _)).tr (RF.wr (c := 0) (k := 21) (nI (lk tx L S.1 + 1)) (by omega)) (Nat.le_refl _) (Nat.le_refl _) (Nat.le_refl _) (Nat.le_refl _)
  have r3 := r2.tr (RF.wr (c := 0) (k := 21) (nI (lk tx L (lk tx L S.1 + 1))) (by omega)) (Nat.le_refl _) (Nat.le_refl _) (Nat.le_refl _) (Nat.le_refl _)
  refine TPk.ok (by rw [am_diff _ _ _ _ _ (by decide), am_diff _ _ _ _ _ (by decide), h0, am_same]) ?_
  have k2 := tkm hBs.tx (lk tx L (lk tx L S.1 + 1))
  refine hg_step hd hBs.tx (by omega) (am_same _ _ _ _) (fun hc2 => ?_) (fun hc2 => ?_)
  · have f22 : (am_wr (am_wr (am_wr (am_wr σ' 0 23 (nI S.2.1)) 0 22 (nI 1)) 0 21 (nI (lk tx L S.1 + 1))) 0 21 (nI (lk tx L (lk tx L S.1 + 1)))).1 0 22 = nI 1 := by rw [am_diff _ _ _ _ _ (by decide), am_diff _ _ _ _ _ (by decide), am_same]
    refine tok_1 (by omega) f22 (fun d' hd' => am_C_to (Q := TPk d Q (lk tx L (lk tx L S.1 + 1))) ?_ (fun _ _ z => z.x))
    by_cases hbad : tk tx L (lk tx L (lk tx L S.1 + 1)) < 97 ∨ 104 < tk tx L (lk tx L (lk tx L S.1 + 1))
    · rw [if_pos hbad] at hf
      exact rs_bad (by omega) hc2 hbad (TPk.flt (am_same _ _ _ _) (by decide) (hf 1 _ _ rfl r3.z (am_same _ _ _ _)))
    rw [if_neg hbad] at hf hpp
    have f23 : (am_wr (am_wr (am_wr (am_wr σ' 0 23 (nI S.2.1)) 0 22 (nI 1)) 0 21 (nI (lk tx L S.1 + 1))) 0 21 (nI (lk tx L (lk tx L S.1 + 1)))).1 0 23 = nI S.2.1 := by rw [am_diff _ _ _ _ _ (by decide), am_diff _ _ _ _ _ (by decide), am_diff _ _ _ _ _ (by decide), am_same]
    have f35 : (am_wr (am_wr (am_wr (am_wr σ' 0 23 (nI S.2.1)) 0 22 (nI 1)) 0 21 (nI (lk tx L S.1 + 1))) 0 21 (nI (lk tx L (lk tx L S.1 + 1)))).1 0 35 = nI e := (hBs.at hq2).2.2.2.2.2.2.2.1
    have hBJ := (((hBs.at hq2).wr (nI (tk tx L (lk tx L (lk tx L S.1 + 1)) - 97)) (c := 6) (k := 120 + S.2.1) (by omega)).wr (nI S.2.1) (c := 9) (k := 120 + e) (by omega)).ended (by omega)
    obtain ⟨g, hSG, hMS⟩ := leafU (σ := am_wr (am_wr (am_wr (am_wr (am_wr (am_wr (am_wr σ' 0 23 (nI S.2.1)) 0 22 (nI 1)) 0 21 (nI (lk tx L S.1 + 1))) 0 21 (nI (lk tx L (lk tx L S.1 + 1)))) 6 (120 + S.2.1) (nI (tk tx L (lk tx L (lk tx L S.1 + 1)) - 97))) 9 (120 + e) (nI S.2.1)) 0 35 (nI (e + 1))) (p := (ps_at (ps_det (ps_add S 33 (lk tx L S.1)) S.2.1 (tk tx L (lk tx L (lk tx L S.1 + 1)) - 97)) ((lk tx L (lk tx L S.1 + 1)) + 1)).2.2.2) (n := S.2.1) (kk := S.2.2.1) (e := e) (lc := lc) (c := 33) (dv := (tk tx L (lk tx L (lk tx L S.1 + 1)) - 97) + 1) (O := O) (by omega) ((if_neg (fun z => absurd z.2 (by decide))).trans (if_pos rfl)) (if_pos ⟨rfl, rfl⟩) ((if_neg (fun z => absurd z.2 (by decide))).trans (if_pos rfl)) ((if_neg (fun z => absurd z.2 (by decide))).trans (if_pos rfl)) ((if_neg (fun z => absurd z.2 (by decide))).trans (if_pos rfl)) ((if_neg (fun z => absurd z.2 (by decide))).trans (if_pos rfl)) ((if_neg (fun z => absurd z.2 (by decide))).trans (if_pos rfl)) (fun z => absurd z (by decide)) (by omega) (by omega) (by omega) a13 (fun y hy => (a14 y hy).2) (by rw [am_wr_ne _ (by omega), am_wr_ne _ (by omega), am_wr_ne _ (by omega), am_wr_ne _ (by omega), am_wr_ne _ (by omega), am_wr_ne _ (by omega), am_wr_ne _ (by omega)]; exact n5) (by rw [oI_s, am_wr_ne _ (by omega), am_wr_ne _ (by omega), am_same]) (by rw [am_wr_ne _ (by omega), am_wr_ne _ (by omega), am_wr_ne _ (by omega), am_wr_ne _ (by omega), am_wr_ne _ (by omega), am_wr_ne _ (by omega), am_wr_ne _ (by omega)]; exact n7) (by rw [am_wr_ne _ (by omega), am_wr_ne _ (by omega), am_wr_ne _ (by omega), am_wr_ne _ (by omega), am_wr_ne _ (by omega), am_wr_ne _ (by omega), am_wr_ne _ (by omega)]; exact n8) (by rw [am_wr_ne _ (by omega), am_wr_ne _ (by omega), am_wr_ne _ (by omega), am_wr_ne _ (by omega), am_wr_ne _ (by omega), am_wr_ne _ (by omega), am_wr_ne _ (by omega)]; exact n10) (fun y hy => by rw [am_wr_ne _ (by omega), am_wr_ne _ (by omega), am_wr_ne _ (by omega), am_wr_ne _ (by omega), am_wr_ne _ (by omega), am_wr_ne _ (by omega), am_wr_ne _ (by omega)]; exact n11 y hy) (by rw [am_wr_ne _ (by omega), am_wr_ne _ (by omega), am_wr_ne _ (by omega), am_wr_ne _ (by omega), am_wr_ne _ (by omega), am_wr_ne _ (by omega), am_wr_ne _ (by omega)]; exact n12) (by rw [am_wr_ne _ (by omega), am_same])
    refine rs_33 (by omega) (by omega) f23 (by omega) f35 (by omega) (by rw [am_wr_ne _ (by omega), am_wr_ne _ (by omega), am_wr_ne _ (by omega), am_wr_ne _ (by omega)]; exact n5) ?_
    refine CT.tp hd (k2.2.1 hc2) ?_ a10 (hk (ps_at (ps_det (ps_add S 33 (lk tx L S.1)) S.2.1 (tk tx L (lk tx L (lk tx L S.1 + 1)) - 97)) ((lk tx L (lk tx L S.1 + 1)) + 1)) S.2.1 _ g (lk tx L (lk tx L S.1 + 1)) hpp ⟨?_, ?_, ⟨hMS, by rw [am_wr_ne _ (by omega), am_wr_ne _ (by omega), am_wr_ne _ (by omega), am_wr_ne _ (by omega), am_wr_ne _ (by omega), am_wr_ne _ (by omega), am_wr_ne _ (by omega)]; exact n15⟩, hSG, ?_⟩ (fun c c1 c2 => ?_))
    · rw [am_diff _ _ _ _ _ (by decide), am_wr_ne _ (by omega), am_wr_ne _ (by omega), am_same]
    · show RB _ L tx (lk tx L (lk tx L S.1 + 1)) (S.2.1 + 1) (S.2.2.1) (e + (S.2.1 + 1 - S.2.1)) lev tr lc O
      rw [show e + (S.2.1 + 1 - S.2.1) = e + 1 by omega]
      exact hBJ
    · exact ((r3.tr (RF.wr _ (by omega)) (Nat.le_refl _) (Nat.le_refl _) (Nat.le_refl _) (Nat.le_refl _)).tr (RF.wr _ (by omega)) (Nat.le_refl _) (Nat.le_refl _) (Nat.le_refl _) (Nat.le_refl _)).tr (RF.wr _ (by omega)) (Nat.le_refl _) (Nat.le_refl _) (Nat.le_refl _) (Nat.le_refl _)
    · exact k2.2.1 hc2
    · rw [am_wr_ne _ (by omega), am_wr_ne _ (by omega), am_wr_ne _ (by omega), am_wr_ne _ (by omega), am_wr_ne _ (by omega), am_wr_ne _ (by omega), am_wr_ne _ (by omega), h20 c c1 (by omega), am_wr_ne _ (by omega)]
  · rw [if_pos (Or.inr (by omega))] at hf
    exact en_1 (by omega) (by rw [am_diff _ _ _ _ _ (by decide), am_diff _ _ _ _ _ (by decide), am_same]) (hf 1 _ _ rfl r3.z (am_same _ _ _ _))
set_option maxRecDepth 10000 in
set_option maxHeartbeats 2000000 in
theorem pt_38 {L lev tr lc e d : Nat} {tx O : Nat → Nat} {blk : Option (Nat → Nat → PS → RS)} {S : PS} {σ : am_M} {Q : am_Q} (hd : 12 ≤ d) (hB : RB σ L tx S.1 S.2.1 S.2.2.1 e lev tr lc O) (htr : tr ≤ lev) (h22 : σ.1 0 22 = nI 0) (hf : FA Q σ (p_part tx L blk tr lc S)) (hk : ∀ S' r σ1 g pos, p_part tx L blk tr lc S = .inr (S', r) → SU σ σ1 L tx S S' r e lev tr lc O pos g → (∀ c, 20 ≤ c → c ≤ 26 → σ1.1 c lev = σ.1 c lev) → CT d Q L tx (lk tx L S'.1) lev r σ1) (hc : tk tx L (lk tx L S.1) = 38) : HG d Q σ := by
  obtain ⟨⟨t1, t2, t3⟩, a1, a2, a3, a4, a5, a6, a7, a8, a9, a10, a11, a12, a13, a14⟩ := id hB
  have hql := (lk_le (tx := tx) a1).2
  have hqL : lk tx L S.1 < L := (tkm hB.tx (lk tx L S.1)).2.1 (by omega)
  have e22 : (am_wr σ 0 21 (nI (lk tx L S.1))).1 0 22 = nI 0 := by rw [am_diff _ _ _ _ _ (by decide)]; exact h22
  have r1 : RF σ (am_wr σ 0 21 (nI (lk tx L S.1))) S.2.1 e lev lc := RF.wr _ (by omega)
  refine hg_step hd hB.tx a1 a2 (fun _ => ?_) (fun z => by omega)
  rw [hc]
  refine tok_0 (by omega) e22 (fun d' hd' => am_C_to (Q := TPk d Q (lk tx L S.1)) ?_ (fun _ _ z => z.x))
  refine rp_38 (by omega) (hB.at hql) (fun h60 => ?_) (fun h60 σ' hB' hF' hN h0 h20 => ?_)
  · exact TPk.flt (am_same _ _ _ _) (by decide) (hf 3 (lk tx L S.1) _ (pp_full hc (by decide) (by decide) (if_pos (h60.imp id (fun z => ⟨rfl, z⟩)))) r1.z (am_same _ _ _ _))
  have hb : p_beg S 38 lc (lk tx L S.1) = .inr (ps_add S 38 (lk tx L S.1)) := by
    unfold p_beg
    rw [if_neg (fun z => h60 (z.imp id (fun q => q.2))), if_neg (by omega)]
  have hpp := pp_38 (blk := blk) (tr := tr) hc hb
  rw [show (ps_add S 38 (lk tx L S.1)).1 = lk tx L S.1 + 1 from rfl] at hpp
  rw [hpp] at hf
  obtain ⟨n5, n6, n7, n8, n15, n10, n11, n12⟩ := hN
  have hBs := ((hB'.wr (nI S.2.1) (c := 0) (k := 23) (by omega)).wr (nI 1) (c := 0) (k := 22) (by omega)).at (q := lk tx L S.1 + 1) (by omega)
  have hq2 := (lk_le (tx := tx) (q := lk tx L S.1 + 1) (L := L) (by omega)).2
  have r2 := (((r1.tr hF' (Nat.le_refl _) (Nat.le_refl _) (Nat.le_refl _) (Nat.le_refl _)).tr (RF.wr (c := 0) (k := 23) (nI S.2.1) (by omega)) (Nat.le_refl _) (Nat.le_refl _) (Nat.le_refl _) (Nat.le_refl _)).tr (RF.wr (c := 0) (k := 22) (nI 1) (by omega)) (Nat.le_refl _) (Nat.le_refl _) (Nat.le_refl _) (Nat.le_refl _)).tr (RF.wr (c := 0) (k := 21) (nI (lk tx L S.1 + 1)) (by omega)) (Nat.le_refl _) (Nat.le_refl _) (Nat.le_refl _) (Nat.le_refl _)
  have r3 := r2.tr (RF.wr (c := 0) (k := 21) (nI (lk tx L (lk tx L S.1 + 1))) (by omega)) (Nat.le_refl _) (Nat.le_refl _) (Nat.le_refl _) (Nat.le_refl _)
  refine TPk.ok (by rw [am_diff _ _ _ _ _ (by decide), am_diff _ _ _ _ _ (by decide), h0, am_same]) ?_
  have k2 := tkm hBs.tx (lk tx L (lk tx L S.1 + 1))
  refine hg_step hd hBs.tx (by omega) (am_same _ _ _ _) (fun hc2 => ?_) (fun hc2 => ?_)
  · have f22 : (am_wr (am_wr (am_wr (am_wr σ' 0 23 (nI S.2.1)) 0 22 (nI 1)) 0 21 (nI (lk tx L S.1 + 1))) 0 21 (nI (lk tx L (lk tx L S.1 + 1)))).1 0 22 = nI 1 := by rw [am_diff _ _ _ _ _ (by decide), am_diff _ _ _ _ _ (by decide), am_same]
    refine tok_1 (by omega) f22 (fun d' hd' => am_C_to (Q := TPk d Q (lk tx L (lk tx L S.1 + 1))) ?_ (fun _ _ z => z.x))
    by_cases hbad : tk tx L (lk tx L (lk tx L S.1 + 1)) < 97 ∨ 104 < tk tx L (lk tx L (lk tx L S.1 + 1))
    · rw [if_pos hbad] at hf
      exact rs_bad (by omega) hc2 hbad (TPk.flt (am_same _ _ _ _) (by decide) (hf 1 _ _ rfl r3.z (am_same _ _ _ _)))
    rw [if_neg hbad] at hf hpp
    have f23 : (am_wr (am_wr (am_wr (am_wr σ' 0 23 (nI S.2.1)) 0 22 (nI 1)) 0 21 (nI (lk tx L S.1 + 1))) 0 21 (nI (lk tx L (lk tx L S.1 + 1)))).1 0 23 = nI S.2.1 := by rw [am_diff _ _ _ _ _ (by decide), am_diff _ _ _ _ _ (by decide), am_diff _ _ _ _ _ (by decide), am_same]
    have f35 : (am_wr (am_wr (am_wr (am_wr σ' 0 23 (nI S.2.1)) 0 22 (nI 1)) 0 21 (nI (lk tx L S.1 + 1))) 0 21 (nI (lk tx L (lk tx L S.1 + 1)))).1 0 35 = nI e := (hBs.at hq2).2.2.2.2.2.2.2.1
    have hBJ := (((hBs.at hq2).wr (nI (tk tx L (lk tx L (lk tx L S.1 + 1)) - 97)) (c := 6) (k := 120 + S.2.1) (by omega)).wr (nI S.2.1) (c := 9) (k := 120 + e) (by omega)).ended (by omega)
    obtain ⟨g, hSG, hMS⟩ := leafU (σ := am_wr (am_wr (am_wr (am_wr (am_wr (am_wr (am_wr σ' 0 23 (nI S.2.1)) 0 22 (nI 1)) 0 21 (nI (lk tx L S.1 + 1))) 0 21 (nI (lk tx L (lk tx L S.1 + 1)))) 6 (120 + S.2.1) (nI (tk tx L (lk tx L (lk tx L S.1 + 1)) - 97))) 9 (120 + e) (nI S.2.1)) 0 35 (nI (e + 1))) (p := (ps_at (ps_det (ps_add S 38 (lk tx L S.1)) S.2.1 (tk tx L (lk tx L (lk tx L S.1 + 1)) - 97)) ((lk tx L (lk tx L S.1 + 1)) + 1)).2.2.2) (n := S.2.1) (kk := S.2.2.1) (e := e) (lc := lc) (c := 38) (dv := (tk tx L (lk tx L (lk tx L S.1 + 1)) - 97) + 1) (O := O) (by omega) ((if_neg (fun z => absurd z.2 (by decide))).trans (if_pos rfl)) (if_pos ⟨rfl, rfl⟩) ((if_neg (fun z => absurd z.2 (by decide))).trans (if_pos rfl)) ((if_neg (fun z => absurd z.2 (by decide))).trans (if_pos rfl)) ((if_neg (fun z => absurd z.2 (by decide))).trans (if_pos rfl)) ((if_neg (fun z => absurd z.2 (by decide))).trans (if_pos rfl)) ((if_neg (fun z => absurd z.2 (by decide))).trans (if_pos rfl)) (fun _ => by omega) (by omega) (by omega) (by omega) a13 (fun y hy => (a14 y hy).2) (by rw [am_wr_ne _ (by omega), am_wr_ne _ (by omega), am_wr_ne _ (by omega), am_wr_ne _ (by omega), am_wr_ne _ (by omega), am_wr_ne _ (by omega), am_wr_ne _ (by omega)]; exact n5) (by rw [oI_s, am_wr_ne _ (by omega), am_wr_ne _ (by omega), am_same]) (by rw [am_wr_ne _ (by omega), am_wr_ne _ (by omega), am_wr_ne _ (by omega), am_wr_ne _ (by omega), am_wr_ne _ (by omega), am_wr_ne _ (by omega), am_wr_ne _ (by omega)]; exact n7) (by rw [am_wr_ne _ (by omega), am_wr_ne _ (by omega), am_wr_ne _ (by omega), am_wr_ne _ (by omega), am_wr_ne _ (by omega), am_wr_ne _ (by omega), am_wr_ne _ (by omega)]; exact n8) (by rw [am_wr_ne _ (by omega), am_wr_ne _ (by omega), am_wr_ne _ (by omega), am_wr_ne _ (by omega), am_wr_ne _ (by omega), am_wr_ne _ (by omega), am_wr_ne _ (by omega)]; exact n10) (fun y hy => by rw [am_wr_ne _ (by omega), am_wr_ne _ (by omega), am_wr_ne _ (by omega), am_wr_ne _ (by omega), am_wr_ne _ (by omega), am_wr_ne _ (by omega), am_wr_ne _ (by omega)]; exact n11 y hy) (by rw [am_wr_ne _ (by omega), am_wr_ne _ (by omega), am_wr_ne _ (by omega), am_wr_ne _ (by omega), am_wr_ne _ (by omega), am_wr_ne _ (by omega), am_wr_ne _ (by omega)]; exact n12) (by rw [am_wr_ne _ (by omega), am_same])
    refine rs_38 (by omega) (by omega) f23 (by omega) f35 (by omega) (by rw [am_wr_ne _ (by omega), am_wr_ne _ (by omega), am_wr_ne _ (by omega), am_wr_ne _ (by omega)]; exact n5) ?_
    refine CT.tp hd (k2.2.1 hc2) ?_ a10 (hk (ps_at (ps_det (ps_add S 38 (lk tx L S.1)) S.2.1 (tk tx L (lk tx L (lk tx L S.1 + 1)) - 97)) ((lk tx L (lk tx L S.1 + 1)) + 1)) S.2.1 _ g (lk tx L (lk tx L S.1 + 1)) hpp ⟨?_, ?_, ⟨hMS, by rw [am_wr_ne _ (by omega), am_wr_ne _ (by omega), am_wr_ne _ (by omega), am_wr_ne _ (by omega), am_wr_ne _ (by omega), am_wr_ne _ (by omega), am_wr_ne _ (by omega)]; exact n15⟩, hSG, ?_⟩ (fun c c1 c2 => ?_))
    · rw [am_diff _ _ _ _ _ (by decide), am_wr_ne _ (by omega), am_wr_ne _ (by omega), am_same]
    · show RB _ L tx (lk tx L (lk tx L S.1 + 1)) (S.2.1 + 1) (S.2.2.1 + 1) (e + (S.2.1 + 1 - S.2.1)) lev tr lc O
      rw [show e + (S.2.1 + 1 - S.2.1) = e + 1 by omega]
      exact hBJ
    · exact ((r3.tr (RF.wr _ (by omega)) (Nat.le_refl _) (Nat.le_refl _) (Nat.le_refl _) (Nat.le_refl _)).tr (RF.wr _ (by omega)) (Nat.le_refl _) (Nat.le_refl _) (Nat.le_refl _) (Nat.le_refl _)).tr (RF.wr _ (by omega)) (Nat.le_refl _) (Nat.le_refl _) (Nat.le_refl _) (Nat.le_refl _)
    · exact k2.2.1 hc2
    · rw [am_wr_ne _ (by omega), am_wr_ne _ (by omega), am_wr_ne _ (by omega), am_wr_ne _ (by omega), am_wr_ne _ (by omega), am_wr_ne _ (by omega), am_wr_ne _ (by omega), h20 c c1 (by omega), am_wr_ne _ (by omega)]
  · rw [if_pos (Or.inr (by omega))] at hf
    exact en_1 (by omega) (by rw [am_diff _ _ _ _ _ (by decide), am_diff _ _ _ _ _ (by decide), am_same]) (hf 1 _ _ rfl r3.z (am_same _ _ _ _))
set_option maxRecDepth 10000 in
set_option maxHeartbeats 2000000 in
theorem pt_120 {L lev tr lc e d : Nat} {tx O : Nat → Nat} {blk : Option (Nat → Nat → PS → RS)} {S : PS} {σ : am_M} {Q : am_Q} (hd : 12 ≤ d) (hB : RB σ L tx S.1 S.2.1 S.2.2.1 e lev tr lc O) (htr : tr ≤ lev) (h22 : σ.1 0 22 = nI 0) (hf : FA Q σ (p_part tx L blk tr lc S)) (hk : ∀ S' r σ1 g pos, p_part tx L blk tr lc S = .inr (S', r) → SU σ σ1 L tx S S' r e lev tr lc O pos g → (∀ c, 20 ≤ c → c ≤ 26 → σ1.1 c lev = σ.1 c lev) → CT d Q L tx (lk tx L S'.1) lev r σ1) (hc : tk tx L (lk tx L S.1) = 120) : HG d Q σ := by
  obtain ⟨⟨t1, t2, t3⟩, a1, a2, a3, a4, a5, a6, a7, a8, a9, a10, a11, a12, a13, a14⟩ := id hB
  have hql := (lk_le (tx := tx) a1).2
  have hqL : lk tx L S.1 < L := (tkm hB.tx (lk tx L S.1)).2.1 (by omega)
  have e22 : (am_wr σ 0 21 (nI (lk tx L S.1))).1 0 22 = nI 0 := by rw [am_diff _ _ _ _ _ (by decide)]; exact h22
  have r1 : RF σ (am_wr σ 0 21 (nI (lk tx L S.1))) S.2.1 e lev lc := RF.wr _ (by omega)
  refine hg_step hd hB.tx a1 a2 (fun _ => ?_) (fun z => by omega)
  rw [hc]
  refine tok_0 (by omega) e22 (fun d' hd' => am_C_to (Q := TPk d Q (lk tx L S.1)) ?_ (fun _ _ z => z.x))
  refine rp_120 (by omega) (hB.at hql) (fun h60 => ?_) (fun h60 σ' hB' hF' hN h0 h20 => ?_)
  · exact TPk.flt (am_same _ _ _ _) (by decide) (hf 3 (lk tx L S.1) _ (pp_full hc (by decide) (by decide) (if_pos (Or.inl h60))) r1.z (am_same _ _ _ _))
  have hb : p_beg S 120 lc (lk tx L S.1) = .inr (ps_add S 120 (lk tx L S.1)) := by
    unfold p_beg
    rw [if_neg (fun z => h60 (z.resolve_right (fun q => absurd q.1 (by decide)))), if_neg (by omega)]
  have hpp := pp_120 (blk := blk) (tr := tr) hc hb
  rw [show (ps_add S 120 (lk tx L S.1)).1 = lk tx L S.1 + 1 from rfl] at hpp
  rw [hpp] at hf
  obtain ⟨n5, n6, n7, n8, n15, n10, n11, n12⟩ := hN
  have hBs := ((hB'.wr (nI S.2.1) (c := 0) (k := 23) (by omega)).wr (nI 3) (c := 0) (k := 22) (by omega)).at (q := lk tx L S.1 + 1) (by omega)
  have hq2 := (lk_le (tx := tx) (q := lk tx L S.1 + 1) (L := L) (by omega)).2
  have r2 := (((r1.tr hF' (Nat.le_refl _) (Nat.le_refl _) (Nat.le_refl _) (Nat.le_refl _)).tr (RF.wr (c := 0) (k := 23) (nI S.2.1) (by omega)) (Nat.le_refl _) (Nat.le_refl _) (Nat.le_refl _) (Nat.le_refl _)).tr (RF.wr (c := 0) (k := 22) (nI 3) (by omega)) (Nat.le_refl _) (Nat.le_refl _) (Nat.le_refl _) (Nat.le_refl _)).tr (RF.wr (c := 0) (k := 21) (nI (lk tx L S.1 + 1)) (by omega)) (Nat.le_refl _) (Nat.le_refl _) (Nat.le_refl _) (Nat.le_refl _)
  have r3 := r2.tr (RF.wr (c := 0) (k := 21) (nI (lk tx L (lk tx L S.1 + 1))) (by omega)) (Nat.le_refl _) (Nat.le_refl _) (Nat.le_refl _) (Nat.le_refl _)
  refine TPk.ok (by rw [am_diff _ _ _ _ _ (by decide), am_diff _ _ _ _ _ (by decide), h0, am_same]) ?_
  have k2 := tkm hBs.tx (lk tx L (lk tx L S.1 + 1))
  refine hg_step hd hBs.tx (by omega) (am_same _ _ _ _) (fun hc2 => ?_) (fun hc2 => ?_)
  · have f22 : (am_wr (am_wr (am_wr (am_wr σ' 0 23 (nI S.2.1)) 0 22 (nI 3)) 0 21 (nI (lk tx L S.1 + 1))) 0 21 (nI (lk tx L (lk tx L S.1 + 1)))).1 0 22 = nI 3 := by rw [am_diff _ _ _ _ _ (by decide), am_diff _ _ _ _ _ (by decide), am_same]
    refine tok_3 (by omega) f22 (fun d' hd' => am_C_to (Q := TPk d Q (lk tx L (lk tx L S.1 + 1))) ?_ (fun _ _ z => z.x))
    by_cases hbad : tk tx L (lk tx L (lk tx L S.1 + 1)) < 48 ∨ 52 < tk tx L (lk tx L (lk tx L S.1 + 1))
    · rw [if_pos hbad] at hf
      exact rf_bad (by omega) hc2 hbad (TPk.flt (am_same _ _ _ _) (by decide) (hf 1 _ _ rfl r3.z (am_same _ _ _ _)))
    rw [if_neg hbad] at hf hpp
    have f32 : (am_wr (am_wr (am_wr (am_wr σ' 0 23 (nI S.2.1)) 0 22 (nI 3)) 0 21 (nI (lk tx L S.1 + 1))) 0 21 (nI (lk tx L (lk tx L S.1 + 1)))).1 0 32 = nI tr := (hBs.at hq2).2.2.2.2.2.2.2.2.2.2.2.1
    by_cases htp : tr ≤ (tk tx L (lk tx L (lk tx L S.1 + 1)) - 48)
    · rw [if_pos htp] at hf
      exact rf_2 (by omega) (by omega) f32 (by omega) htp (TPk.flt (am_same _ _ _ _) (by decide) (hf 2 _ _ rfl r3.z (am_same _ _ _ _)))
    rw [if_neg htp] at hf hpp
    have f23 : (am_wr (am_wr (am_wr (am_wr σ' 0 23 (nI S.2.1)) 0 22 (nI 3)) 0 21 (nI (lk tx L S.1 + 1))) 0 21 (nI (lk tx L (lk tx L S.1 + 1)))).1 0 23 = nI S.2.1 := by rw [am_diff _ _ _ _ _ (by decide), am_diff _ _ _ _ _ (by decide), am_diff _ _ _ _ _ (by decide), am_same]
    have f35 : (am_wr (am_wr (am_wr (am_wr σ' 0 23 (nI S.2.1)) 0 22 (nI 3)) 0 21 (nI (lk tx L S.1 + 1))) 0 21 (nI (lk tx L (lk tx L S.1 + 1)))).1 0 35 = nI e := (hBs.at hq2).2.2.2.2.2.2.2.1
    have hBJ := (((hBs.at hq2).wr (nI (tk tx L (lk tx L (lk tx L S.1 + 1)) - 48)) (c := 6) (k := 120 + S.2.1) (by omega)).wr (nI S.2.1) (c := 9) (k := 120 + e) (by omega)).ended (by omega)
    obtain ⟨g, hSG, hMS⟩ := leafU (σ := am_wr (am_wr (am_wr (am_wr (am_wr (am_wr (am_wr σ' 0 23 (nI S.2.1)) 0 22 (nI 3)) 0 21 (nI (lk tx L S.1 + 1))) 0 21 (nI (lk tx L (lk tx L S.1 + 1)))) 6 (120 + S.2.1) (nI (tk tx L (lk tx L (lk tx L S.1 + 1)) - 48))) 9 (120 + e) (nI S.2.1)) 0 35 (nI (e + 1))) (p := (ps_at (ps_det (ps_add S 120 (lk tx L S.1)) S.2.1 (tk tx L (lk tx L (lk tx L S.1 + 1)) - 48)) ((lk tx L (lk tx L S.1 + 1)) + 1)).2.2.2) (n := S.2.1) (kk := S.2.2.1) (e := e) (lc := lc) (c := 120) (dv := (tk tx L (lk tx L (lk tx L S.1 + 1)) - 48) + 1) (O := O) (by omega) ((if_neg (fun z => absurd z.2 (by decide))).trans (if_pos rfl)) (if_pos ⟨rfl, rfl⟩) ((if_neg (fun z => absurd z.2 (by decide))).trans (if_pos rfl)) ((if_neg (fun z => absurd z.2 (by decide))).trans (if_pos rfl)) ((if_neg (fun z => absurd z.2 (by decide))).trans (if_pos rfl)) ((if_neg (fun z => absurd z.2 (by decide))).trans (if_pos rfl)) ((if_neg (fun z => absurd z.2 (by decide))).trans (if_pos rfl)) (fun z => absurd z (by decide)) (by omega) (by omega) (by omega) a13 (fun y hy => (a14 y hy).2) (by rw [am_wr_ne _ (by omega), am_wr_ne _ (by omega), am_wr_ne _ (by omega), am_wr_ne _ (by omega), am_wr_ne _ (by omega), am_wr_ne _ (by omega), am_wr_ne _ (by omega)]; exact n5) (by rw [oI_s, am_wr_ne _ (by omega), am_wr_ne _ (by omega), am_same]) (by rw [am_wr_ne _ (by omega), am_wr_ne _ (by omega), am_wr_ne _ (by omega), am_wr_ne _ (by omega), am_wr_ne _ (by omega), am_wr_ne _ (by omega), am_wr_ne _ (by omega)]; exact n7) (by rw [am_wr_ne _ (by omega), am_wr_ne _ (by omega), am_wr_ne _ (by omega), am_wr_ne _ (by omega), am_wr_ne _ (by omega), am_wr_ne _ (by omega), am_wr_ne _ (by omega)]; exact n8) (by rw [am_wr_ne _ (by omega), am_wr_ne _ (by omega), am_wr_ne _ (by omega), am_wr_ne _ (by omega), am_wr_ne _ (by omega), am_wr_ne _ (by omega), am_wr_ne _ (by omega)]; exact n10) (fun y hy => by rw [am_wr_ne _ (by omega), am_wr_ne _ (by omega), am_wr_ne _ (by omega), am_wr_ne _ (by omega), am_wr_ne _ (by omega), am_wr_ne _ (by omega), am_wr_ne _ (by omega)]; exact n11 y hy) (by rw [am_wr_ne _ (by omega), am_wr_ne _ (by omega), am_wr_ne _ (by omega), am_wr_ne _ (by omega), am_wr_ne _ (by omega), am_wr_ne _ (by omega), am_wr_ne _ (by omega)]; exact n12) (by rw [am_wr_ne _ (by omega), am_same])
    refine rf_ok (by omega) (by omega) f32 (by omega) htp f23 (by omega) f35 (by omega) ?_
    refine CT.tp hd (k2.2.1 hc2) ?_ a10 (hk (ps_at (ps_det (ps_add S 120 (lk tx L S.1)) S.2.1 (tk tx L (lk tx L (lk tx L S.1 + 1)) - 48)) ((lk tx L (lk tx L S.1 + 1)) + 1)) S.2.1 _ g (lk tx L (lk tx L S.1 + 1)) hpp ⟨?_, ?_, ⟨hMS, by rw [am_wr_ne _ (by omega), am_wr_ne _ (by omega), am_wr_ne _ (by omega), am_wr_ne _ (by omega), am_wr_ne _ (by omega), am_wr_ne _ (by omega), am_wr_ne _ (by omega)]; exact n15⟩, hSG, ?_⟩ (fun c c1 c2 => ?_))
    · rw [am_diff _ _ _ _ _ (by decide), am_wr_ne _ (by omega), am_wr_ne _ (by omega), am_same]
    · show RB _ L tx (lk tx L (lk tx L S.1 + 1)) (S.2.1 + 1) (S.2.2.1) (e + (S.2.1 + 1 - S.2.1)) lev tr lc O
      rw [show e + (S.2.1 + 1 - S.2.1) = e + 1 by omega]
      exact hBJ
    · exact ((r3.tr (RF.wr _ (by omega)) (Nat.le_refl _) (Nat.le_refl _) (Nat.le_refl _) (Nat.le_refl _)).tr (RF.wr _ (by omega)) (Nat.le_refl _) (Nat.le_refl _) (Nat.le_refl _) (Nat.le_refl _)).tr (RF.wr _ (by omega)) (Nat.le_refl _) (Nat.le_refl _) (Nat.le_refl _) (Nat.le_refl _)
    · exact k2.2.1 hc2
    · rw [am_wr_ne _ (by omega), am_wr_ne _ (by omega), am_wr_ne _ (by omega), am_wr_ne _ (by omega), am_wr_ne _ (by omega), am_wr_ne _ (by omega), am_wr_ne _ (by omega), h20 c c1 (by omega), am_wr_ne _ (by omega)]
  · rw [if_pos (Or.inr (by omega))] at hf
    exact en_3 (by omega) (by rw [am_diff _ _ _ _ _ (by decide), am_diff _ _ _ _ _ (by decide), am_same]) (hf 1 _ _ rfl r3.z (am_same _ _ _ _))

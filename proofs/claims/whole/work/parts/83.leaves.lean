/-! the parts that hold nothing -/
theorem leafU {σ : am_M} {p : Nat → Nat → Nat} {n kk e lc c dv : Nat} {O : Nat → Nat} (hc : c = 48 ∨ c = 46 ∨ c = 120 ∨ c = 33 ∨ c = 38) (q0 : p 0 n = c) (q1 : p 1 n = dv) (q2 : p 2 n = 0) (q3 : p 3 n = 0) (q4 : p 4 n = if isP c = true then 2 ^ kk else 0) (q6 : p 6 n = n) (q7 : p 7 n = n) (hk : isP c = true → kk < 20) (d8 : dv ≤ 8) (dS : c = 33 ∨ c = 38 → 1 ≤ dv) (dX : c = 120 → 1 ≤ dv ∧ dv ≤ 5) (hlc : lc ≤ 3) (hO : ∀ y, y < lc → O y < 8) (m5 : σ.1 5 (120 + n) = nI c) (m6 : σ.1 6 (120 + n) = oI dv) (m7 : σ.1 7 (120 + n) = -1) (m8 : σ.1 8 (120 + n) = -1) (m10 : σ.1 10 (120 + n) = nI lc) (m11 : ∀ y, y < lc → σ.1 11 (3 * (120 + n) + y) = nI (O y)) (m12 : σ.1 12 (120 + n) = if isP c = true then nI kk else -1) (m9 : σ.1 9 (120 + e) = nI n) : ∃ g, SG p g n (n + 1) n e lc O ∧ MSG σ p g n (n + 1) n := by
  obtain ⟨g, hg⟩ : ∃ g : Nat → Nat → Nat, g = fun w _ => if w = 0 then lc else if w = 1 then 0 else if w = 2 then e else if w = 6 then kk else O (w - 7) := ⟨_, rfl⟩
  have g0 : g 0 n = lc := by rw [hg]; rfl
  have g2 : g 2 n = e := by rw [hg]; rfl
  have g6 : g 6 n = kk := by rw [hg]; rfl
  have gO : ∀ y, g (7 + y) n = O y := fun y => by
    rw [hg]
    show (if 7 + y = 0 then lc else if 7 + y = 1 then 0 else if 7 + y = 2 then e else if 7 + y = 6 then kk else O (7 + y - 7)) = O y
    rw [if_neg (by omega), if_neg (by omega), if_neg (by omega), if_neg (by omega), show 7 + y - 7 = y by omega]
  have hP : isP c = true ↔ c = 46 ∨ c = 38 := by unfold isP; rw [Bool.or_eq_true, beq_iff_eq, beq_iff_eq]
  have hT : TC p g n := by
    refine ⟨by omega, by omega, ?_, fun z => ?_, fun z => by omega, fun z => by omega, fun z => by unfold tUn at z; omega, fun z => by unfold tBi at z; omega, ?_, by omega, fun y hy => ?_, fun z => ?_⟩
    · rw [q4]
      split
      · rename_i hz
        have h2 : 2 ^ kk < 2 ^ 20 := Nat.pow_lt_pow_right (by decide) (hk hz)
        exact h2
      · decide
    · unfold tSig at z
      have := dS (by omega)
      omega
    · by_cases hz : isP c = true
      · left
        have := hP.mp hz
        unfold tIn
        omega
      · right
        rw [q4, if_neg hz]
    · rw [gO]
      exact hO y (by omega)
    · have hz : isP c = true := hP.mpr (by omega)
      rw [g6, q4, if_pos hz]
      exact ⟨rfl, hk hz⟩
  refine ⟨g, SG.leaf hT q2 q3 q6 q7 g2 g0 (fun y _ => gO y) (by rw [q0]; unfold tUn; omega) (by rw [q0]; unfold tBi; omega), fun i i1 i2 => ?_⟩
  obtain rfl : i = n := by omega
  exact ⟨⟨by rw [q0]; exact m5, by rw [q1]; exact m6, by rw [q2, oI_0]; exact m7, by rw [q3, oI_0]; exact m8, by rw [g0]; exact m10, fun y hy => by rw [gO]; exact m11 y (by omega), by rw [q0, g6]; exact m12⟩, fun z => absurd rfl z, by rw [g2]; exact m9⟩
theorem pp_full {tx : Nat → Nat} {L : Nat} {blk : Option (Nat → Nat → PS → RS)} {tr lc c : Nat} {S : PS} {x : Nat × Nat} (e : tk tx L (lk tx L S.1) = c) (h40 : ¬ c = 40) (h : ¬ (isF c = false ∧ isB c = false)) (hb : p_beg S c lc (lk tx L S.1) = .inl x) : p_part tx L blk tr lc S = .inl x := by
  unfold p_part
  rw [e, if_neg h40, if_neg h, hb]
set_option maxRecDepth 10000 in
set_option maxHeartbeats 2000000 in
theorem pt_48 {L lev tr lc e d : Nat} {tx O : Nat → Nat} {blk : Option (Nat → Nat → PS → RS)} {S : PS} {σ : am_M} {Q : am_Q} (hd : 12 ≤ d) (hB : RB σ L tx S.1 S.2.1 S.2.2.1 e lev tr lc O) (htr : tr ≤ lev) (h22 : σ.1 0 22 = nI 0) (hf : FA Q σ (p_part tx L blk tr lc S)) (hk : ∀ S' r σ1 g pos, p_part tx L blk tr lc S = .inr (S', r) → SU σ σ1 L tx S S' r e lev tr lc O pos g → (∀ c, 20 ≤ c → c ≤ 26 → σ1.1 c lev = σ.1 c lev) → CT d Q L tx (lk tx L S'.1) lev r σ1) (hc : tk tx L (lk tx L S.1) = 48) : HG d Q σ := by
  obtain ⟨⟨t1, t2, t3⟩, a1, a2, a3, a4, a5, a6, a7, a8, a9, a10, a11, a12, a13, a14⟩ := id hB
  have hql := (lk_le (tx := tx) a1).2
  have hqL : lk tx L S.1 < L := (tkm hB.tx (lk tx L S.1)).2.1 (by omega)
  have e22 : (am_wr σ 0 21 (nI (lk tx L S.1))).1 0 22 = nI 0 := by rw [am_diff _ _ _ _ _ (by decide)]; exact h22
  have r1 : RF σ (am_wr σ 0 21 (nI (lk tx L S.1))) S.2.1 e lev lc := RF.wr _ (by omega)
  refine hg_step hd hB.tx a1 a2 (fun _ => ?_) (fun z => by omega)
  rw [hc]
  refine tok_0 (by omega) e22 (fun d' hd' => am_C_to (Q := TPk d Q (lk tx L S.1)) ?_ (fun _ _ z => z.x))
  refine rp_48 (by omega) (hB.at hql) (fun h60 => ?_) (fun h60 σ' hB' hF' hN h0 h20 => ?_)
  · exact TPk.flt (am_same _ _ _ _) (by decide) (hf 3 (lk tx L S.1) _ (pp_full hc (by decide) (by decide) (if_pos (Or.inl h60))) r1.z (am_same _ _ _ _))
  · have hb : p_beg S 48 lc (lk tx L S.1) = .inr (ps_add S 48 (lk tx L S.1)) := by
      unfold p_beg
      rw [if_neg (fun z => h60 (z.resolve_right (fun q => absurd q.1 (by decide)))), if_neg (by omega)]
    obtain ⟨n5, n6, n7, n8, n15, n10, n11, n12⟩ := hN
    have hBJ := ((hB'.wr (nI S.2.1) (c := 0) (k := 23) (by omega)).wr (nI S.2.1) (c := 9) (k := 120 + e) (by omega)).ended (by omega)
    obtain ⟨g, hSG, hMS⟩ := leafU (σ := am_wr (am_wr (am_wr σ' 0 23 (nI S.2.1)) 9 (120 + e) (nI S.2.1)) 0 35 (nI (e + 1))) (p := (ps_add S 48 (lk tx L S.1)).2.2.2) (n := S.2.1) (kk := S.2.2.1) (e := e) (lc := lc) (c := 48) (dv := 0) (O := O) (by omega) (if_pos rfl) (if_pos rfl) (if_pos rfl) (if_pos rfl) (if_pos rfl) (if_pos rfl) (if_pos rfl) (fun z => absurd z (by decide)) (by omega) (by omega) (by omega) a13 (fun y hy => (a14 y hy).2) (by rw [am_wr_ne _ (by omega), am_wr_ne _ (by omega), am_wr_ne _ (by omega)]; exact n5) (by rw [am_wr_ne _ (by omega), am_wr_ne _ (by omega), am_wr_ne _ (by omega)]; exact n6) (by rw [am_wr_ne _ (by omega), am_wr_ne _ (by omega), am_wr_ne _ (by omega)]; exact n7) (by rw [am_wr_ne _ (by omega), am_wr_ne _ (by omega), am_wr_ne _ (by omega)]; exact n8) (by rw [am_wr_ne _ (by omega), am_wr_ne _ (by omega), am_wr_ne _ (by omega)]; exact n10) (fun y hy => by rw [am_wr_ne _ (by omega), am_wr_ne _ (by omega), am_wr_ne _ (by omega)]; exact n11 y hy) (by rw [am_wr_ne _ (by omega), am_wr_ne _ (by omega), am_wr_ne _ (by omega)]; exact n12) (by rw [am_wr_ne _ (by omega), am_same])
    refine CT.tp hd hqL ?_ a10 (hk (ps_add S 48 (lk tx L S.1)) S.2.1 _ g (lk tx L S.1) (pp_48 hc hb) ⟨?_, ?_, ⟨hMS, by rw [am_wr_ne _ (by omega), am_wr_ne _ (by omega), am_wr_ne _ (by omega)]; exact n15⟩, hSG, hqL⟩ (fun c c1 c2 => ?_))
    · rw [am_diff _ _ _ _ _ (by decide), am_wr_ne _ (by omega), am_diff _ _ _ _ _ (by decide), h0, am_same]
    · show RB _ L tx (lk tx L S.1) (S.2.1 + 1) (S.2.2.1) (e + (S.2.1 + 1 - S.2.1)) lev tr lc O
      rw [show e + (S.2.1 + 1 - S.2.1) = e + 1 by omega]
      exact hBJ
    · exact (((r1.tr hF' (Nat.le_refl _) (Nat.le_refl _) (Nat.le_refl _) (Nat.le_refl _)).tr (RF.wr _ (by omega)) (Nat.le_refl _) (Nat.le_refl _) (Nat.le_refl _) (Nat.le_refl _)).tr (RF.wr _ (by omega)) (Nat.le_refl _) (Nat.le_refl _) (Nat.le_refl _) (Nat.le_refl _)).tr (RF.wr _ (by omega)) (Nat.le_refl _) (Nat.le_refl _) (Nat.le_refl _) (Nat.le_refl _)
    · rw [am_wr_ne _ (by omega), am_wr_ne _ (by omega), am_wr_ne _ (by omega), h20 c c1 (by omega), am_wr_ne _ (by omega)]
set_option maxRecDepth 10000 in
set_option maxHeartbeats 2000000 in
theorem pt_46 {L lev tr lc e d : Nat} {tx O : Nat → Nat} {blk : Option (Nat → Nat → PS → RS)} {S : PS} {σ : am_M} {Q : am_Q} (hd : 12 ≤ d) (hB : RB σ L tx S.1 S.2.1 S.2.2.1 e lev tr lc O) (htr : tr ≤ lev) (h22 : σ.1 0 22 = nI 0) (hf : FA Q σ (p_part tx L blk tr lc S)) (hk : ∀ S' r σ1 g pos, p_part tx L blk tr lc S = .inr (S', r) → SU σ σ1 L tx S S' r e lev tr lc O pos g → (∀ c, 20 ≤ c → c ≤ 26 → σ1.1 c lev = σ.1 c lev) → CT d Q L tx (lk tx L S'.1) lev r σ1) (hc : tk tx L (lk tx L S.1) = 46) : HG d Q σ := by
  obtain ⟨⟨t1, t2, t3⟩, a1, a2, a3, a4, a5, a6, a7, a8, a9, a10, a11, a12, a13, a14⟩ := id hB
  have hql := (lk_le (tx := tx) a1).2
  have hqL : lk tx L S.1 < L := (tkm hB.tx (lk tx L S.1)).2.1 (by omega)
  have e22 : (am_wr σ 0 21 (nI (lk tx L S.1))).1 0 22 = nI 0 := by rw [am_diff _ _ _ _ _ (by decide)]; exact h22
  have r1 : RF σ (am_wr σ 0 21 (nI (lk tx L S.1))) S.2.1 e lev lc := RF.wr _ (by omega)
  refine hg_step hd hB.tx a1 a2 (fun _ => ?_) (fun z => by omega)
  rw [hc]
  refine tok_0 (by omega) e22 (fun d' hd' => am_C_to (Q := TPk d Q (lk tx L S.1)) ?_ (fun _ _ z => z.x))
  refine rp_46 (by omega) (hB.at hql) (fun h60 => ?_) (fun h60 σ' hB' hF' hN h0 h20 => ?_)
  · exact TPk.flt (am_same _ _ _ _) (by decide) (hf 3 (lk tx L S.1) _ (pp_full hc (by decide) (by decide) (if_pos (h60.imp id (fun z => ⟨rfl, z⟩)))) r1.z (am_same _ _ _ _))
  · have hb : p_beg S 46 lc (lk tx L S.1) = .inr (ps_add S 46 (lk tx L S.1)) := by
      unfold p_beg
      rw [if_neg (fun z => h60 (z.imp id (fun q => q.2))), if_neg (by omega)]
    obtain ⟨n5, n6, n7, n8, n15, n10, n11, n12⟩ := hN
    have hBJ := ((hB'.wr (nI S.2.1) (c := 0) (k := 23) (by omega)).wr (nI S.2.1) (c := 9) (k := 120 + e) (by omega)).ended (by omega)
    obtain ⟨g, hSG, hMS⟩ := leafU (σ := am_wr (am_wr (am_wr σ' 0 23 (nI S.2.1)) 9 (120 + e) (nI S.2.1)) 0 35 (nI (e + 1))) (p := (ps_add S 46 (lk tx L S.1)).2.2.2) (n := S.2.1) (kk := S.2.2.1) (e := e) (lc := lc) (c := 46) (dv := 0) (O := O) (by omega) (if_pos rfl) (if_pos rfl) (if_pos rfl) (if_pos rfl) (if_pos rfl) (if_pos rfl) (if_pos rfl) (fun _ => by omega) (by omega) (by omega) (by omega) a13 (fun y hy => (a14 y hy).2) (by rw [am_wr_ne _ (by omega), am_wr_ne _ (by omega), am_wr_ne _ (by omega)]; exact n5) (by rw [am_wr_ne _ (by omega), am_wr_ne _ (by omega), am_wr_ne _ (by omega)]; exact n6) (by rw [am_wr_ne _ (by omega), am_wr_ne _ (by omega), am_wr_ne _ (by omega)]; exact n7) (by rw [am_wr_ne _ (by omega), am_wr_ne _ (by omega), am_wr_ne _ (by omega)]; exact n8) (by rw [am_wr_ne _ (by omega), am_wr_ne _ (by omega), am_wr_ne _ (by omega)]; exact n10) (fun y hy => by rw [am_wr_ne _ (by omega), am_wr_ne _ (by omega), am_wr_ne _ (by omega)]; exact n11 y hy) (by rw [am_wr_ne _ (by omega), am_wr_ne _ (by omega), am_wr_ne _ (by omega)]; exact n12) (by rw [am_wr_ne _ (by omega), am_same])
    refine CT.tp hd hqL ?_ a10 (hk (ps_add S 46 (lk tx L S.1)) S.2.1 _ g (lk tx L S.1) (pp_46 hc hb) ⟨?_, ?_, ⟨hMS, by rw [am_wr_ne _ (by omega), am_wr_ne _ (by omega), am_wr_ne _ (by omega)]; exact n15⟩, hSG, hqL⟩ (fun c c1 c2 => ?_))
    · rw [am_diff _ _ _ _ _ (by decide), am_wr_ne _ (by omega), am_diff _ _ _ _ _ (by decide), h0, am_same]
    · show RB _ L tx (lk tx L S.1) (S.2.1 + 1) (S.2.2.1 + 1) (e + (S.2.1 + 1 - S.2.1)) lev tr lc O
      rw [show e + (S.2.1 + 1 - S.2.1) = e + 1 by omega]
      exact hBJ
    · exact (((r1.tr hF' (Nat.le_refl _) (Nat.le_refl _) (Nat.le_refl _) (Nat.le_refl _)).tr (RF.wr _ (by omega)) (Nat.le_refl _) (Nat.le_refl _) (Nat.le_refl _) (Nat.le_refl _)).tr (RF.wr _ (by omega)) (Nat.le_refl _) (Nat.le_refl _) (Nat.le_refl _) (Nat.le_refl _)).tr (RF.wr _ (by omega)) (Nat.le_refl _) (Nat.le_refl _) (Nat.le_refl _) (Nat.le_refl _)
    · rw [am_wr_ne _ (by omega), am_wr_ne _ (by omega), am_wr_ne _ (by omega), h20 c c1 (by omega), am_wr_ne _ (by omega)]

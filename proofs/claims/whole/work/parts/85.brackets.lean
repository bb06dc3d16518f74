/-! brackets -/
theorem enc_none {tx : Nat → Nat} {L op cl tr lc : Nat} {S : PS} (h : tk tx L (lk tx L S.1) = op) : p_enc tx L none op cl tr lc S = .inl (4, lk tx L S.1) := by
  unfold p_enc
  rw [if_neg (fun z => z h)]
theorem enc_op {tx : Nat → Nat} {L op cl tr lc : Nat} {blk : Option (Nat → Nat → PS → RS)} {S : PS} (h : ¬ tk tx L (lk tx L S.1) = op) : p_enc tx L blk op cl tr lc S = .inl (1, lk tx L S.1) := if_pos h
theorem enc_flt {tx : Nat → Nat} {L op cl tr lc : Nat} {f : Nat → Nat → PS → RS} {S : PS} {x : Nat × Nat} (h : tk tx L (lk tx L S.1) = op) (hx : f tr lc (ps_at S (lk tx L S.1 + 1)) = .inl x) : p_enc tx L (some f) op cl tr lc S = .inl x := by
  unfold p_enc
  rw [if_neg (fun z => z h)]
  show (match f tr lc (ps_at S (lk tx L S.1 + 1)) with
    | .inl e => (.inl e : RS)
    | .inr (S1, r) => if ¬ tk tx L (lk tx L S1.1) = cl then .inl (1, lk tx L S1.1) else .inr (ps_at S1 (lk tx L S1.1 + 1), r)) = _
  rw [hx]
theorem enc_go {tx : Nat → Nat} {L op cl tr lc r : Nat} {f : Nat → Nat → PS → RS} {S S1 : PS} (h : tk tx L (lk tx L S.1) = op) (hx : f tr lc (ps_at S (lk tx L S.1 + 1)) = .inr (S1, r)) : p_enc tx L (some f) op cl tr lc S = if ¬ tk tx L (lk tx L S1.1) = cl then .inl (1, lk tx L S1.1) else .inr (ps_at S1 (lk tx L S1.1 + 1), r) := by
  unfold p_enc
  rw [if_neg (fun z => z h)]
  show (match f tr lc (ps_at S (lk tx L S.1 + 1)) with
    | .inl e => (.inl e : RS)
    | .inr (S1, r) => if ¬ tk tx L (lk tx L S1.1) = cl then .inl (1, lk tx L S1.1) else .inr (ps_at S1 (lk tx L S1.1 + 1), r)) = _
  rw [hx]
set_option maxRecDepth 10000 in
set_option maxHeartbeats 2000000 in
theorem enc_sim1 {L lev tr lc e d : Nat} {tx O : Nat → Nat} {f : Nat → Nat → PS → RS} (hR : RSIM L tx (lev + 1) f) {Q : am_Q} (hd : 12 ≤ d) {S1 : PS} {σ4 : am_M} (hB : RB σ4 L tx S1.1 S1.2.1 S1.2.2.1 e (lev + 1) tr lc O) (hlev : lev < 12) (htr : tr ≤ lev + 1) (h22 : σ4.1 0 22 = nI 0) (h26 : σ4.1 26 (lev + 1) = -1) (h24 : σ4.1 24 (lev + 1) = -1) (hso : σ4.1 20 (lev + 1) = nI 1) (hf1 : FA Q σ4 (f tr lc S1)) (hf2 : ∀ S' r σ1, f tr lc S1 = .inr (S', r) → ¬ tk tx L S'.1 = 41 → lk tx L S'.1 = S'.1 → RF σ4 σ1 0 0 0 0 → σ1.1 0 21 = nI S'.1 → Q (some (.int (nI 1))) σ1) (hc : ∀ S' r σ2 g, f tr lc S1 = .inr (S', r) → tk tx L S'.1 = 41 → lk tx L S'.1 = S'.1 → S'.1 < L → SU σ4 σ2 L tx S1 S' r e (lev + 1) tr lc O S'.1 g → (∀ c, 20 ≤ c → c ≤ 22 → σ2.1 c (lev + 1) = σ4.1 c (lev + 1)) → EPq (TPk d Q S'.1 (some (.int (nI 0)))) (am_wr σ2 0 24 (nI lev)) r) : HG d Q σ4 := by
  refine hR tr lc S1 σ4 O e d Q hd hB htr h22 h26 h24 hf1 (fun S' r σ1 hx hB1 hR1 w22 wlv w59 w124 wlk hE => ?_)
  obtain ⟨n1, e1, hB1⟩ := hB1
  obtain ⟨-, b1, b2, b3, b4, b5, b6, b7, b8, b9, b10, -, b12, b13, b14⟩ := id hB1
  have k2 := tkm hB1.tx S'.1
  have so1 : σ1.1 20 (lev + 1) = nI 1 := (wlv 20 (by decide) (by decide)).trans hso
  refine ⟨fun h256 d' hd' => ?_, fun h256 => ⟨fun z => by omega, fun _ => hf2 S' r σ1 hx (by omega) wlk hR1.z b2⟩⟩
  by_cases hcl : tk tx L S'.1 = 41
  · rw [hcl]
    refine bh_41 (v := r) (by omega) b9 hlev so1 (ERq.to hE (fun σ2 h2 => ?_))
    obtain ⟨⟨g, hU⟩, s23, slv⟩ := h2
    exact ⟨hU.1.2.2.2.2.2.2.2.2.2.1, (slv 20 (by decide) (by decide)).trans hso, s23, hc S' r σ2 g hx hcl wlk (k2.2.1 h256) hU slv⟩
  · exact bh_bad1 (by omega) h256 w59 w124 hcl b9 hlev so1 (TPk.flt b2 (by decide) (hf2 S' r σ1 hx hcl wlk hR1.z b2))
set_option maxRecDepth 10000 in
set_option maxHeartbeats 2000000 in
theorem enc_sim2 {L lev tr lc e d : Nat} {tx O : Nat → Nat} {f : Nat → Nat → PS → RS} (hR : RSIM L tx (lev + 1) f) {Q : am_Q} (hd : 12 ≤ d) {S1 : PS} {σ4 : am_M} (hB : RB σ4 L tx S1.1 S1.2.1 S1.2.2.1 e (lev + 1) tr lc O) (hlev : lev < 12) (htr : tr ≤ lev + 1) (h22 : σ4.1 0 22 = nI 0) (h26 : σ4.1 26 (lev + 1) = -1) (h24 : σ4.1 24 (lev + 1) = -1) (hso : σ4.1 20 (lev + 1) = nI 2) (hf1 : FA Q σ4 (f tr lc S1)) (hf2 : ∀ S' r σ1, f tr lc S1 = .inr (S', r) → ¬ tk tx L S'.1 = 125 → lk tx L S'.1 = S'.1 → RF σ4 σ1 0 0 0 0 → σ1.1 0 21 = nI S'.1 → Q (some (.int (nI 1))) σ1) (hc : ∀ S' r σ2 g, f tr lc S1 = .inr (S', r) → tk tx L S'.1 = 125 → lk tx L S'.1 = S'.1 → S'.1 < L → SU σ4 σ2 L tx S1 S' r e (lev + 1) tr lc O S'.1 g → (∀ c, 20 ≤ c → c ≤ 22 → σ2.1 c (lev + 1) = σ4.1 c (lev + 1)) → ∀ d', 7 ≤ d' → am_C d' 171 [.ref 0, .int (nI r)] σ2 (fun w σ3 => w = none ∧ TPk d Q S'.1 (some (.int (nI 0))) σ3)) : HG d Q σ4 := by
  refine hR tr lc S1 σ4 O e d Q hd hB htr h22 h26 h24 hf1 (fun S' r σ1 hx hB1 hR1 w22 wlv w59 w124 wlk hE => ?_)
  obtain ⟨n1, e1, hB1⟩ := hB1
  obtain ⟨-, b1, b2, b3, b4, b5, b6, b7, b8, b9, b10, -, b12, b13, b14⟩ := id hB1
  have k2 := tkm hB1.tx S'.1
  have so1 : σ1.1 20 (lev + 1) = nI 2 := (wlv 20 (by decide) (by decide)).trans hso
  refine ⟨fun h256 d' hd' => ?_, fun h256 => ⟨fun z => by omega, fun _ => hf2 S' r σ1 hx (by omega) wlk hR1.z b2⟩⟩
  by_cases hcl : tk tx L S'.1 = 125
  · rw [hcl]
    refine bh_125 (v := r) (by omega) b9 hlev so1 (ERq.to hE (fun σ2 h2 => ?_))
    obtain ⟨⟨g, hU⟩, s23, slv⟩ := h2
    exact ⟨hU.1.2.2.2.2.2.2.2.2.2.1, (slv 20 (by decide) (by decide)).trans hso, s23, hc S' r σ2 g hx hcl wlk (k2.2.1 h256) hU slv⟩
  · exact bh_bad2 (by omega) h256 w59 w124 hcl b9 hlev so1 (TPk.flt b2 (by decide) (hf2 S' r σ1 hx hcl wlk hR1.z b2))
/-- what stands in brackets here -/
def BLK (L : Nat) (tx : Nat → Nat) (lev : Nat) (blk : Option (Nat → Nat → PS → RS)) : Prop := (blk = none ∧ lev = 12) ∨ ∃ f, blk = some f ∧ lev < 12 ∧ RSIM L tx (lev + 1) f ∧ FRM f
set_option maxRecDepth 10000 in
set_option maxHeartbeats 2000000 in
theorem pt_bad {L lev tr lc e d : Nat} {tx O : Nat → Nat} {blk : Option (Nat → Nat → PS → RS)} {S : PS} {σ : am_M} {Q : am_Q} (hd : 12 ≤ d) (hB : RB σ L tx S.1 S.2.1 S.2.2.1 e lev tr lc O) (htr : tr ≤ lev) (h22 : σ.1 0 22 = nI 0) (hf : FA Q σ (p_part tx L blk tr lc S)) (hk : ∀ S' r σ1 g pos, p_part tx L blk tr lc S = .inr (S', r) → SU σ σ1 L tx S S' r e lev tr lc O pos g → (∀ c, 20 ≤ c → c ≤ 26 → σ1.1 c lev = σ.1 c lev) → CT d Q L tx (lk tx L S'.1) lev r σ1) (h40 : ¬ tk tx L (lk tx L S.1) = 40) (hb : isF (tk tx L (lk tx L S.1)) = false ∧ isB (tk tx L (lk tx L S.1)) = false) : HG d Q σ := by
  obtain ⟨⟨t1, t2, t3⟩, a1, a2, a3, a4, a5, a6, a7, a8, a9, a10, a11, a12, a13, a14⟩ := id hB
  have e22 : (am_wr σ 0 21 (nI (lk tx L S.1))).1 0 22 = nI 0 := by rw [am_diff _ _ _ _ _ (by decide)]; exact h22
  have r1 : RF σ (am_wr σ 0 21 (nI (lk tx L S.1))) S.2.1 e lev lc := RF.wr _ (by omega)
  have fl := hf 1 (lk tx L S.1) _ (pp_bad h40 hb) r1.z (am_same _ _ _ _)
  refine hg_step hd hB.tx a1 a2 (fun h256 => ?_) (fun z => en_0 (by omega) e22 fl)
  exact tok_0 (by omega) e22 (fun d' hd' => am_C_to (Q := TPk d Q (lk tx L S.1)) (rp_bad (by omega) h256 h40 hb.1 hb.2 (TPk.flt (am_same _ _ _ _) (by decide) fl)) (fun _ _ z => z.x))
set_option maxRecDepth 10000 in
set_option maxHeartbeats 2000000 in
theorem pt_40 {L lev tr lc e d : Nat} {tx O : Nat → Nat} {blk : Option (Nat → Nat → PS → RS)} {S : PS} {σ : am_M} {Q : am_Q} (hd : 12 ≤ d) (hB : RB σ L tx S.1 S.2.1 S.2.2.1 e lev tr lc O) (htr : tr ≤ lev) (h22 : σ.1 0 22 = nI 0) (hf : FA Q σ (p_part tx L blk tr lc S)) (hk : ∀ S' r σ1 g pos, p_part tx L blk tr lc S = .inr (S', r) → SU σ σ1 L tx S S' r e lev tr lc O pos g → (∀ c, 20 ≤ c → c ≤ 26 → σ1.1 c lev = σ.1 c lev) → CT d Q L tx (lk tx L S'.1) lev r σ1) (hK : BLK L tx lev blk) (hc : tk tx L (lk tx L S.1) = 40) : HG d Q σ := by
  obtain ⟨⟨t1, t2, t3⟩, a1, a2, a3, a4, a5, a6, a7, a8, a9, a10, a11, a12, a13, a14⟩ := id hB
  have hql := (lk_le (tx := tx) a1).2
  have hqL : lk tx L S.1 < L := (tkm hB.tx (lk tx L S.1)).2.1 (by omega)
  have e22 : (am_wr σ 0 21 (nI (lk tx L S.1))).1 0 22 = nI 0 := by rw [am_diff _ _ _ _ _ (by decide)]; exact h22
  have r1 : RF σ (am_wr σ 0 21 (nI (lk tx L S.1))) S.2.1 e lev lc := RF.wr _ (by omega)
  refine hg_step hd hB.tx a1 a2 (fun _ => ?_) (fun z => by omega)
  rw [hc]
  refine tok_0 (by omega) e22 (fun d' hd' => am_C_to (Q := TPk d Q (lk tx L S.1)) ?_ (fun _ _ z => z.x))
  have hlk := lk_lk (tx := tx) (q := S.1) t1
  have hop : tk tx L (lk tx L (ps_at S (lk tx L S.1)).1) = 40 := by show tk tx L (lk tx L (lk tx L S.1)) = 40; rw [hlk]; exact hc
  have hpp := pp_40 (blk := blk) (tr := tr) (lc := lc) hc
  rcases hK with ⟨rfl, rfl⟩ | ⟨f, rfl, hlev, hR, hFm⟩
  · refine rp_open12 (by omega) (by rw [am_diff _ _ _ _ _ (by decide)]; exact a9) (TPk.flt (am_same _ _ _ _) (by decide) (hf 4 (lk tx L S.1) _ ?_ r1.z (am_same _ _ _ _)))
    rw [hpp, enc_none hop]
    show (.inl (4, lk tx L (lk tx L S.1)) : RS) = _
    rw [hlk]
  · refine rp_open (lev := lev) (by omega) (by rw [am_diff _ _ _ _ _ (by decide)]; exact a9) hlev ?_
    have hB4 := ((((((((((hB.at hql).level (l := lev + 1) (by omega)).wr (-1) (c := 24) (k := lev + 1) (by omega)).wr (-1) (c := 26) (k := lev + 1) (by omega)).wr (-1) (c := 23) (k := lev + 1) (by omega)).wr (-1) (c := 25) (k := lev + 1) (by omega)).wr (nI 1) (c := 20) (k := lev + 1) (by omega)).wr (-1) (c := 21) (k := lev + 1) (by omega)).wr (nI 0) (c := 22) (k := lev + 1) (by omega)).wr (nI 0) (c := 0) (k := 22) (by omega)).at (q := lk tx L S.1 + 1) (by omega)
    have r4 := ((((((((((RF.wr (c := 0) (k := 21) (nI (lk tx L S.1)) (by omega) : RF σ _ S.2.1 e (lev + 1) lc).tr (RF.wr (c := 0) (k := 24) (nI (lev + 1)) (by omega)) (Nat.le_refl _) (Nat.le_refl _) (Nat.le_refl _) (Nat.le_refl _)).tr (RF.wr (c := 24) (k := lev + 1) (-1) (by omega)) (Nat.le_refl _) (Nat.le_refl _) (Nat.le_refl _) (Nat.le_refl _)).tr (RF.wr (c := 26) (k := lev + 1) (-1) (by omega)) (Nat.le_refl _) (Nat.le_refl _) (Nat.le_refl _) (Nat.le_refl _)).tr (RF.wr (c := 23) (k := lev + 1) (-1) (by omega)) (Nat.le_refl _) (Nat.le_refl _) (Nat.le_refl _) (Nat.le_refl _)).tr (RF.wr (c := 25) (k := lev + 1) (-1) (by omega)) (Nat.le_refl _) (Nat.le_refl _) (Nat.le_refl _) (Nat.le_refl _)).tr (RF.wr (c := 20) (k := lev + 1) (nI 1) (by omega)) (Nat.le_refl _) (Nat.le_refl _) (Nat.le_refl _) (Nat.le_refl _)).tr (RF.wr (c := 21) (k := lev + 1) (-1) (by omega)) (Nat.le_refl _) (Nat.le_refl _) (Nat.le_refl _) (Nat.le_refl _)).tr (RF.wr (c := 22) (k := lev + 1) (nI 0) (by omega)) (Nat.le_refl _) (Nat.le_refl _) (Nat.le_refl _) (Nat.le_refl _)).tr (RF.wr (c := 0) (k := 22) (nI 0) (by omega)) (Nat.le_refl _) (Nat.le_refl _) (Nat.le_refl _) (Nat.le_refl _)).tr (RF.wr (c := 0) (k := 21) (nI (lk tx L S.1 + 1)) (by omega)) (Nat.le_refl _) (Nat.le_refl _) (Nat.le_refl _) (Nat.le_refl _)
    refine TPk.ok (by rw [am_diff _ _ _ _ _ (by decide), am_wr_ne _ (by omega), am_wr_ne _ (by omega), am_wr_ne _ (by omega), am_wr_ne _ (by omega), am_wr_ne _ (by omega), am_wr_ne _ (by omega), am_wr_ne _ (by omega), am_diff _ _ _ _ _ (by decide), am_same]) ?_
    have hS1 : ps_at (ps_at S (lk tx L S.1)) (lk tx L (ps_at S (lk tx L S.1)).1 + 1) = ps_at S (lk tx L S.1 + 1) := by
      show ps_at S (lk tx L (lk tx L S.1) + 1) = _
      rw [hlk]
    refine enc_sim1 (S1 := ps_at S (lk tx L S.1 + 1)) hR hd hB4 hlev (by omega) (by rw [am_diff _ _ _ _ _ (by decide), am_same]) ?_ ?_ ?_ (fun k pl σ3 hx hr h21 => ?_) (fun S' r σ3 hx hcl wlk hr h21 => ?_) (fun S' r σ2 g hx hcl wlk hl hU slv => ?_)
    · rw [am_wr_ne _ (by omega), am_wr_ne _ (by omega), am_wr_ne _ (by omega), am_wr_ne _ (by omega), am_wr_ne _ (by omega), am_wr_ne _ (by omega), am_wr_ne _ (by omega), am_same]
    · rw [am_wr_ne _ (by omega), am_wr_ne _ (by omega), am_wr_ne _ (by omega), am_wr_ne _ (by omega), am_wr_ne _ (by omega), am_wr_ne _ (by omega), am_wr_ne _ (by omega), am_wr_ne _ (by omega), am_same]
    · rw [am_wr_ne _ (by omega), am_wr_ne _ (by omega), am_wr_ne _ (by omega), am_wr_ne _ (by omega), am_same]
    · exact hf k pl σ3 (hpp.trans (enc_flt hop (by rw [hS1]; exact hx))) (r4.z.zt hr) h21
    · refine hf 1 S'.1 σ3 (hpp.trans ((enc_go hop (by rw [hS1]; exact hx)).trans ?_)) (r4.z.zt hr) h21
      rw [wlk, if_pos hcl]
    · obtain ⟨hB2, hR2, hM2, hS2, hL2⟩ := hU
      have r5 : RF σ σ2 S.2.1 e (lev + 1) lc := r4.tr hR2 (Nat.le_refl _) (Nat.le_refl _) (Nat.le_refl _) (Nat.le_refl _)
      have hpe : p_part tx L (some f) tr lc S = .inr (ps_at S' (S'.1 + 1), r) := by
        rw [hpp, enc_go hop (by rw [hS1]; exact hx), wlk, if_neg (fun z => z hcl)]
      refine CT.tp hd hl ?_ a10 (hk (ps_at S' (S'.1 + 1)) r _ g S'.1 hpe ⟨hB2.level (by omega), ?_, ⟨hM2.wr hS2 _ (by omega), by rw [am_wr_ne _ (by omega)]; exact hM2.2⟩, hS2, hl⟩ (fun c c1 c2 => ?_))
      · rw [am_diff _ _ _ _ _ (by decide)]
        exact hB2.2.2.1
      · exact ((RF.rf σ S.2.1 e lev lc).tr r5 (Nat.le_refl _) (Nat.le_refl _) (by omega) (Nat.le_refl _)).tr (RF.wr _ (by omega)) (Nat.le_refl _) (Nat.le_refl _) (Nat.le_refl _) (Nat.le_refl _)
      · rw [am_wr_ne _ (by omega)]
        exact r5.2.2.2.2.2.2.2.1 c lev c1 c2 (by omega)

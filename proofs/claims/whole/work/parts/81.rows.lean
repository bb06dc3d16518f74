/-! parts that ; joins -/
theorem beg_ok {S : PS} {sg lc q : Nat} (hs : sg = 59 ∨ sg = 124) (hn : ¬ 60 ≤ S.2.1) : p_beg S sg lc q = .inr (ps_add S sg q) := by
  unfold p_beg
  rw [if_neg (by rcases hs with rfl | rfl <;> (rintro (z | ⟨z, -⟩) <;> first | exact hn z | exact absurd z (by decide))), if_neg (by omega)]
theorem lop_full {tx : Nat → Nat} {L sg tr lc g l : Nat} {nx : Nat → Nat → PS → RS} {S : PS} (hc : tk tx L (lk tx L S.1) = sg) (hn : 60 ≤ S.2.1) : p_lop tx L sg nx tr lc (g + 1) S l = .inl (3, lk tx L S.1) := by
  rw [lop_s, if_pos hc, show p_beg S sg lc (lk tx L S.1) = .inl (3, lk tx L S.1) from if_pos (Or.inl hn)]
theorem lop_flt {tx : Nat → Nat} {L sg tr lc g l : Nat} {nx : Nat → Nat → PS → RS} {S : PS} {x : Nat × Nat} (hs : sg = 59 ∨ sg = 124) (hc : tk tx L (lk tx L S.1) = sg) (hn : ¬ 60 ≤ S.2.1) (hx : nx tr lc (ps_add S sg (lk tx L S.1)) = .inl x) : p_lop tx L sg nx tr lc (g + 1) S l = .inl x := by
  rw [lop_s, if_pos hc, beg_ok hs hn]
  show (match nx tr lc (ps_add S sg (lk tx L S.1)) with
        | .inl e => (.inl e : RS)
        | .inr (S2, r) => p_lop tx L sg nx tr lc g (ps_ops S2 S.2.1 (l + 1) (r + 1)) S.2.1 : RS) = _
  rw [hx]
theorem lop_go {tx : Nat → Nat} {L sg tr lc g l r : Nat} {nx : Nat → Nat → PS → RS} {S S2 : PS} (hs : sg = 59 ∨ sg = 124) (hc : tk tx L (lk tx L S.1) = sg) (hn : ¬ 60 ≤ S.2.1) (hx : nx tr lc (ps_add S sg (lk tx L S.1)) = .inr (S2, r)) : p_lop tx L sg nx tr lc (g + 1) S l = p_lop tx L sg nx tr lc g (ps_ops S2 S.2.1 (l + 1) (r + 1)) S.2.1 := by
  rw [lop_s, if_pos hc, beg_ok hs hn]
  show (match nx tr lc (ps_add S sg (lk tx L S.1)) with
        | .inl e => (.inl e : RS)
        | .inr (S2, r) => p_lop tx L sg nx tr lc g (ps_ops S2 S.2.1 (l + 1) (r + 1)) S.2.1 : RS) = _
  rw [hx]
theorem lop_no {tx : Nat → Nat} {L sg tr lc g l : Nat} {nx : Nat → Nat → PS → RS} {S : PS} (hc : ¬ tk tx L (lk tx L S.1) = sg) : p_lop tx L sg nx tr lc (g + 1) S l = .inr (ps_at S (lk tx L S.1), l) := by
  rw [lop_s, if_neg hc]
theorem RF.z {σ0 σ1 : am_M} {n e lev nw : Nat} (h : RF σ0 σ1 n e lev nw) : RF σ0 σ1 0 0 0 0 := RF.tr (RF.rf σ0 0 0 0 0) h (Nat.zero_le _) (Nat.zero_le _) (Nat.zero_le _) (Nat.zero_le _)
theorem RF.zt {σ0 σ1 σ2 : am_M} {n e lev nw : Nat} (h : RF σ0 σ1 0 0 0 0) (h' : RF σ1 σ2 n e lev nw) : RF σ0 σ2 0 0 0 0 := RF.tr h h' (Nat.zero_le _) (Nat.zero_le _) (Nat.zero_le _) (Nat.zero_le _)
theorem RB.tx {σ : am_M} {L pos n kk e lev tr nw : Nat} {tx O : Nat → Nat} (h : RB σ L tx pos n kk e lev tr nw O) : TXm σ L tx := h.1
/-- the loop of ; stands behind a part -/
theorem lop59 {L lev tr lc e d : Nat} {tx O : Nat → Nat} {nx : Nat → Nat → PS → RS} (hP : PSIM L tx lev nx) (hF : FRM nx) {Q : am_Q} (hd : 12 ≤ d) (htr : tr ≤ lev) {σ0 : am_M} {S0 : PS} : ∀ (g : Nat) (S : PS) (l : Nat) (σ : am_M) (gg : Nat → Nat → Nat), 61 ≤ g + S.2.1 → S0.2.1 ≤ S.2.1 → SU σ0 σ L tx S0 S l e lev tr lc O (lk tx L S.1) gg → (∀ c, 20 ≤ c → c ≤ 24 → σ.1 c lev = σ0.1 c lev) → σ.1 25 lev = nI l → σ.1 26 lev = -1 → σ.1 0 22 = nI 4 → FA Q σ0 (p_lop tx L 59 nx tr lc g S l) → (∀ S' r σ1 g1, p_lop tx L 59 nx tr lc g S l = .inr (S', r) → SU σ0 σ1 L tx S0 S' r e lev tr lc O S'.1 g1 → (∀ c, 20 ≤ c → c ≤ 24 → σ1.1 c lev = σ0.1 c lev) → σ1.1 25 lev = nI r → σ1.1 26 lev = -1 → σ1.1 0 22 = nI 4 → ¬ tk tx L S'.1 = 59 → lk tx L S'.1 = S'.1 → BH d Q L tx S'.1 lev σ1) → BH d Q L tx (lk tx L S.1) lev σ
  | 0, S, l, σ, gg, hg, _, hU, _, _, _, _, _, _ => by
    have := hU.1.2.2.2.2.1
    omega
  | g + 1, S, l, σ, gg, hg, h0S, hU, hlv, h25, h26, h22, hf, hk => by
    obtain ⟨hB, hR, hM, hS, hSL⟩ := id hU
    obtain ⟨⟨t1, t2, t3⟩, a1, a2, a3, a4, a5, a6, a7, a8, a9, a10, a11, a12, a13, a14⟩ := id hB
    by_cases hc : tk tx L (lk tx L S.1) = 59
    · have hqL : lk tx L S.1 < L := (tkm hB.tx (lk tx L S.1)).2.1 (by omega)
      refine ⟨fun _ d' hd' => ?_, fun z => by omega⟩
      rw [hc]
      refine bh_59 (by omega) hB (fun h60 => ?_) (fun h60 σ' hB' hF' hN h0 h20 => ?_)
      · exact TPk.flt a2 (by decide) (hf 3 _ σ (lop_full hc h60) hR.z a2)
      · have l1 := hS.1
        have l2 := hS.2.1
        have r0 : RF σ' (am_wr (am_wr (am_wr σ' 26 lev (nI S.2.1)) 0 22 (nI 0)) 0 21 (nI (lk tx L S.1 + 1))) (S.2.1 + 1) (e + (S.2.1 - S0.2.1)) lev lc := ((RF.wr _ (by omega)).tr (RF.wr _ (by omega)) (Nat.le_refl _) (Nat.le_refl _) (Nat.le_refl _) (Nat.le_refl _)).tr (RF.wr _ (by omega)) (Nat.le_refl _) (Nat.le_refl _) (Nat.le_refl _) (Nat.le_refl _)
        refine TPk.ok (by rw [am_diff _ _ _ _ _ (by decide), am_wr_ne _ (by omega), h0]; exact a2) ?_
        refine hP tr lc (ps_add S 59 (lk tx L S.1)) _ O (e + (S.2.1 - S0.2.1)) d Q hd (((hB'.wr _ (by omega)).wr _ (by omega)).at (by omega)) htr (by rw [am_diff _ _ _ _ _ (by decide), am_same]) (fun k pl σ3 hx hr h21 => ?_) (fun S2 r2 σ1 g2 pos2 hx hU2 hlv2 => ?_)
        · exact hf k pl σ3 (lop_flt (Or.inl rfl) hc h60 hx) (((hR.z.zt hF').zt r0).zt hr) h21
        · have hp := lop_go (g := g) (l := l) (Or.inl rfl) hc h60 hx
          rw [hp] at hf hk
          have hPF := hF tr lc _ _ _ hx
          obtain ⟨hB2, hR2, hM2, hS2, hL2⟩ := hU2
          obtain ⟨-, b1, b2, b3, b4, b5, b6, b7, b8, b9, b10, -, b12, b13, b14⟩ := id hB2
          have hS2 : SG S2.2.2.2 g2 (S.2.1 + 1) S2.2.1 r2 (e + (S.2.1 - S0.2.1)) lc O := hS2
          have hM2 : MSG σ1 S2.2.2.2 g2 (S.2.1 + 1) S2.2.1 r2 := hM2.1
          have hR2 : RF (am_wr (am_wr (am_wr σ' 26 lev (nI S.2.1)) 0 22 (nI 0)) 0 21 (nI (lk tx L S.1 + 1))) σ1 (S.2.1 + 1) (e + (S.2.1 - S0.2.1)) lev lc := hR2
          have r1 := hS2.1
          have r2' := hS2.2.1
          obtain ⟨E, hE⟩ : ∃ E, E = e + (S.2.1 - S0.2.1) + (S2.2.1 - (S.2.1 + 1)) := ⟨_, rfl⟩
          have b7 : σ1.1 0 35 = nI E := by rw [hE]; exact b7
          have hB2 : RB σ1 L tx pos2 S2.2.1 S2.2.2.1 E lev tr lc O := by rw [hE]; exact hB2
          have h25' : σ1.1 25 lev = nI l := by
            rw [hlv2 25 (by decide) (by decide), am_wr_ne _ (by omega), am_wr_ne _ (by omega), am_wr_ne _ (by omega), h20 25 (by decide) (by decide)]
            exact h25
          have h26' : σ1.1 26 lev = nI S.2.1 := by
            rw [hlv2 26 (by decide) (by decide), am_wr_ne _ (by omega), am_wr_ne _ (by omega), am_same]
          have hold : ∀ w j, j < S.2.1 → S2.2.2.2 w j = S.2.2.2 w j := fun w j hj => (hPF.2.2 w j (by show j < S.2.1 + 1; omega)).trans (ps_add_old S _ _ w hj)
          have hnew : ∀ w, S2.2.2.2 w S.2.1 = (ps_add S 59 (lk tx L S.1)).2.2.2 w S.2.1 := fun w => hPF.2.2 w S.2.1 (by show S.2.1 < S.2.1 + 1; omega)
          have hS1 : SG S2.2.2.2 gg S0.2.1 S.2.1 l e lc O := hS.congr (fun w j _ j2 => hold w j j2) (fun _ _ _ _ _ => rfl) (fun _ _ _ _ => rfl)
          have rA : RF σ σ1 S.2.1 (e + (S.2.1 - S0.2.1)) lev lc := (hF'.tr r0 (by omega) (Nat.le_refl _) (Nat.le_refl _) (Nat.le_refl _)).tr hR2 (by omega) (Nat.le_refl _) (Nat.le_refl _) (Nat.le_refl _)
          have hM1 : MSG σ1 S2.2.2.2 gg S0.2.1 S.2.1 l := (hM.keep rA (Nat.le_refl _) hS (Nat.le_refl _)).congr (fun w j _ j2 => hold w j j2) (fun _ _ _ _ _ => rfl) (fun _ _ _ _ => rfl)
          obtain ⟨n5, n6, n7, n8, n15, n10, n11, n12⟩ := hN
          have kp : ∀ c, (c = 5 ∨ c = 6 ∨ c = 7 ∨ c = 8 ∨ c = 10 ∨ c = 12 ∨ c = 15) → σ1.1 c (120 + S.2.1) = σ'.1 c (120 + S.2.1) := fun c hc => (hR2.2.2.2.2.1 c _ hc (by omega)).trans (r0.2.2.2.2.1 c _ hc (by omega))
          obtain ⟨g', hSG, hMS⟩ := JB (σ := σ1) (S2 := S2) (g1 := gg) (g2 := g2) (n0 := S0.2.1) (k := S.2.1) (n2 := S2.2.1) (l := l) (r := r2) (e := e) (D := lc) (E := E) (c := 59) (O := O) (Or.inl rfl) hS1 hM1 hS2 hM2 ((hnew 0).trans (if_pos rfl)) ((hnew 1).trans (if_pos rfl)) (by omega) a13 (fun y hy => (a14 y hy).2) (by rw [kp 5 (by omega)]; exact n5) (by rw [kp 6 (by omega)]; exact n6) (by rw [kp 10 (by omega)]; exact n10) (fun y hy => by rw [hR2.2.2.2.2.2.1 _ (by omega), r0.2.2.2.2.2.1 _ (by omega)]; exact n11 y hy) (by rw [kp 12 (by omega)]; exact n12)
          intro d1 hd1
          refine c_m_endsPart1 hd1 b9 b10 h26' h25' b7 (by omega) (by omega) (by omega) (by omega) ?_
          have hBJ := (((((((((hB2.wr (nI l) (c := 7) (k := 120 + S.2.1) (by omega)).wr (nI r2) (c := 8) (k := 120 + S.2.1) (by omega)).wr (nI S.2.1) (c := 15) (k := 120 + l) (by omega)).wr (nI S.2.1) (c := 15) (k := 120 + r2) (by omega)).wr (nI S.2.1) (c := 9) (k := 120 + E) (by omega)).ended (by omega)).wr (nI S.2.1) (c := 25) (k := lev) (by omega)).wr (-1) (c := 26) (k := lev) (by omega)).wr (nI 4) (c := 0) (k := 22) (by omega))
          refine ⟨rfl, am_same _ _ _ _, by rw [am_diff _ _ _ _ _ (by decide), am_wr_ne _ (by omega), am_wr_ne _ (by omega), am_diff _ _ _ _ _ (by decide), am_wr_ne _ (by omega), am_wr_ne _ (by omega), am_wr_ne _ (by omega), am_wr_ne _ (by omega), am_wr_ne _ (by omega)]; exact b9, by rw [am_diff _ _ _ _ _ (by decide), am_wr_ne _ (by omega), am_wr_ne _ (by omega), am_diff _ _ _ _ _ (by decide), am_wr_ne _ (by omega), am_wr_ne _ (by omega), am_wr_ne _ (by omega), am_wr_ne _ (by omega), am_wr_ne _ (by omega)], hBJ.tx, ?_⟩
          have hq2 := (lk_le (tx := tx) hL2).2
          refine lop59 hP hF hd htr g (ps_ops S2 S.2.1 (l + 1) (r2 + 1)) S.2.1 _ g' (by show 61 ≤ g + S2.2.1; omega) (by show S0.2.1 ≤ S2.2.1; omega) ⟨?_, ?_, ?_, hSG, hL2⟩ (fun c c1 c2 => ?_) ?_ ?_ ?_ hf hk
          · show RB _ L tx (lk tx L S2.1) S2.2.1 S2.2.2.1 (e + (S2.2.1 - S0.2.1)) lev tr lc O
            rw [show e + (S2.2.1 - S0.2.1) = E + 1 by omega]
            exact hBJ.at hq2
          · exact (((((((((((hR.tr rA h0S (by omega) (Nat.le_refl _) (Nat.le_refl _)).tr (RF.wr _ (by omega)) (Nat.le_refl _) (Nat.le_refl _) (Nat.le_refl _) (Nat.le_refl _)).tr (RF.wr _ (by omega)) (Nat.le_refl _) (Nat.le_refl _) (Nat.le_refl _) (Nat.le_refl _)).tr (RF.wr _ (by omega)) (Nat.le_refl _) (Nat.le_refl _) (Nat.le_refl _) (Nat.le_refl _)).tr (RF.wr _ (by omega)) (Nat.le_refl _) (Nat.le_refl _) (Nat.le_refl _) (Nat.le_refl _)).tr (RF.wr _ (by omega)) (Nat.le_refl _) (Nat.le_refl _) (Nat.le_refl _) (Nat.le_refl _)).tr (RF.wr _ (by omega)) (Nat.le_refl _) (Nat.le_refl _) (Nat.le_refl _) (Nat.le_refl _)).tr (RF.wr _ (by omega)) (Nat.le_refl _) (Nat.le_refl _) (Nat.le_refl _) (Nat.le_refl _)).tr (RF.wr _ (by omega)) (Nat.le_refl _) (Nat.le_refl _) (Nat.le_refl _) (Nat.le_refl _)).tr (RF.wr _ (by omega)) (Nat.le_refl _) (Nat.le_refl _) (Nat.le_refl _) (Nat.le_refl _)).tr (RF.wr _ (by omega)) (Nat.le_refl _) (Nat.le_refl _) (Nat.le_refl _) (Nat.le_refl _))
          · exact ⟨(((hMS.wr hSG _ (by omega)).wr hSG _ (by omega)).wr hSG _ (by omega)).wr hSG _ (by omega), by rw [am_ne2 _ (by omega), am_ne2 _ (by omega), am_ne2 _ (by omega), am_ne2 _ (by omega), am_ne2 _ (by omega), am_ne2 _ (by omega), am_ne2 _ (by omega), am_ne2 _ (by omega), am_ne2 _ (by omega), am_ne2 _ (by omega), kp 15 (by omega)]; exact n15⟩
          · rw [am_wr_ne _ (by omega), am_wr_ne _ (by omega), am_wr_ne _ (by omega), am_wr_ne _ (by omega), am_wr_ne _ (by omega), am_wr_ne _ (by omega), am_wr_ne _ (by omega), am_wr_ne _ (by omega), am_wr_ne _ (by omega), am_wr_ne _ (by omega), hlv2 c c1 (by omega), am_wr_ne _ (by omega), am_wr_ne _ (by omega), am_wr_ne _ (by omega), h20 c c1 (by omega)]
            exact hlv c c1 c2
          · rw [am_wr_ne _ (by omega), am_wr_ne _ (by omega), am_wr_ne _ (by omega), am_same]
          · rw [am_wr_ne _ (by omega), am_wr_ne _ (by omega), am_same]
          · rw [am_diff _ _ _ _ _ (by decide), am_same]
    · exact hk (ps_at S (lk tx L S.1)) l σ gg (lop_no hc) ⟨hB, hR, hM, hS, a1⟩ hlv h25 h26 h22 hc (lk_lk t1)
theorem row_flt {tx : Nat → Nat} {L sg tr lc : Nat} {nx : Nat → Nat → PS → RS} {S : PS} {x : Nat × Nat} (hx : nx tr lc S = .inl x) : p_row tx L sg nx tr lc S = .inl x := by
  unfold p_row
  rw [hx]
theorem row_go {tx : Nat → Nat} {L sg tr lc l : Nat} {nx : Nat → Nat → PS → RS} {S S1 : PS} (hx : nx tr lc S = .inr (S1, l)) : p_row tx L sg nx tr lc S = p_lop tx L sg nx tr lc 120 S1 l := by
  unfold p_row
  rw [hx]
theorem row59 {L lev : Nat} {tx : Nat → Nat} {nx : Nat → Nat → PS → RS} (hP : PSIM L tx lev nx) (hF : FRM nx) : QSIM L tx lev (p_row tx L 59 nx) := by
  intro tr lc S σ O e d Q hd hB htr h22 h26 hf hk
  refine hP tr lc S σ O e d Q hd hB htr h22 (fun k pl σ' hx hr h21 => hf k pl σ' (row_flt hx) hr h21) (fun S1 l σ1 g pos hx hU hlv => ?_)
  rw [row_go hx] at hf hk
  obtain ⟨hB1, hR1, hM1, hS1, hL1⟩ := hU
  obtain ⟨-, b1, b2, b3, b4, b5, b6, b7, b8, b9, b10, -, b12, b13, b14⟩ := id hB1
  have s1 := hS1.1
  have s2 := hS1.2.1
  have hq2 := (lk_le (tx := tx) hL1).2
  have hBJ := (hB1.wr (nI l) (c := 25) (k := lev) (by omega)).wr (nI 4) (c := 0) (k := 22) (by omega)
  intro d1 hd1
  refine c_m_endsPart0 hd1 b9 b10 ((hlv 26 (by decide) (by decide)).trans h26) ?_
  refine ⟨rfl, am_same _ _ _ _, by rw [am_diff _ _ _ _ _ (by decide), am_wr_ne _ (by omega)]; exact b9, by rw [am_diff _ _ _ _ _ (by decide), am_wr_ne _ (by omega)], hBJ.tx, ?_⟩
  refine lop59 hP hF hd htr 120 S1 l _ g (by omega) (by omega) ⟨hBJ.at hq2, (((hR1.tr (RF.wr _ (by omega)) (Nat.le_refl _) (Nat.le_refl _) (Nat.le_refl _) (Nat.le_refl _)).tr (RF.wr _ (by omega)) (Nat.le_refl _) (Nat.le_refl _) (Nat.le_refl _) (Nat.le_refl _)).tr (RF.wr _ (by omega)) (Nat.le_refl _) (Nat.le_refl _) (Nat.le_refl _) (Nat.le_refl _)), ⟨((hM1.wr hS1 _ (by omega)).wr hS1 _ (by omega)).wr hS1 _ (by omega), by rw [am_wr_ne _ (by omega), am_wr_ne _ (by omega), am_wr_ne _ (by omega)]; exact hM1.2⟩, hS1, hL1⟩ (fun c c1 c2 => ?_) ?_ ?_ ?_ hf hk
  · rw [am_wr_ne _ (by omega), am_wr_ne _ (by omega), am_wr_ne _ (by omega)]
    exact hlv c c1 (by omega)
  · rw [am_wr_ne _ (by omega), am_wr_ne _ (by omega), am_same]
  · rw [am_wr_ne _ (by omega), am_wr_ne _ (by omega), am_wr_ne _ (by omega), hlv 26 (by decide) (by decide)]
    exact h26
  · rw [am_diff _ _ _ _ _ (by decide), am_same]

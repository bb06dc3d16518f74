/-! rows that | joins -/
theorem lop124 {L lev tr lc e d : Nat} {tx O : Nat → Nat} {nx : Nat → Nat → PS → RS} (hQ : QSIM L tx lev nx) (hF : FRM nx) {Q : am_Q} (hd : 12 ≤ d) (htr : tr ≤ lev) {σ0 : am_M} {S0 : PS} : ∀ (g : Nat) (S : PS) (l : Nat) (σ : am_M) (e1 : Nat), 61 ≤ g + S.2.1 → S0.2.1 ≤ S.2.1 → RB σ L tx (lk tx L S.1) S.2.1 S.2.2.1 e1 lev tr lc O → RF σ0 σ S0.2.1 e lev lc → σ.1 0 22 = nI 4 → (∀ c, 20 ≤ c → c ≤ 22 → σ.1 c lev = σ0.1 c lev) → ¬ tk tx L (lk tx L S.1) = 59 → ERq (fun σ2 => ∃ g2, SU σ0 σ2 L tx S0 S l e lev tr lc O (lk tx L S.1) g2 ∧ σ2.1 23 lev = nI l ∧ σ2.1 24 lev = -1 ∧ σ2.1 26 lev = -1 ∧ ∀ c, 20 ≤ c → c ≤ 22 → σ2.1 c lev = σ0.1 c lev) σ → FA Q σ0 (p_lop tx L 124 nx tr lc g S l) → (∀ S' r σ1, p_lop tx L 124 nx tr lc g S l = .inr (S', r) → (∃ n1 e1, RB σ1 L tx S'.1 n1 S'.2.2.1 e1 lev tr lc O) → RF σ0 σ1 S0.2.1 e lev lc → σ1.1 0 22 = nI 4 → (∀ c, 20 ≤ c → c ≤ 22 → σ1.1 c lev = σ0.1 c lev) → ¬ tk tx L S'.1 = 59 → ¬ tk tx L S'.1 = 124 → lk tx L S'.1 = S'.1 → ERq (fun σ2 => (∃ g, SU σ0 σ2 L tx S0 S' r e lev tr lc O S'.1 g) ∧ σ2.1 23 lev = nI r ∧ (∀ c, 20 ≤ c → c ≤ 22 → σ2.1 c lev = σ0.1 c lev)) σ1 → BH d Q L tx S'.1 lev σ1) → BH d Q L tx (lk tx L S.1) lev σ
  | 0, S, l, σ, e1, hg, _, hB, _, _, _, _, _, _, _ => by
    have := hB.2.2.2.2.1
    omega
  | g + 1, S, l, σ, e1, hg, h0S, hB, hR, h22, hlv, h59, hE, hf, hk => by
    obtain ⟨⟨t1, t2, t3⟩, a1, a2, a3, a4, a5, a6, a7, a8, a9, a10, a11, a12, a13, a14⟩ := id hB
    by_cases hc : tk tx L (lk tx L S.1) = 124
    · have hqL : lk tx L S.1 < L := (tkm hB.tx (lk tx L S.1)).2.1 (by omega)
      refine ⟨fun _ d' hd' => ?_, fun z => by omega⟩
      rw [hc]
      refine bh_124 (e1 := e + (S.2.1 - S0.2.1)) (by omega) hB (fun h60 => ?_) (fun h60 => ERq.to hE (fun σ1 h1 => ?_))
      · exact TPk.flt a2 (by decide) (hf 3 _ σ (lop_full hc h60) hR.z a2)
      · obtain ⟨gg, ⟨hB1, hR1, hM1, hS1, hL1⟩, s23, s24, s26, hl1⟩ := h1
        refine ⟨hB1, fun σ' hB' hF' hN h0 h20 => ?_⟩
        have c8 := hB1.2.2.2.2.2.2.2.2.1
        have l1 := hS1.1
        have l2 := hS1.2.1
        have r0 : RF σ' (am_wr (am_wr (am_wr σ' 24 lev (nI S.2.1)) 0 22 (nI 0)) 0 21 (nI (lk tx L S.1 + 1))) (S.2.1 + 1) (e + (S.2.1 - S0.2.1)) lev lc := ((RF.wr _ (by omega)).tr (RF.wr _ (by omega)) (Nat.le_refl _) (Nat.le_refl _) (Nat.le_refl _) (Nat.le_refl _)).tr (RF.wr _ (by omega)) (Nat.le_refl _) (Nat.le_refl _) (Nat.le_refl _) (Nat.le_refl _)
        refine TPk.ok (by rw [am_diff _ _ _ _ _ (by decide), am_wr_ne _ (by omega), h0]; exact hB1.2.2.1) ?_
        refine hQ tr lc (ps_add S 124 (lk tx L S.1)) _ O (e + (S.2.1 - S0.2.1)) d Q hd (((hB'.wr _ (by omega)).wr _ (by omega)).at (by omega)) htr (by rw [am_diff _ _ _ _ _ (by decide), am_same]) (by rw [am_wr_ne _ (by omega), am_wr_ne _ (by omega), am_wr_ne _ (by omega), h20 26 (by decide) (by decide)]; exact s26) (fun k pl σ3 hx hr h21 => ?_) (fun S2 r2 σ3 g2 hx hU2 hlv2 w25 w26 w22 w59 wlk => ?_)
        · exact hf k pl σ3 (lop_flt (Or.inr rfl) hc h60 hx) (((hR1.z.zt hF').zt r0).zt hr) h21
        · have hp := lop_go (g := g) (l := l) (Or.inr rfl) hc h60 hx
          rw [hp] at hf hk
          have hPF := hF tr lc _ _ _ hx
          obtain ⟨hB2, hR2, hM2, hS2, hL2⟩ := hU2
          obtain ⟨-, b1, b2, b3, b4, b5, b6, b7, b8, b9, b10, -, b12, b13, b14⟩ := id hB2
          have hS2 : SG S2.2.2.2 g2 (S.2.1 + 1) S2.2.1 r2 (e + (S.2.1 - S0.2.1)) lc O := hS2
          have hM2 : MSG σ3 S2.2.2.2 g2 (S.2.1 + 1) S2.2.1 r2 := hM2.1
          have hR2 : RF (am_wr (am_wr (am_wr σ' 24 lev (nI S.2.1)) 0 22 (nI 0)) 0 21 (nI (lk tx L S.1 + 1))) σ3 (S.2.1 + 1) (e + (S.2.1 - S0.2.1)) lev lc := hR2
          have r1 := hS2.1
          have r2' := hS2.2.1
          obtain ⟨E, hEE⟩ : ∃ E, E = e + (S.2.1 - S0.2.1) + (S2.2.1 - (S.2.1 + 1)) := ⟨_, rfl⟩
          have b7 : σ3.1 0 35 = nI E := by rw [hEE]; exact b7
          have hB2 : RB σ3 L tx S2.1 S2.2.1 S2.2.2.1 E lev tr lc O := by rw [hEE]; exact hB2
          have h23' : σ3.1 23 lev = nI l := by
            rw [hlv2 23 (by decide) (by decide), am_wr_ne _ (by omega), am_wr_ne _ (by omega), am_wr_ne _ (by omega), h20 23 (by decide) (by decide)]
            exact s23
          have h24' : σ3.1 24 lev = nI S.2.1 := by
            rw [hlv2 24 (by decide) (by decide), am_wr_ne _ (by omega), am_wr_ne _ (by omega), am_same]
          have hlv3 : ∀ c, 20 ≤ c → c ≤ 22 → σ3.1 c lev = σ0.1 c lev := fun c c1 c2 => by
            rw [hlv2 c c1 (by omega), am_wr_ne _ (by omega), am_wr_ne _ (by omega), am_wr_ne _ (by omega), h20 c c1 (by omega)]
            exact hl1 c c1 c2
          have hold : ∀ w j, j < S.2.1 → S2.2.2.2 w j = S.2.2.2 w j := fun w j hj => (hPF.2.2 w j (by show j < S.2.1 + 1; omega)).trans (ps_add_old S _ _ w hj)
          have hnew : ∀ w, S2.2.2.2 w S.2.1 = (ps_add S 124 (lk tx L S.1)).2.2.2 w S.2.1 := fun w => hPF.2.2 w S.2.1 (by show S.2.1 < S.2.1 + 1; omega)
          have hS1' : SG S2.2.2.2 gg S0.2.1 S.2.1 l e lc O := hS1.congr (fun w j _ j2 => hold w j j2) (fun _ _ _ _ _ => rfl) (fun _ _ _ _ => rfl)
          have rA : RF σ1 σ3 S.2.1 (e + (S.2.1 - S0.2.1)) lev lc := (hF'.tr r0 (by omega) (Nat.le_refl _) (Nat.le_refl _) (Nat.le_refl _)).tr hR2 (by omega) (Nat.le_refl _) (Nat.le_refl _) (Nat.le_refl _)
          have hM1' : MSG σ3 S2.2.2.2 gg S0.2.1 S.2.1 l := (hM1.keep rA (Nat.le_refl _) hS1 (Nat.le_refl _)).congr (fun w j _ j2 => hold w j j2) (fun _ _ _ _ _ => rfl) (fun _ _ _ _ => rfl)
          obtain ⟨n5, n6, n7, n8, n15, n10, n11, n12⟩ := hN
          have kp : ∀ c, (c = 5 ∨ c = 6 ∨ c = 7 ∨ c = 8 ∨ c = 10 ∨ c = 12 ∨ c = 15) → σ3.1 c (120 + S.2.1) = σ'.1 c (120 + S.2.1) := fun c hc => (hR2.2.2.2.2.1 c _ hc (by omega)).trans (r0.2.2.2.2.1 c _ hc (by omega))
          obtain ⟨g', hSG, hMS⟩ := JB (σ := σ3) (S2 := S2) (g1 := gg) (g2 := g2) (n0 := S0.2.1) (k := S.2.1) (n2 := S2.2.1) (l := l) (r := r2) (e := e) (D := lc) (E := E) (c := 124) (O := O) (Or.inr rfl) hS1' hM1' hS2 hM2 ((hnew 0).trans (if_pos rfl)) ((hnew 1).trans (if_pos rfl)) (by omega) a13 (fun y hy => (a14 y hy).2) (by rw [kp 5 (by omega)]; exact n5) (by rw [kp 6 (by omega)]; exact n6) (by rw [kp 10 (by omega)]; exact n10) (fun y hy => by rw [hR2.2.2.2.2.2.1 _ (by omega), r0.2.2.2.2.2.1 _ (by omega)]; exact n11 y hy) (by rw [kp 12 (by omega)]; exact n12)
          have hRz : RF σ0 σ3 S0.2.1 e lev lc := hR1.tr rA h0S (by omega) (Nat.le_refl _) (Nat.le_refl _)
          have fin := lop124 hQ hF hd htr g (ps_ops S2 S.2.1 (l + 1) (r2 + 1)) S.2.1 σ3 E (by show 61 ≤ g + S2.2.1; omega) (by show S0.2.1 ≤ S2.2.1; omega) (by show RB σ3 L tx (lk tx L S2.1) S2.2.1 S2.2.2.1 E lev tr lc O; rw [wlk]; exact hB2) hRz w22 hlv3 (by show ¬ tk tx L (lk tx L S2.1) = 59; rw [wlk]; exact w59) ?_ hf hk
          · have fin : BH d Q L tx (lk tx L S2.1) lev σ3 := fin
            rw [wlk] at fin
            exact fin
          · intro d1 hd1
            refine c_m_endsRow1 hd1 b9 b10 h24' h23' w25 b7 (by omega) (by omega) (by omega) (by omega) ?_
            have hBJ := (((((((hB2.wr (nI l) (c := 7) (k := 120 + S.2.1) (by omega)).wr (nI r2) (c := 8) (k := 120 + S.2.1) (by omega)).wr (nI S.2.1) (c := 15) (k := 120 + l) (by omega)).wr (nI S.2.1) (c := 15) (k := 120 + r2) (by omega)).wr (nI S.2.1) (c := 9) (k := 120 + E) (by omega)).ended (by omega)).wr (nI S.2.1) (c := 23) (k := lev) (by omega)).wr (-1) (c := 24) (k := lev) (by omega)
            refine ⟨rfl, g', ⟨?_, ?_, ?_, hSG, hL2⟩, ?_, am_same _ _ _ _, ?_, fun c c1 c2 => ?_⟩
            · show RB _ L tx (lk tx L S2.1) S2.2.1 S2.2.2.1 (e + (S2.2.1 - S0.2.1)) lev tr lc O
              rw [show e + (S2.2.1 - S0.2.1) = E + 1 by omega, wlk]
              exact hBJ
            · exact ((((((((((hR1.tr rA h0S (by omega) (Nat.le_refl _) (Nat.le_refl _))).tr (RF.wr _ (by omega)) (Nat.le_refl _) (Nat.le_refl _) (Nat.le_refl _) (Nat.le_refl _)).tr (RF.wr _ (by omega)) (Nat.le_refl _) (Nat.le_refl _) (Nat.le_refl _) (Nat.le_refl _)).tr (RF.wr _ (by omega)) (Nat.le_refl _) (Nat.le_refl _) (Nat.le_refl _) (Nat.le_refl _)).tr (RF.wr _ (by omega)) (Nat.le_refl _) (Nat.le_refl _) (Nat.le_refl _) (Nat.le_refl _)).tr (RF.wr _ (by omega)) (Nat.le_refl _) (Nat.le_refl _) (Nat.le_refl _) (Nat.le_refl _)).tr (RF.wr _ (by omega)) (Nat.le_refl _) (Nat.le_refl _) (Nat.le_refl _) (Nat.le_refl _)).tr (RF.wr _ (by omega)) (Nat.le_refl _) (Nat.le_refl _) (Nat.le_refl _) (Nat.le_refl _)).tr (RF.wr _ (by omega)) (Nat.le_refl _) (Nat.le_refl _) (Nat.le_refl _) (Nat.le_refl _))
            · exact ⟨(hMS.wr hSG _ (by omega)).wr hSG _ (by omega), by rw [am_ne2 _ (by omega), am_ne2 _ (by omega), am_ne2 _ (by omega), am_ne2 _ (by omega), am_ne2 _ (by omega), am_ne2 _ (by omega), am_ne2 _ (by omega), am_ne2 _ (by omega), kp 15 (by omega)]; exact n15⟩
            · rw [am_wr_ne _ (by omega), am_same]
            · rw [am_wr_ne _ (by omega), am_wr_ne _ (by omega), am_wr_ne _ (by omega), am_wr_ne _ (by omega), am_wr_ne _ (by omega), am_wr_ne _ (by omega), am_wr_ne _ (by omega), am_wr_ne _ (by omega)]
              exact w26
            · rw [am_wr_ne _ (by omega), am_wr_ne _ (by omega), am_wr_ne _ (by omega), am_wr_ne _ (by omega), am_wr_ne _ (by omega), am_wr_ne _ (by omega), am_wr_ne _ (by omega), am_wr_ne _ (by omega)]
              exact hlv3 c c1 c2
    · exact hk (ps_at S (lk tx L S.1)) l σ (lop_no hc) ⟨_, _, hB⟩ hR h22 hlv h59 hc (lk_lk t1) (ERq.to hE (fun σ2 h2 => by
        obtain ⟨g2, ⟨u1, u2, u3, u4, u5⟩, s23, s24, s26, hl⟩ := h2
        exact ⟨⟨g2, u1, u2, u3, u4, a1⟩, s23, hl⟩))
theorem row124 {L lev : Nat} {tx : Nat → Nat} {nx : Nat → Nat → PS → RS} (hQ : QSIM L tx lev nx) (hF : FRM nx) : RSIM L tx lev (p_row tx L 124 nx) := by
  intro tr lc S σ O e d Q hd hB htr h22 h26 h24 hf hk
  refine hQ tr lc S σ O e d Q hd hB htr h22 h26 (fun k pl σ' hx hr h21 => hf k pl σ' (row_flt hx) hr h21) (fun S1 l σ1 g hx hU hlv w25 w26 w22 w59 wlk => ?_)
  rw [row_go hx] at hf hk
  obtain ⟨hB1, hR1, hM1, hS1, hL1⟩ := hU
  obtain ⟨-, b1, b2, b3, b4, b5, b6, b7, b8, b9, b10, -, b12, b13, b14⟩ := id hB1
  have s1 := hS1.1
  have s2 := hS1.2.1
  have fin := lop124 hQ hF hd htr (σ0 := σ) (S0 := S) (e := e) 120 S1 l σ1 (e + (S1.2.1 - S.2.1)) (by omega) (by omega) (by rw [wlk]; exact hB1) hR1 w22 (fun c c1 c2 => hlv c c1 (by omega)) (by rw [wlk]; exact w59) ?_ hf hk
  · rw [wlk] at fin
    exact fin
  · intro d1 hd1
    refine c_m_endsRow0 hd1 b9 b10 ((hlv 24 (by decide) (by decide)).trans h24) w25 ?_
    refine ⟨rfl, g, ⟨by rw [wlk]; exact hB1.wr _ (by omega), hR1.tr (RF.wr _ (by omega)) (Nat.le_refl _) (Nat.le_refl _) (Nat.le_refl _) (Nat.le_refl _), ⟨hM1.wr hS1 _ (by omega), by rw [am_wr_ne _ (by omega)]; exact hM1.2⟩, hS1, hL1⟩, am_same _ _ _ _, ?_, ?_, fun c c1 c2 => ?_⟩
    · rw [am_wr_ne _ (by omega), hlv 24 (by decide) (by decide)]
      exact h24
    · rw [am_wr_ne _ (by omega)]
      exact w26
    · rw [am_wr_ne _ (by omega)]
      exact hlv c c1 (by omega)

/-! the choice: behind its first block -/
theorem blk_63 {tx : Nat → Nat} {L tr lc st r : Nat} {blk : Option (Nat → Nat → PS → RS)} {S S3 : PS} (hx : p_enc tx L blk 123 125 tr lc S = .inr (S3, r)) : p_blk tx L blk 63 tr lc st S = (if tk tx L (lk tx L S3.1) = 123 then (match p_enc tx L blk 123 125 tr lc (ps_at S3 (lk tx L S3.1)) with
        | .inl e => .inl e
        | .inr (S4, g) => .inr (ps_ops S4 st (r + 1) (g + 1), st))
      else .inr (ps_ops (ps_at S3 (lk tx L S3.1)) st (r + 1) 0, st)) := by
  have h : p_blk tx L blk 63 tr lc st S = (match p_enc tx L blk 123 125 tr lc S with
    | .inl e => .inl e
    | .inr (S3, f) => (if tk tx L (lk tx L S3.1) = 123 then (match p_enc tx L blk 123 125 tr lc (ps_at S3 (lk tx L S3.1)) with
        | .inl e => .inl e
        | .inr (S4, g) => .inr (ps_ops S4 st (f + 1) (g + 1), st))
      else .inr (ps_ops (ps_at S3 (lk tx L S3.1)) st (f + 1) 0, st))) := rfl
  rw [h, hx]
set_option maxRecDepth 10000 in
set_option maxHeartbeats 2000000 in
theorem bk_63b {L lev tr lc e E d dv r : Nat} {tx O : Nat → Nat} {blk : Option (Nat → Nat → PS → RS)} {S S3 : PS} {σ σ4 : am_M} {g : Nat → Nat → Nat} {Q : am_Q} {X : RS} (hd : 12 ≤ d) (hK : BLK L tx lev blk) (hB : RB σ4 L tx S3.1 S3.2.1 S3.2.2.1 E lev tr lc O) (hE : E = e + (S3.2.1 - (S.2.1 + 1))) (he : e ≤ S.2.1) (htr : tr ≤ lev) (h22 : σ4.1 0 22 = nI 5) (n7 : σ4.1 7 (120 + S.2.1) = nI r) (nr15 : σ4.1 15 (120 + r) = nI S.2.1) (hN : NDs σ4 S.2.1 63 dv lc O S3.2.2.2) (r0 : RF σ σ4 S.2.1 e lev lc) (hlv : ∀ c, 20 ≤ c → c ≤ 26 → σ4.1 c lev = σ.1 c lev) (hS1 : SG S3.2.2.2 g (S.2.1 + 1) S3.2.1 r e lc O) (hM1 : MSG σ4 S3.2.2.2 g (S.2.1 + 1) S3.2.1 r) (x1 : ¬ tk tx L (lk tx L S3.1) = 123 → X = .inr (ps_ops (ps_at S3 (lk tx L S3.1)) S.2.1 (r + 1) 0, S.2.1)) (x2 : tk tx L (lk tx L S3.1) = 123 → ∀ y, p_enc tx L blk 123 125 tr lc (ps_at S3 (lk tx L S3.1)) = .inl y → X = .inl y) (x3 : tk tx L (lk tx L S3.1) = 123 → ∀ S4 q, p_enc tx L blk 123 125 tr lc (ps_at S3 (lk tx L S3.1)) = .inr (S4, q) → X = .inr (ps_ops S4 S.2.1 (r + 1) (q + 1), S.2.1)) (hf : FA Q σ X) (hk : ∀ S' σ1 g pos, X = .inr (S', S.2.1) → SU σ σ1 L tx S S' S.2.1 e lev tr lc O pos g → (∀ c, 20 ≤ c → c ≤ 26 → σ1.1 c lev = σ.1 c lev) → CT d Q L tx (lk tx L S'.1) lev S.2.1 σ1) : HG d Q σ4 := by
  obtain ⟨⟨t1, t2, t3⟩, a1, a2, a3, a4, a5, a6, a7, a8, a9, a10, a11, a12, a13, a14⟩ := id hB
  obtain ⟨⟨n23, n5, n6, n8, n10, n11, n12, n15⟩, p0, p1, d8, dS⟩ := hN
  have hql := (lk_le (tx := tx) a1).2
  have v1 := hS1.1
  have v2 := hS1.2.1
  have q6 : S3.2.2.2 6 r = S.2.1 + 1 := hS1.2.2.1
  have q7 : S3.2.2.2 7 r + 1 = S3.2.1 := hS1.2.2.2.1
  have hlk := lk_lk (tx := tx) (q := S3.1) t1
  have k2 := tkm hB.tx (lk tx L S3.1)
  have r1 : RF σ (am_wr σ4 0 21 (nI (lk tx L S3.1))) S.2.1 e lev lc := r0.tr (RF.wr _ (by omega)) (Nat.le_refl _) (Nat.le_refl _) (Nat.le_refl _) (Nat.le_refl _)
  by_cases hc : tk tx L (lk tx L S3.1) = 123
  · have hqL := k2.2.1 (by omega)
    have hop : tk tx L (lk tx L (ps_at S3 (lk tx L S3.1)).1) = 123 := by show tk tx L (lk tx L (lk tx L S3.1)) = 123; rw [hlk]; exact hc
    have hS1' : ps_at (ps_at S3 (lk tx L S3.1)) (lk tx L (ps_at S3 (lk tx L S3.1)).1 + 1) = ps_at S3 ((lk tx L S3.1) + 1) := by
      show ps_at S3 (lk tx L (lk tx L S3.1) + 1) = _
      rw [hlk]
    have e22 : (am_wr σ4 0 21 (nI (lk tx L S3.1))).1 0 22 = nI 5 := by rw [am_diff _ _ _ _ _ (by decide)]; exact h22
    refine hg_step hd hB.tx a1 a2 (fun h256 => ?_) (fun h256 => by omega)
    rw [hc]
    refine tok_5 (by omega) e22 (fun d' hd' => am_C_to (Q := TPk d Q (lk tx L S3.1)) ?_ (fun _ _ z => z.x))
    rcases hK with ⟨rfl, rfl⟩ | ⟨f, rfl, hlev, hR, hFm⟩
    · refine rb_12_1 (by omega) (by rw [am_diff _ _ _ _ _ (by decide)]; exact a9) (TPk.flt (am_same _ _ _ _) (by decide) (hf 4 (lk tx L S3.1) _ (x2 hc _ ((enc_none hop).trans ?_)) r1.z (am_same _ _ _ _)))
      show (.inl (4, lk tx L (lk tx L S3.1)) : RS) = _
      rw [hlk]
    · refine rb_63_1 (n := S.2.1) (tr := tr) (nw := lc) (lev := lev) (by omega) (by rw [am_diff _ _ _ _ _ (by decide)]; exact a9) hlev (by rw [am_diff _ _ _ _ _ (by decide)]; exact n23) (by omega) (by rw [am_diff _ _ _ _ _ (by decide)]; exact a11) (by rw [am_wr_ne _ (by omega)]; exact n5) ?_
      have hB4 := (((((((((((hB.at hql).traps (tr)).level (l := lev + 1) (by omega)).wr (-1) (c := 24) (k := lev + 1) (by omega)).wr (-1) (c := 26) (k := lev + 1) (by omega)).wr (-1) (c := 23) (k := lev + 1) (by omega)).wr (-1) (c := 25) (k := lev + 1) (by omega)).wr (nI 2) (c := 20) (k := lev + 1) (by omega)).wr (nI S.2.1) (c := 21) (k := lev + 1) (by omega)).wr (nI 1) (c := 22) (k := lev + 1) (by omega)).wr (nI 0) (c := 0) (k := 22) (by omega)).at (q := (lk tx L S3.1) + 1) (by omega)
      have r4 := (((((((((((RF.wr (c := 0) (k := 21) (nI (lk tx L S3.1)) (by omega) : RF σ4 _ S3.2.1 E (lev + 1) lc).tr (RF.wr (c := 0) (k := 32) (nI (tr)) (by omega)) (Nat.le_refl _) (Nat.le_refl _) (Nat.le_refl _) (Nat.le_refl _)).tr (RF.wr (c := 0) (k := 24) (nI (lev + 1)) (by omega)) (Nat.le_refl _) (Nat.le_refl _) (Nat.le_refl _) (Nat.le_refl _)).tr (RF.wr (c := 24) (k := lev + 1) (-1) (by omega)) (Nat.le_refl _) (Nat.le_refl _) (Nat.le_refl _) (Nat.le_refl _)).tr (RF.wr (c := 26) (k := lev + 1) (-1) (by omega)) (Nat.le_refl _) (Nat.le_refl _) (Nat.le_refl _) (Nat.le_refl _)).tr (RF.wr (c := 23) (k := lev + 1) (-1) (by omega)) (Nat.le_refl _) (Nat.le_refl _) (Nat.le_refl _) (Nat.le_refl _)).tr (RF.wr (c := 25) (k := lev + 1) (-1) (by omega)) (Nat.le_refl _) (Nat.le_refl _) (Nat.le_refl _) (Nat.le_refl _)).tr (RF.wr (c := 20) (k := lev + 1) (nI 2) (by omega)) (Nat.le_refl _) (Nat.le_refl _) (Nat.le_refl _) (Nat.le_refl _)).tr (RF.wr (c := 21) (k := lev + 1) (nI S.2.1) (by omega)) (Nat.le_refl _) (Nat.le_refl _) (Nat.le_refl _) (Nat.le_refl _)).tr (RF.wr (c := 22) (k := lev + 1) (nI 1) (by omega)) (Nat.le_refl _) (Nat.le_refl _) (Nat.le_refl _) (Nat.le_refl _)).tr (RF.wr (c := 0) (k := 22) (nI 0) (by omega)) (Nat.le_refl _) (Nat.le_refl _) (Nat.le_refl _) (Nat.le_refl _)).tr (RF.wr (c := 0) (k := 21) (nI ((lk tx L S3.1) + 1)) (by omega)) (Nat.le_refl _) (Nat.le_refl _) (Nat.le_refl _) (Nat.le_refl _)
      refine TPk.ok (by rw [am_diff _ _ _ _ _ (by decide), am_wr_ne _ (by omega), am_wr_ne _ (by omega), am_wr_ne _ (by omega), am_wr_ne _ (by omega), am_wr_ne _ (by omega), am_wr_ne _ (by omega), am_wr_ne _ (by omega), am_diff _ _ _ _ _ (by decide), am_diff _ _ _ _ _ (by decide), am_same]) ?_
      refine enc_sim2 (S1 := ps_at S3 ((lk tx L S3.1) + 1)) hR hd hB4 hlev (by omega) (by rw [am_diff _ _ _ _ _ (by decide), am_same]) ?_ ?_ ?_ (fun k pl σ3 hx hr h21 => ?_) (fun S' q σ3 hx hcl wlk hr h21 => ?_) (fun S' q σ2 g2 hx hcl wlk hl hU slv => ?_)
      · rw [am_wr_ne _ (by omega), am_wr_ne _ (by omega), am_wr_ne _ (by omega), am_wr_ne _ (by omega), am_wr_ne _ (by omega), am_wr_ne _ (by omega), am_wr_ne _ (by omega), am_same]
      · rw [am_wr_ne _ (by omega), am_wr_ne _ (by omega), am_wr_ne _ (by omega), am_wr_ne _ (by omega), am_wr_ne _ (by omega), am_wr_ne _ (by omega), am_wr_ne _ (by omega), am_wr_ne _ (by omega), am_same]
      · rw [am_wr_ne _ (by omega), am_wr_ne _ (by omega), am_wr_ne _ (by omega), am_wr_ne _ (by omega), am_same]
      · exact hf k pl σ3 (x2 hc _ (enc_flt hop (by rw [hS1']; exact hx))) ((r0.z.zt r4).zt hr) h21
      · refine hf 1 S'.1 σ3 (x2 hc _ ((enc_go hop (by rw [hS1']; exact hx)).trans ?_)) ((r0.z.zt r4).zt hr) h21
        rw [wlk, if_pos hcl]
      · obtain ⟨hB2, hR2, hM2, hS2, hL2⟩ := hU
        have hPF := hFm _ _ _ _ _ hx
        have hPF2 : ∀ w i, i < S3.2.1 → S'.2.2.2 w i = S3.2.2.2 w i := fun w i hi => hPF.2.2 w i hi
        have hB2 : RB σ2 L tx S'.1 S'.2.1 S'.2.2.1 (E + (S'.2.1 - S3.2.1)) (lev + 1) tr lc O := hB2
        have hM2 : MSG σ2 S'.2.2.2 g2 S3.2.1 S'.2.1 q := hM2.1
        have hS2 : SG S'.2.2.2 g2 S3.2.1 S'.2.1 q E lc O := hS2
        obtain ⟨E', hE'⟩ : ∃ E', E' = E + (S'.2.1 - S3.2.1) := ⟨_, rfl⟩
        rw [← hE'] at hB2
        obtain ⟨-, b1, b2, b3, b4, b5, b6, b7, b8, b9, b10, b11, b12, b13, b14⟩ := id hB2
        have w1 := hS2.1
        have w2 := hS2.2.1
        have u6 : S'.2.2.2 6 q = S3.2.1 := hS2.2.2.1
        have u7 : S'.2.2.2 7 q + 1 = S'.2.1 := hS2.2.2.2.1
        have r5 : RF σ4 σ2 S3.2.1 E (lev + 1) lc := r4.tr hR2 (Nat.le_refl _) (Nat.le_refl _) (Nat.le_refl _) (Nat.le_refl _)
        have kp : ∀ c i, (c = 5 ∨ c = 6 ∨ c = 7 ∨ c = 8 ∨ c = 10 ∨ c = 12 ∨ c = 15) → i < S3.2.1 → σ2.1 c (120 + i) = σ4.1 c (120 + i) := fun c i hc hi => r5.2.2.2.2.1 c _ hc (by omega)
        have hSa : SG S'.2.2.2 g (S.2.1 + 1) S3.2.1 r e lc O := hS1.congr (fun w j _ j2 => hPF2 w j j2) (fun _ _ _ _ _ => rfl) (fun _ _ _ _ => rfl)
        have hMa : MSG σ2 S'.2.2.2 g (S.2.1 + 1) S3.2.1 r := (hM1.keep r5 (Nat.le_refl _) hS1 (by omega)).congr (fun w j _ j2 => hPF2 w j j2) (fun _ _ _ _ _ => rfl) (fun _ _ _ _ => rfl)
        have hpe : X = .inr ((ps_ops (ps_at S' (S'.1 + 1)) S.2.1 (r + 1) (q + 1)), S.2.1) := x3 hc _ _ ((enc_go hop (by rw [hS1']; exact hx)).trans (by rw [wlk, if_neg (fun z => z hcl)]))
        have K := ops_k (ps_at S' (S'.1 + 1)) S.2.1 (r + 1) (q + 1)
        have K0 : (ps_ops (ps_at S' (S'.1 + 1)) S.2.1 (r + 1) (q + 1)).2.2.2 0 S.2.1 = 63 := (K 0).trans ((hPF2 0 S.2.1 (by omega)).trans p0)
        have K1 : (ps_ops (ps_at S' (S'.1 + 1)) S.2.1 (r + 1) (q + 1)).2.2.2 1 S.2.1 = dv := (K 1).trans ((hPF2 1 S.2.1 (by omega)).trans p1)
        have K2 : (ps_ops (ps_at S' (S'.1 + 1)) S.2.1 (r + 1) (q + 1)).2.2.2 2 S.2.1 = r + 1 := K 2
        have K3 : (ps_ops (ps_at S' (S'.1 + 1)) S.2.1 (r + 1) (q + 1)).2.2.2 3 S.2.1 = q + 1 := K 3
        have K4 : (ps_ops (ps_at S' (S'.1 + 1)) S.2.1 (r + 1) (q + 1)).2.2.2 4 S.2.1 = pz S'.2.2.2 (r + 1) ||| pz S'.2.2.2 (q + 1) := K 4
        have K6 : (ps_ops (ps_at S' (S'.1 + 1)) S.2.1 (r + 1) (q + 1)).2.2.2 6 S.2.1 = min S.2.1 (S'.2.2.2 6 r) := K 6
        have K7 : (ps_ops (ps_at S' (S'.1 + 1)) S.2.1 (r + 1) (q + 1)).2.2.2 7 S.2.1 = max (max S.2.1 (S'.2.2.2 7 r)) (S'.2.2.2 7 q) := K 7
        have q6' : S'.2.2.2 6 r = S.2.1 + 1 := (hPF2 6 r v2).trans q6
        have q7' : S'.2.2.2 7 r + 1 = S3.2.1 := by rw [hPF2 7 r v2]; exact q7
        obtain ⟨g', hSG, hMS⟩ := nodeJ (σ := am_wr (am_wr (am_wr (am_wr (am_wr (am_wr (am_wr (am_wr σ2 0 24 (nI lev)) 8 (120 + S.2.1) (nI q)) 15 (120 + q) (nI S.2.1)) 0 32 (nI tr)) 0 33 (nI lc)) 0 23 (nI S.2.1)) 9 (120 + E') (nI S.2.1)) 0 35 (nI (E' + 1))) (p := S'.2.2.2) (p' := (ps_ops (ps_at S' (S'.1 + 1)) S.2.1 (r + 1) (q + 1)).2.2.2) (g1 := g) (g2 := g2) (A := S.2.1) (B := S'.2.1) (k := S.2.1) (a1 := S.2.1 + 1) (b1 := S3.2.1) (r1 := r) (a2 := S3.2.1) (b2 := S'.2.1) (r2 := q) (e := e) (D := lc) (D1 := lc) (O := O) (O1 := O) hSa ((((((((hMa.wr hSa _ (by omega)).wr hSa _ (by omega)).wr hSa _ (by omega)).wr hSa _ (by omega)).wr hSa _ (by omega)).wr hSa _ (by omega)).wr hSa _ (by omega)).wr hSa _ (by omega)) (Or.inr ⟨K3, by rw [← hE]; exact hS2, ((((((((hM2.wr hS2 _ (by omega)).wr hS2 _ (by omega)).wr hS2 _ (by omega)).wr hS2 _ (by omega)).wr hS2 _ (by omega)).wr hS2 _ (by omega)).wr hS2 _ (by omega)).wr hS2 _ (by omega)), by rw [am_wr_ne _ (by omega), am_wr_ne _ (by omega), am_wr_ne _ (by omega), am_wr_ne _ (by omega), am_wr_ne _ (by omega), am_same]⟩) (fun w j hj => ops_o _ _ _ _ w hj) (by omega) (fun i => by omega) (by omega) (by omega) (by omega) (by omega) (by omega) K2 (by rw [K6, q6']; omega) (by rw [K7]; omega) (by rw [K4, K2, K3, pz_s, pz_s, pzo_s, pzo_s, ops_o _ _ _ _ _ (by omega), ops_o _ _ _ _ _ (by omega)]; rfl) (Or.inr (by rw [K0]; unfold tBi; omega)) (by rw [K1]; exact d8) (fun z => by rw [K0] at z; rw [K1]; exact dS z) (fun z => by rw [K0] at z; omega) (fun z => by rw [K0] at z; unfold tUn at z; omega) (by rw [K0]; rfl) (fun _ _ => rfl) a13 (fun y hy => (a14 y hy).2) (by rw [K0, am_wr_ne _ (by omega), am_wr_ne _ (by omega), am_wr_ne _ (by omega), am_wr_ne _ (by omega), am_wr_ne _ (by omega), am_wr_ne _ (by omega), am_wr_ne _ (by omega), am_wr_ne _ (by omega), kp 5 _ (by omega) (by omega)]; exact n5) (by rw [K1, am_wr_ne _ (by omega), am_wr_ne _ (by omega), am_wr_ne _ (by omega), am_wr_ne _ (by omega), am_wr_ne _ (by omega), am_wr_ne _ (by omega), am_wr_ne _ (by omega), am_wr_ne _ (by omega), kp 6 _ (by omega) (by omega)]; exact n6) (by rw [am_wr_ne _ (by omega), am_wr_ne _ (by omega), am_wr_ne _ (by omega), am_wr_ne _ (by omega), am_wr_ne _ (by omega), am_wr_ne _ (by omega), am_wr_ne _ (by omega), am_wr_ne _ (by omega), kp 7 _ (by omega) (by omega)]; exact n7) (by rw [K3, oI_s, am_wr_ne _ (by omega), am_wr_ne _ (by omega), am_wr_ne _ (by omega), am_wr_ne _ (by omega), am_wr_ne _ (by omega), am_wr_ne _ (by omega), am_same]) (by rw [am_wr_ne _ (by omega), am_wr_ne _ (by omega), am_wr_ne _ (by omega), am_wr_ne _ (by omega), am_wr_ne _ (by omega), am_wr_ne _ (by omega), am_wr_ne _ (by omega), am_wr_ne _ (by omega), kp 10 _ (by omega) (by omega)]; exact n10) (fun y hy => by rw [am_wr_ne _ (by omega), am_wr_ne _ (by omega), am_wr_ne _ (by omega), am_wr_ne _ (by omega), am_wr_ne _ (by omega), am_wr_ne _ (by omega), am_wr_ne _ (by omega), am_wr_ne _ (by omega), r5.2.2.2.2.2.1 _ (by omega)]; exact n11 y hy) (by rw [am_wr_ne _ (by omega), am_wr_ne _ (by omega), am_wr_ne _ (by omega), am_wr_ne _ (by omega), am_wr_ne _ (by omega), am_wr_ne _ (by omega), am_wr_ne _ (by omega), am_wr_ne _ (by omega), kp 12 _ (by omega) (by omega)]; exact n12) (by rw [am_wr_ne _ (by omega), show e + (S'.2.1 - S.2.1) - 1 = E' by omega, am_same]) (by rw [am_ne2 _ (by omega), am_ne2 _ (by omega), am_ne2 _ (by omega), am_ne2 _ (by omega), am_ne2 _ (by omega), am_ne2 _ (by omega), am_ne2 _ (by omega), am_ne2 _ (by omega), kp 15 _ (by omega) (by omega)]; exact nr15)
        intro d' hd'
        refine cn_63_1 (e := E') (v := q) (n := S.2.1) (tr := tr) (nw := lc) (lev := lev) (by omega) b9 hlev ((slv 21 (by decide) (by decide)).trans (by rw [am_wr_ne _ (by omega), am_wr_ne _ (by omega), am_wr_ne _ (by omega), am_same])) ((slv 22 (by decide) (by decide)).trans (by rw [am_wr_ne _ (by omega), am_wr_ne _ (by omega), am_same])) (by omega) (by omega) b11 b12 (by rw [kp 5 _ (by omega) (by omega)]; exact n5) b7 (by omega) ?_
        refine EPq.to (CT.tp hd hl ?_ a10 (hk (ps_ops (ps_at S' (S'.1 + 1)) S.2.1 (r + 1) (q + 1)) _ g' S'.1 hpe ⟨?_, (((((((((r0.tr r5 (by omega) (by omega) (by omega) (Nat.le_refl _)).tr (RF.wr _ (by omega)) (Nat.le_refl _) (Nat.le_refl _) (Nat.le_refl _) (Nat.le_refl _)).tr (RF.wr _ (by omega)) (Nat.le_refl _) (Nat.le_refl _) (Nat.le_refl _) (Nat.le_refl _)).tr (RF.wr _ (by omega)) (Nat.le_refl _) (Nat.le_refl _) (Nat.le_refl _) (Nat.le_refl _)).tr (RF.wr _ (by omega)) (Nat.le_refl _) (Nat.le_refl _) (Nat.le_refl _) (Nat.le_refl _)).tr (RF.wr _ (by omega)) (Nat.le_refl _) (Nat.le_refl _) (Nat.le_refl _) (Nat.le_refl _)).tr (RF.wr _ (by omega)) (Nat.le_refl _) (Nat.le_refl _) (Nat.le_refl _) (Nat.le_refl _)).tr (RF.wr _ (by omega)) (Nat.le_refl _) (Nat.le_refl _) (Nat.le_refl _) (Nat.le_refl _)).tr (RF.wr _ (by omega)) (Nat.le_refl _) (Nat.le_refl _) (Nat.le_refl _) (Nat.le_refl _)), ⟨hMS, by rw [am_ne2 _ (by omega), am_ne2 _ (by omega), am_ne2 _ (by omega), am_ne2 _ (by omega), am_ne2 _ (by omega), am_ne2 _ (by omega), am_ne2 _ (by omega), am_ne2 _ (by omega), kp 15 _ (by omega) (by omega)]; exact n15⟩, hSG, hl⟩ (fun c c1 c2 => ?_))) (fun σ3 z => ⟨rfl, z⟩)
        · rw [am_diff _ _ _ _ _ (by decide), am_wr_ne _ (by omega), am_diff _ _ _ _ _ (by decide), am_diff _ _ _ _ _ (by decide), am_diff _ _ _ _ _ (by decide), am_wr_ne _ (by omega), am_wr_ne _ (by omega), am_diff _ _ _ _ _ (by decide)]
          exact b2
        · show RB _ L tx S'.1 S'.2.1 S'.2.2.1 (e + (S'.2.1 - S.2.1)) lev tr lc O
          rw [show e + (S'.2.1 - S.2.1) = E' + 1 by omega]
          exact ((((((((hB2.level (l := lev) (by omega)).wr (nI q) (c := 8) (k := 120 + S.2.1) (by omega)).wr (nI S.2.1) (c := 15) (k := 120 + q) (by omega)).traps tr).news (w := lc) (O' := O) a13 (fun y hy => by rw [am_wr_ne _ (by omega), am_wr_ne _ (by omega), am_wr_ne _ (by omega), am_wr_ne _ (by omega)]; exact b14 y hy)).wr (nI S.2.1) (c := 0) (k := 23) (by omega)).wr (nI S.2.1) (c := 9) (k := 120 + E') (by omega)).ended (by omega))
        · rw [am_wr_ne _ (by omega), am_wr_ne _ (by omega), am_wr_ne _ (by omega), am_wr_ne _ (by omega), am_wr_ne _ (by omega), am_wr_ne _ (by omega), am_wr_ne _ (by omega), am_wr_ne _ (by omega), r5.2.2.2.2.2.2.2.1 c lev c1 c2 (by omega)]
          exact hlv c c1 c2
  · have K := ops_k (ps_at S3 (lk tx L S3.1)) S.2.1 (r + 1) 0
    have K0 : (ps_ops (ps_at S3 (lk tx L S3.1)) S.2.1 (r + 1) 0).2.2.2 0 S.2.1 = 63 := (K 0).trans p0
    have K1 : (ps_ops (ps_at S3 (lk tx L S3.1)) S.2.1 (r + 1) 0).2.2.2 1 S.2.1 = dv := (K 1).trans p1
    have K2 : (ps_ops (ps_at S3 (lk tx L S3.1)) S.2.1 (r + 1) 0).2.2.2 2 S.2.1 = r + 1 := K 2
    have K3 : (ps_ops (ps_at S3 (lk tx L S3.1)) S.2.1 (r + 1) 0).2.2.2 3 S.2.1 = 0 := K 3
    have K4 : (ps_ops (ps_at S3 (lk tx L S3.1)) S.2.1 (r + 1) 0).2.2.2 4 S.2.1 = pz S3.2.2.2 (r + 1) ||| pz S3.2.2.2 0 := K 4
    have K6 : (ps_ops (ps_at S3 (lk tx L S3.1)) S.2.1 (r + 1) 0).2.2.2 6 S.2.1 = min S.2.1 (S3.2.2.2 6 r) := K 6
    have K7 : (ps_ops (ps_at S3 (lk tx L S3.1)) S.2.1 (r + 1) 0).2.2.2 7 S.2.1 = max S.2.1 (S3.2.2.2 7 r) := K 7
    obtain ⟨g', hSG, hMS⟩ := nodeJ (σ := am_wr (am_wr (am_wr (σ4) 0 21 (nI (lk tx L S3.1))) 9 (120 + E) (nI S.2.1)) 0 35 (nI (E + 1))) (p := S3.2.2.2) (p' := (ps_ops (ps_at S3 (lk tx L S3.1)) S.2.1 (r + 1) 0).2.2.2) (g1 := g) (g2 := g) (A := S.2.1) (B := S3.2.1) (k := S.2.1) (a1 := S.2.1 + 1) (b1 := S3.2.1) (r1 := r) (a2 := S3.2.1) (b2 := S3.2.1) (r2 := 0) (e := e) (D := lc) (D1 := lc) (O := O) (O1 := O) hS1 (((hM1.wr hS1 _ (by omega)).wr hS1 _ (by omega)).wr hS1 _ (by omega)) (Or.inl ⟨rfl, K3⟩) (fun w j hj => ops_o _ _ _ _ w hj) (by omega) (fun i => by omega) (by omega) (Or.inl rfl) (Or.inl rfl) (by omega) (Nat.le_refl _) K2 (by rw [K6, q6]; omega) (by rw [K7]; omega) (by rw [K4, K2, K3, pz_s, pzo_s, ops_o _ _ _ _ _ (by omega)]; rfl) (Or.inr (by rw [K0]; unfold tBi; omega)) (by rw [K1]; exact d8) (fun z => by rw [K0] at z; rw [K1]; exact dS z) (fun z => by rw [K0] at z; omega) (fun _ => K3) (by rw [K0]; rfl) (fun _ _ => rfl) a13 (fun y hy => (a14 y hy).2) (by rw [K0, am_wr_ne _ (by omega), am_wr_ne _ (by omega), am_wr_ne _ (by omega)]; exact n5) (by rw [K1, am_wr_ne _ (by omega), am_wr_ne _ (by omega), am_wr_ne _ (by omega)]; exact n6) (by rw [am_wr_ne _ (by omega), am_wr_ne _ (by omega), am_wr_ne _ (by omega)]; exact n7) (by rw [K3, oI_0, am_wr_ne _ (by omega), am_wr_ne _ (by omega), am_wr_ne _ (by omega)]; exact n8) (by rw [am_wr_ne _ (by omega), am_wr_ne _ (by omega), am_wr_ne _ (by omega)]; exact n10) (fun y hy => by rw [am_wr_ne _ (by omega), am_wr_ne _ (by omega), am_wr_ne _ (by omega)]; exact n11 y hy) (by rw [am_wr_ne _ (by omega), am_wr_ne _ (by omega), am_wr_ne _ (by omega)]; exact n12) (by rw [am_wr_ne _ (by omega), show e + (S3.2.1 - S.2.1) - 1 = E by omega, am_same]) (by rw [am_wr_ne _ (by omega), am_wr_ne _ (by omega), am_wr_ne _ (by omega)]; exact nr15)
    refine CT.pend hd hB.tx a1 a2 a10 h22 n23 a7 (by omega) hc ?_
    have hct := hk (ps_ops (ps_at S3 (lk tx L S3.1)) S.2.1 (r + 1) 0) _ g' (lk tx L S3.1) (x1 hc) ⟨?_, ((r1.tr (RF.wr _ (by omega)) (Nat.le_refl _) (Nat.le_refl _) (Nat.le_refl _) (Nat.le_refl _)).tr (RF.wr _ (by omega)) (Nat.le_refl _) (Nat.le_refl _) (Nat.le_refl _) (Nat.le_refl _)), ⟨hMS, by rw [am_wr_ne _ (by omega), am_wr_ne _ (by omega), am_wr_ne _ (by omega)]; exact n15⟩, hSG, hql⟩ (fun c c1 c2 => ?_)
    · rw [show lk tx L (ps_ops (ps_at S3 (lk tx L S3.1)) S.2.1 (r + 1) 0).1 = (lk tx L S3.1) from hlk] at hct
      exact hct
    · show RB _ L tx (lk tx L S3.1) S3.2.1 S3.2.2.1 (e + (S3.2.1 - S.2.1)) lev tr lc O
      rw [show e + (S3.2.1 - S.2.1) = E + 1 by omega]
      exact ((hB.at hql).wr (nI S.2.1) (c := 9) (k := 120 + E) (by omega)).ended (by omega)
    · rw [am_wr_ne _ (by omega), am_wr_ne _ (by omega), am_wr_ne _ (by omega)]
      exact hlv c c1 c2
set_option maxRecDepth 10000 in
set_option maxHeartbeats 2000000 in
theorem bk_63 {L lev tr lc e d dv : Nat} {tx O : Nat → Nat} {blk : Option (Nat → Nat → PS → RS)} {S Ss : PS} {σ σs : am_M} {Q : am_Q} (hd : 12 ≤ d) (hK : BLK L tx lev blk) (hn : Ss.2.1 = S.2.1 + 1) (hB : RB σs L tx Ss.1 Ss.2.1 Ss.2.2.1 e lev tr lc O) (he : e ≤ S.2.1) (htr : tr ≤ lev) (h22 : σs.1 0 22 = nI 2) (hN : NDs σs S.2.1 63 dv lc O Ss.2.2.2) (r0 : RF σ σs S.2.1 e lev lc) (hlv : ∀ c, 20 ≤ c → c ≤ 26 → σs.1 c lev = σ.1 c lev) (hf : FA Q σ (p_blk tx L blk 63 tr lc S.2.1 Ss)) (hk : ∀ S' σ1 g pos, p_blk tx L blk 63 tr lc S.2.1 Ss = .inr (S', S.2.1) → SU σ σ1 L tx S S' S.2.1 e lev tr lc O pos g → (∀ c, 20 ≤ c → c ≤ 26 → σ1.1 c lev = σ.1 c lev) → CT d Q L tx (lk tx L S'.1) lev S.2.1 σ1) : HG d Q σs := by
  obtain ⟨⟨t1, t2, t3⟩, a1, a2, a3, a4, a5, a6, a7, a8, a9, a10, a11, a12, a13, a14⟩ := id hB
  obtain ⟨⟨n23, n5, n6, n8, n10, n11, n12, n15⟩, p0, p1, d8, dS⟩ := hN
  have hql := (lk_le (tx := tx) a1).2
  have k2 := tkm hB.tx (lk tx L Ss.1)
  have r1 : RF σs (am_wr σs 0 21 (nI (lk tx L Ss.1))) (S.2.1 + 1) e lev lc := RF.wr _ (by omega)
  have e22 : (am_wr σs 0 21 (nI (lk tx L Ss.1))).1 0 22 = nI 2 := by rw [am_diff _ _ _ _ _ (by decide)]; exact h22
  refine hg_step hd hB.tx a1 a2 (fun h256 => ?_) (fun h256 => en_2 (by omega) e22 (hf 1 _ _ (blk_flt (enc_op (by omega))) (r0.z.zt r1) (am_same _ _ _ _)))
  refine tok_2 (by omega) e22 (fun d' hd' => am_C_to (Q := TPk d Q (lk tx L Ss.1)) ?_ (fun _ _ z => z.x))
  by_cases hc : tk tx L (lk tx L Ss.1) = 123
  · rw [hc]
    have hqL := k2.2.1 h256
    rcases id hK with ⟨rfl, rfl⟩ | ⟨f, rfl, hlev, hR, hFm⟩
    · exact rb_12_0 (by omega) (by rw [am_diff _ _ _ _ _ (by decide)]; exact a9) (TPk.flt (am_same _ _ _ _) (by decide) (hf 4 _ _ (blk_flt (enc_none hc)) (r0.z.zt r1) (am_same _ _ _ _)))
    · refine rb_63_0 (n := S.2.1) (tr := tr) (nw := lc) (lev := lev) (by omega) (by rw [am_diff _ _ _ _ _ (by decide)]; exact a9) hlev (by rw [am_diff _ _ _ _ _ (by decide)]; exact n23) (by omega) (by rw [am_diff _ _ _ _ _ (by decide)]; exact a11) (by rw [am_wr_ne _ (by omega)]; exact n5) ?_
      have hB4 := (((((((((((hB.at hql).traps (tr)).level (l := lev + 1) (by omega)).wr (-1) (c := 24) (k := lev + 1) (by omega)).wr (-1) (c := 26) (k := lev + 1) (by omega)).wr (-1) (c := 23) (k := lev + 1) (by omega)).wr (-1) (c := 25) (k := lev + 1) (by omega)).wr (nI 2) (c := 20) (k := lev + 1) (by omega)).wr (nI S.2.1) (c := 21) (k := lev + 1) (by omega)).wr (nI 0) (c := 22) (k := lev + 1) (by omega)).wr (nI 0) (c := 0) (k := 22) (by omega)).at (q := (lk tx L Ss.1) + 1) (by omega)
      have r4 := (((((((((((RF.wr (c := 0) (k := 21) (nI (lk tx L Ss.1)) (by omega) : RF σs _ (S.2.1 + 1) e (lev + 1) lc).tr (RF.wr (c := 0) (k := 32) (nI (tr)) (by omega)) (Nat.le_refl _) (Nat.le_refl _) (Nat.le_refl _) (Nat.le_refl _)).tr (RF.wr (c := 0) (k := 24) (nI (lev + 1)) (by omega)) (Nat.le_refl _) (Nat.le_refl _) (Nat.le_refl _) (Nat.le_refl _)).tr (RF.wr (c := 24) (k := lev + 1) (-1) (by omega)) (Nat.le_refl _) (Nat.le_refl _) (Nat.le_refl _) (Nat.le_refl _)).tr (RF.wr (c := 26) (k := lev + 1) (-1) (by omega)) (Nat.le_refl _) (Nat.le_refl _) (Nat.le_refl _) (Nat.le_refl _)).tr (RF.wr (c := 23) (k := lev + 1) (-1) (by omega)) (Nat.le_refl _) (Nat.le_refl _) (Nat.le_refl _) (Nat.le_refl _)).tr (RF.wr (c := 25) (k := lev + 1) (-1) (by omega)) (Nat.le_refl _) (Nat.le_refl _) (Nat.le_refl _) (Nat.le_refl _)).tr (RF.wr (c := 20) (k := lev + 1) (nI 2) (by omega)) (Nat.le_refl _) (Nat.le_refl _) (Nat.le_refl _) (Nat.le_refl _)).tr (RF.wr (c := 21) (k := lev + 1) (nI S.2.1) (by omega)) (Nat.le_refl _) (Nat.le_refl _) (Nat.le_refl _) (Nat.le_refl _)).tr (RF.wr (c := 22) (k := lev + 1) (nI 0) (by omega)) (Nat.le_refl _) (Nat.le_refl _) (Nat.le_refl _) (Nat.le_refl _)).tr (RF.wr (c := 0) (k := 22) (nI 0) (by omega)) (Nat.le_refl _) (Nat.le_refl _) (Nat.le_refl _) (Nat.le_refl _)).tr (RF.wr (c := 0) (k := 21) (nI ((lk tx L Ss.1) + 1)) (by omega)) (Nat.le_refl _) (Nat.le_refl _) (Nat.le_refl _) (Nat.le_refl _)
      refine TPk.ok (by rw [am_diff _ _ _ _ _ (by decide), am_wr_ne _ (by omega), am_wr_ne _ (by omega), am_wr_ne _ (by omega), am_wr_ne _ (by omega), am_wr_ne _ (by omega), am_wr_ne _ (by omega), am_wr_ne _ (by omega), am_diff _ _ _ _ _ (by decide), am_diff _ _ _ _ _ (by decide), am_same]) ?_
      refine enc_sim2 (S1 := ps_at Ss ((lk tx L Ss.1) + 1)) hR hd hB4 hlev (by omega) (by rw [am_diff _ _ _ _ _ (by decide), am_same]) ?_ ?_ ?_ (fun k pl σ3 hx hr h21 => ?_) (fun S' r σ3 hx hcl wlk hr h21 => ?_) (fun S' r σ2 g hx hcl wlk hl hU slv => ?_)
      · rw [am_wr_ne _ (by omega), am_wr_ne _ (by omega), am_wr_ne _ (by omega), am_wr_ne _ (by omega), am_wr_ne _ (by omega), am_wr_ne _ (by omega), am_wr_ne _ (by omega), am_same]
      · rw [am_wr_ne _ (by omega), am_wr_ne _ (by omega), am_wr_ne _ (by omega), am_wr_ne _ (by omega), am_wr_ne _ (by omega), am_wr_ne _ (by omega), am_wr_ne _ (by omega), am_wr_ne _ (by omega), am_same]
      · rw [am_wr_ne _ (by omega), am_wr_ne _ (by omega), am_wr_ne _ (by omega), am_wr_ne _ (by omega), am_same]
      · exact hf k pl σ3 (blk_flt (enc_flt hc hx)) ((r0.z.zt r4).zt hr) h21
      · refine hf 1 S'.1 σ3 (blk_flt ((enc_go hc hx).trans ?_)) ((r0.z.zt r4).zt hr) h21
        rw [wlk, if_pos hcl]
      · obtain ⟨hB2, hR2, hM2, hS2, hL2⟩ := hU
        have hPF := hFm _ _ _ _ _ hx
        have e1 : (ps_at Ss ((lk tx L Ss.1) + 1)).2.1 = S.2.1 + 1 := hn
        rw [e1] at hB2 hR2 hM2 hS2
        obtain ⟨E, hE⟩ : ∃ E, E = e + (S'.2.1 - (S.2.1 + 1)) := ⟨_, rfl⟩
        rw [← hE] at hB2
        obtain ⟨-, b1, b2, b3, b4, b5, b6, b7, b8, b9, b10, b11, b12, b13, b14⟩ := id hB2
        have v1 := hS2.1
        have v2 := hS2.2.1
        have r5 : RF σs σ2 (S.2.1 + 1) e (lev + 1) lc := r4.tr hR2 (Nat.le_refl _) (Nat.le_refl _) (Nat.le_refl _) (Nat.le_refl _)
        have kp : ∀ c, (c = 5 ∨ c = 6 ∨ c = 7 ∨ c = 8 ∨ c = 10 ∨ c = 12 ∨ c = 15) → σ2.1 c (120 + S.2.1) = σs.1 c (120 + S.2.1) := fun c hc => r5.2.2.2.2.1 c _ hc (by omega)
        have hee : p_enc tx L (some f) 123 125 tr lc Ss = .inr (ps_at S' (S'.1 + 1), r) := (enc_go hc hx).trans (by rw [wlk, if_neg (fun z => z hcl)])
        have hbe := blk_63 (st := S.2.1) hee
        rw [hbe] at hf hk
        intro d' hd'
        refine cn_63_0 (v := r) (n := S.2.1) (tr := tr) (nw := lc) (lev := lev) (by omega) b9 hlev ((slv 21 (by decide) (by decide)).trans (by rw [am_wr_ne _ (by omega), am_wr_ne _ (by omega), am_wr_ne _ (by omega), am_same])) ((slv 22 (by decide) (by decide)).trans (by rw [am_wr_ne _ (by omega), am_wr_ne _ (by omega), am_same])) (by omega) (by omega) b11 b12 (by rw [kp 5 (by omega)]; exact n5) ⟨rfl, TPk.ok ?_ ?_⟩
        · rw [am_diff _ _ _ _ _ (by decide), am_diff _ _ _ _ _ (by decide), am_diff _ _ _ _ _ (by decide), am_diff _ _ _ _ _ (by decide), am_wr_ne _ (by omega), am_wr_ne _ (by omega), am_diff _ _ _ _ _ (by decide)]
          exact b2
        · refine bk_63b (S3 := ps_at S' (S'.1 + 1)) (S := S) (r := r) (E := E) (e := e) (dv := dv) (g := g) hd hK ?_ hE he htr (by rw [am_diff _ _ _ _ _ (by decide), am_same]) (by rw [am_wr_ne _ (by omega), am_wr_ne _ (by omega), am_wr_ne _ (by omega), am_wr_ne _ (by omega), am_wr_ne _ (by omega), am_wr_ne _ (by omega), am_same]) (by rw [am_wr_ne _ (by omega), am_wr_ne _ (by omega), am_wr_ne _ (by omega), am_wr_ne _ (by omega), am_wr_ne _ (by omega), am_same]) ⟨⟨by rw [am_diff _ _ _ _ _ (by decide), am_diff _ _ _ _ _ (by decide), am_same], by rw [am_wr_ne _ (by omega), am_wr_ne _ (by omega), am_wr_ne _ (by omega), am_wr_ne _ (by omega), am_wr_ne _ (by omega), am_wr_ne _ (by omega), am_wr_ne _ (by omega), am_wr_ne _ (by omega), kp 5 (by omega)]; exact n5, by rw [am_wr_ne _ (by omega), am_wr_ne _ (by omega), am_wr_ne _ (by omega), am_wr_ne _ (by omega), am_wr_ne _ (by omega), am_wr_ne _ (by omega), am_wr_ne _ (by omega), am_wr_ne _ (by omega), kp 6 (by omega)]; exact n6, by rw [am_wr_ne _ (by omega), am_wr_ne _ (by omega), am_wr_ne _ (by omega), am_wr_ne _ (by omega), am_wr_ne _ (by omega), am_wr_ne _ (by omega), am_wr_ne _ (by omega), am_wr_ne _ (by omega), kp 8 (by omega)]; exact n8, by rw [am_wr_ne _ (by omega), am_wr_ne _ (by omega), am_wr_ne _ (by omega), am_wr_ne _ (by omega), am_wr_ne _ (by omega), am_wr_ne _ (by omega), am_wr_ne _ (by omega), am_wr_ne _ (by omega), kp 10 (by omega)]; exact n10, fun y hy => by rw [am_wr_ne _ (by omega), am_wr_ne _ (by omega), am_wr_ne _ (by omega), am_wr_ne _ (by omega), am_wr_ne _ (by omega), am_wr_ne _ (by omega), am_wr_ne _ (by omega), am_wr_ne _ (by omega), r5.2.2.2.2.2.1 _ (by omega)]; exact n11 y hy, by rw [am_wr_ne _ (by omega), am_wr_ne _ (by omega), am_wr_ne _ (by omega), am_wr_ne _ (by omega), am_wr_ne _ (by omega), am_wr_ne _ (by omega), am_wr_ne _ (by omega), am_wr_ne _ (by omega), kp 12 (by omega)]; exact n12, by rw [am_ne2 _ (by omega), am_ne2 _ (by omega), am_ne2 _ (by omega), am_ne2 _ (by omega), am_ne2 _ (by omega), am_ne2 _ (by omega), am_ne2 _ (by omega), am_ne2 _ (by omega), kp 15 (by omega)]; exact n15⟩, (hPF.2.2 0 S.2.1 (by show S.2.1 < Ss.2.1; omega)).trans p0, (hPF.2.2 1 S.2.1 (by show S.2.1 < Ss.2.1; omega)).trans p1, d8, dS⟩ (((((((((r0.tr r5 (by omega) (Nat.le_refl _) (by omega) (Nat.le_refl _)).tr (RF.wr _ (by omega)) (Nat.le_refl _) (Nat.le_refl _) (Nat.le_refl _) (Nat.le_refl _)).tr (RF.wr _ (by omega)) (Nat.le_refl _) (Nat.le_refl _) (Nat.le_refl _) (Nat.le_refl _)).tr (RF.wr _ (by omega)) (Nat.le_refl _) (Nat.le_refl _) (Nat.le_refl _) (Nat.le_refl _)).tr (RF.wr _ (by omega)) (Nat.le_refl _) (Nat.le_refl _) (Nat.le_refl _) (Nat.le_refl _)).tr (RF.wr _ (by omega)) (Nat.le_refl _) (Nat.le_refl _) (Nat.le_refl _) (Nat.le_refl _)).tr (RF.wr _ (by omega)) (Nat.le_refl _) (Nat.le_refl _) (Nat.le_refl _) (Nat.le_refl _)).tr (RF.wr _ (by omega)) (Nat.le_refl _) (Nat.le_refl _) (Nat.le_refl _) (Nat.le_refl _)).tr (RF.wr _ (by omega)) (Nat.le_refl _) (Nat.le_refl _) (Nat.le_refl _) (Nat.le_refl _)) (fun c c1 c2 => by rw [am_wr_ne _ (by omega), am_wr_ne _ (by omega), am_wr_ne _ (by omega), am_wr_ne _ (by omega), am_wr_ne _ (by omega), am_wr_ne _ (by omega), am_wr_ne _ (by omega), am_wr_ne _ (by omega), r5.2.2.2.2.2.2.2.1 c lev c1 c2 (by omega)]; exact hlv c c1 c2) hS2 ((((((((hM2.wr hS2 _ (by omega)).wr hS2 _ (by omega)).wr hS2 _ (by omega)).wr hS2 _ (by omega)).wr hS2 _ (by omega)).wr hS2 _ (by omega)).wr hS2 _ (by omega)).wr hS2 _ (by omega)) (fun z => if_neg z) (fun z y hy => by rw [if_pos z, hy]) (fun z S4 q hy => by rw [if_pos z, hy]) hf hk
          exact (((((((hB2.level (l := lev) (by omega)).wr (nI r) (c := 7) (k := 120 + S.2.1) (by omega)).wr (nI S.2.1) (c := 15) (k := 120 + r) (by omega)).traps tr).news (w := lc) (O' := O) a13 (fun y hy => by rw [am_wr_ne _ (by omega), am_wr_ne _ (by omega), am_wr_ne _ (by omega), am_wr_ne _ (by omega)]; exact b14 y hy)).wr (nI S.2.1) (c := 0) (k := 23) (by omega)).wr (nI 5) (c := 0) (k := 22) (by omega)).at (q := S'.1 + 1) (by omega)
  · exact rb_bad0 (by omega) h256 hc (TPk.flt (am_same _ _ _ _) (by decide) (hf 1 _ _ (blk_flt (enc_op hc)) (r0.z.zt r1) (am_same _ _ _ _)))

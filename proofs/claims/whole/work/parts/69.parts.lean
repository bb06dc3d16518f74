theorem pp_40 {tx : Nat → Nat} {L : Nat} {blk : Option (Nat → Nat → PS → RS)} {tr lc : Nat} {S : PS} (e : tk tx L (lk tx L S.1) = 40) : p_part tx L blk tr lc S = p_enc tx L blk 40 41 tr lc (ps_at S (lk tx L S.1)) := if_pos e
theorem pp_bad {tx : Nat → Nat} {L : Nat} {blk : Option (Nat → Nat → PS → RS)} {tr lc : Nat} {S : PS} (e : ¬ tk tx L (lk tx L S.1) = 40) (h : isF (tk tx L (lk tx L S.1)) = false ∧ isB (tk tx L (lk tx L S.1)) = false) : p_part tx L blk tr lc S = .inl (1, (lk tx L S.1)) := by
  unfold p_part
  rw [if_neg e, if_pos h]
theorem pp_48 {tx : Nat → Nat} {L : Nat} {blk : Option (Nat → Nat → PS → RS)} {tr lc : Nat} {S : PS} (e : tk tx L (lk tx L S.1) = 48) (hb : p_beg S 48 lc (lk tx L S.1) = .inr (ps_add S 48 (lk tx L S.1))) : p_part tx L blk tr lc S = .inr ((ps_add S 48 (lk tx L S.1)), S.2.1) := by
  unfold p_part
  rw [e, hb]
  rfl
theorem pf_48 {tx : Nat → Nat} {L : Nat} {blk : Option (Nat → Nat → PS → RS)} {tr lc : Nat} {S : PS} {k : Nat × Nat} (e : tk tx L (lk tx L S.1) = 48) (hb : p_beg S 48 lc (lk tx L S.1) = .inl k) : p_part tx L blk tr lc S = .inl k := by
  unfold p_part
  rw [e, hb]
  rfl
theorem pp_46 {tx : Nat → Nat} {L : Nat} {blk : Option (Nat → Nat → PS → RS)} {tr lc : Nat} {S : PS} (e : tk tx L (lk tx L S.1) = 46) (hb : p_beg S 46 lc (lk tx L S.1) = .inr (ps_add S 46 (lk tx L S.1))) : p_part tx L blk tr lc S = .inr ((ps_add S 46 (lk tx L S.1)), S.2.1) := by
  unfold p_part
  rw [e, hb]
  rfl
theorem pf_46 {tx : Nat → Nat} {L : Nat} {blk : Option (Nat → Nat → PS → RS)} {tr lc : Nat} {S : PS} {k : Nat × Nat} (e : tk tx L (lk tx L S.1) = 46) (hb : p_beg S 46 lc (lk tx L S.1) = .inl k) : p_part tx L blk tr lc S = .inl k := by
  unfold p_part
  rw [e, hb]
  rfl
theorem pp_120 {tx : Nat → Nat} {L : Nat} {blk : Option (Nat → Nat → PS → RS)} {tr lc : Nat} {S : PS} (e : tk tx L (lk tx L S.1) = 120) (hb : p_beg S 120 lc (lk tx L S.1) = .inr (ps_add S 120 (lk tx L S.1))) : p_part tx L blk tr lc S = (if tk tx L (lk tx L (ps_add S 120 (lk tx L S.1)).1) < 48 ∨ 52 < tk tx L (lk tx L (ps_add S 120 (lk tx L S.1)).1) then .inl (1, (lk tx L (ps_add S 120 (lk tx L S.1)).1)) else if tr ≤ tk tx L (lk tx L (ps_add S 120 (lk tx L S.1)).1) - 48 then .inl (2, (lk tx L (ps_add S 120 (lk tx L S.1)).1)) else .inr ((ps_at (ps_det (ps_add S 120 (lk tx L S.1)) S.2.1 (tk tx L (lk tx L (ps_add S 120 (lk tx L S.1)).1) - 48)) ((lk tx L (ps_add S 120 (lk tx L S.1)).1) + 1)), S.2.1)) := by
  unfold p_part
  rw [e, hb]
  rfl
theorem pf_120 {tx : Nat → Nat} {L : Nat} {blk : Option (Nat → Nat → PS → RS)} {tr lc : Nat} {S : PS} {k : Nat × Nat} (e : tk tx L (lk tx L S.1) = 120) (hb : p_beg S 120 lc (lk tx L S.1) = .inl k) : p_part tx L blk tr lc S = .inl k := by
  unfold p_part
  rw [e, hb]
  rfl
theorem pp_33 {tx : Nat → Nat} {L : Nat} {blk : Option (Nat → Nat → PS → RS)} {tr lc : Nat} {S : PS} (e : tk tx L (lk tx L S.1) = 33) (hb : p_beg S 33 lc (lk tx L S.1) = .inr (ps_add S 33 (lk tx L S.1))) : p_part tx L blk tr lc S = (if tk tx L (lk tx L (ps_add S 33 (lk tx L S.1)).1) < 97 ∨ 104 < tk tx L (lk tx L (ps_add S 33 (lk tx L S.1)).1) then .inl (1, (lk tx L (ps_add S 33 (lk tx L S.1)).1)) else .inr ((ps_at (ps_det (ps_add S 33 (lk tx L S.1)) S.2.1 (tk tx L (lk tx L (ps_add S 33 (lk tx L S.1)).1) - 97)) ((lk tx L (ps_add S 33 (lk tx L S.1)).1) + 1)), S.2.1)) := by
  unfold p_part
  rw [e, hb]
  rfl
theorem pf_33 {tx : Nat → Nat} {L : Nat} {blk : Option (Nat → Nat → PS → RS)} {tr lc : Nat} {S : PS} {k : Nat × Nat} (e : tk tx L (lk tx L S.1) = 33) (hb : p_beg S 33 lc (lk tx L S.1) = .inl k) : p_part tx L blk tr lc S = .inl k := by
  unfold p_part
  rw [e, hb]
  rfl
theorem pp_38 {tx : Nat → Nat} {L : Nat} {blk : Option (Nat → Nat → PS → RS)} {tr lc : Nat} {S : PS} (e : tk tx L (lk tx L S.1) = 38) (hb : p_beg S 38 lc (lk tx L S.1) = .inr (ps_add S 38 (lk tx L S.1))) : p_part tx L blk tr lc S = (if tk tx L (lk tx L (ps_add S 38 (lk tx L S.1)).1) < 97 ∨ 104 < tk tx L (lk tx L (ps_add S 38 (lk tx L S.1)).1) then .inl (1, (lk tx L (ps_add S 38 (lk tx L S.1)).1)) else .inr ((ps_at (ps_det (ps_add S 38 (lk tx L S.1)) S.2.1 (tk tx L (lk tx L (ps_add S 38 (lk tx L S.1)).1) - 97)) ((lk tx L (ps_add S 38 (lk tx L S.1)).1) + 1)), S.2.1)) := by
  unfold p_part
  rw [e, hb]
  rfl
theorem pf_38 {tx : Nat → Nat} {L : Nat} {blk : Option (Nat → Nat → PS → RS)} {tr lc : Nat} {S : PS} {k : Nat × Nat} (e : tk tx L (lk tx L S.1) = 38) (hb : p_beg S 38 lc (lk tx L S.1) = .inl k) : p_part tx L blk tr lc S = .inl k := by
  unfold p_part
  rw [e, hb]
  rfl
theorem pp_63 {tx : Nat → Nat} {L : Nat} {blk : Option (Nat → Nat → PS → RS)} {tr lc : Nat} {S : PS} (e : tk tx L (lk tx L S.1) = 63) (hb : p_beg S 63 lc (lk tx L S.1) = .inr (ps_add S 63 (lk tx L S.1))) : p_part tx L blk tr lc S = (if tk tx L (lk tx L (ps_add S 63 (lk tx L S.1)).1) < 97 ∨ 104 < tk tx L (lk tx L (ps_add S 63 (lk tx L S.1)).1) then .inl (1, (lk tx L (ps_add S 63 (lk tx L S.1)).1)) else p_blk tx L blk 63 tr lc S.2.1 (ps_at (ps_det (ps_add S 63 (lk tx L S.1)) S.2.1 (tk tx L (lk tx L (ps_add S 63 (lk tx L S.1)).1) - 97)) ((lk tx L (ps_add S 63 (lk tx L S.1)).1) + 1))) := by
  unfold p_part
  rw [e, hb]
  rfl
theorem pf_63 {tx : Nat → Nat} {L : Nat} {blk : Option (Nat → Nat → PS → RS)} {tr lc : Nat} {S : PS} {k : Nat × Nat} (e : tk tx L (lk tx L S.1) = 63) (hb : p_beg S 63 lc (lk tx L S.1) = .inl k) : p_part tx L blk tr lc S = .inl k := by
  unfold p_part
  rw [e, hb]
  rfl
theorem pp_42 {tx : Nat → Nat} {L : Nat} {blk : Option (Nat → Nat → PS → RS)} {tr lc : Nat} {S : PS} (e : tk tx L (lk tx L S.1) = 42) (hb : p_beg S 42 lc (lk tx L S.1) = .inr (ps_add S 42 (lk tx L S.1))) : p_part tx L blk tr lc S = p_blk tx L blk 42 tr lc S.2.1 (ps_add S 42 (lk tx L S.1)) := by
  unfold p_part
  rw [e, hb]
  rfl
theorem pf_42 {tx : Nat → Nat} {L : Nat} {blk : Option (Nat → Nat → PS → RS)} {tr lc : Nat} {S : PS} {k : Nat × Nat} (e : tk tx L (lk tx L S.1) = 42) (hb : p_beg S 42 lc (lk tx L S.1) = .inl k) : p_part tx L blk tr lc S = .inl k := by
  unfold p_part
  rw [e, hb]
  rfl
theorem pp_94 {tx : Nat → Nat} {L : Nat} {blk : Option (Nat → Nat → PS → RS)} {tr lc : Nat} {S : PS} (e : tk tx L (lk tx L S.1) = 94) (hb : p_beg S 94 lc (lk tx L S.1) = .inr (ps_add S 94 (lk tx L S.1))) : p_part tx L blk tr lc S = p_blk tx L blk 94 tr lc S.2.1 (ps_add S 94 (lk tx L S.1)) := by
  unfold p_part
  rw [e, hb]
  rfl
theorem pf_94 {tx : Nat → Nat} {L : Nat} {blk : Option (Nat → Nat → PS → RS)} {tr lc : Nat} {S : PS} {k : Nat × Nat} (e : tk tx L (lk tx L S.1) = 94) (hb : p_beg S 94 lc (lk tx L S.1) = .inl k) : p_part tx L blk tr lc S = .inl k := by
  unfold p_part
  rw [e, hb]
  rfl
theorem pp_64 {tx : Nat → Nat} {L : Nat} {blk : Option (Nat → Nat → PS → RS)} {tr lc : Nat} {S : PS} (e : tk tx L (lk tx L S.1) = 64) (hb : p_beg S 64 lc (lk tx L S.1) = .inr (ps_add S 64 (lk tx L S.1))) : p_part tx L blk tr lc S = (if tk tx L (lk tx L (ps_add S 64 (lk tx L S.1)).1) < 97 ∨ 104 < tk tx L (lk tx L (ps_add S 64 (lk tx L S.1)).1) then .inl (1, (lk tx L (ps_add S 64 (lk tx L S.1)).1)) else p_blk tx L blk 64 tr lc S.2.1 (ps_at (ps_det (ps_add S 64 (lk tx L S.1)) S.2.1 (tk tx L (lk tx L (ps_add S 64 (lk tx L S.1)).1) - 97)) ((lk tx L (ps_add S 64 (lk tx L S.1)).1) + 1))) := by
  unfold p_part
  rw [e, hb]
  rfl
theorem pf_64 {tx : Nat → Nat} {L : Nat} {blk : Option (Nat → Nat → PS → RS)} {tr lc : Nat} {S : PS} {k : Nat × Nat} (e : tk tx L (lk tx L S.1) = 64) (hb : p_beg S 64 lc (lk tx L S.1) = .inl k) : p_part tx L blk tr lc S = .inl k := by
  unfold p_part
  rw [e, hb]
  rfl
theorem pp_126 {tx : Nat → Nat} {L : Nat} {blk : Option (Nat → Nat → PS → RS)} {tr lc : Nat} {S : PS} (e : tk tx L (lk tx L S.1) = 126) (hb : p_beg S 126 lc (lk tx L S.1) = .inr (ps_add S 126 (lk tx L S.1))) : p_part tx L blk tr lc S = (if tk tx L (lk tx L (ps_add S 126 (lk tx L S.1)).1) < 97 ∨ 104 < tk tx L (lk tx L (ps_add S 126 (lk tx L S.1)).1) then .inl (1, (lk tx L (ps_add S 126 (lk tx L S.1)).1)) else p_blk tx L blk 126 tr lc S.2.1 (ps_at (ps_det (ps_add S 126 (lk tx L S.1)) S.2.1 (tk tx L (lk tx L (ps_add S 126 (lk tx L S.1)).1) - 97)) ((lk tx L (ps_add S 126 (lk tx L S.1)).1) + 1))) := by
  unfold p_part
  rw [e, hb]
  rfl
theorem pf_126 {tx : Nat → Nat} {L : Nat} {blk : Option (Nat → Nat → PS → RS)} {tr lc : Nat} {S : PS} {k : Nat × Nat} (e : tk tx L (lk tx L S.1) = 126) (hb : p_beg S 126 lc (lk tx L S.1) = .inl k) : p_part tx L blk tr lc S = .inl k := by
  unfold p_part
  rw [e, hb]
  rfl
theorem pp_36 {tx : Nat → Nat} {L : Nat} {blk : Option (Nat → Nat → PS → RS)} {tr lc : Nat} {S : PS} (e : tk tx L (lk tx L S.1) = 36) (hb : p_beg S 36 lc (lk tx L S.1) = .inr (ps_add S 36 (lk tx L S.1))) : p_part tx L blk tr lc S = (if tk tx L (lk tx L (ps_add S 36 (lk tx L S.1)).1) < 97 ∨ 104 < tk tx L (lk tx L (ps_add S 36 (lk tx L S.1)).1) then .inl (1, (lk tx L (ps_add S 36 (lk tx L S.1)).1)) else p_blk tx L blk 36 tr lc S.2.1 (ps_at (ps_det (ps_add S 36 (lk tx L S.1)) S.2.1 (tk tx L (lk tx L (ps_add S 36 (lk tx L S.1)).1) - 97)) ((lk tx L (ps_add S 36 (lk tx L S.1)).1) + 1))) := by
  unfold p_part
  rw [e, hb]
  rfl
theorem pf_36 {tx : Nat → Nat} {L : Nat} {blk : Option (Nat → Nat → PS → RS)} {tr lc : Nat} {S : PS} {k : Nat × Nat} (e : tk tx L (lk tx L S.1) = 36) (hb : p_beg S 36 lc (lk tx L S.1) = .inl k) : p_part tx L blk tr lc S = .inl k := by
  unfold p_part
  rw [e, hb]
  rfl
set_option maxRecDepth 10000 in
set_option maxHeartbeats 2000000 in
theorem PCt.part {d : Nat} (hd : 8 ≤ d) {τ : Nat → Nat → Nat} {t L br m : Nat} {tx : Nat → Nat} {blk : Option (Nat → Nat → PS → RS)} (hT3 : T3 t) (ht : τ 44 1 = t) (hE : ECt d τ t L tx blk br m) : PCt (d + 1) τ t L tx 89 (p_part tx L blk) br m := by
  intro μ S tr lc Q hX hC hlc htr hF hS
  obtain ⟨k1, k2, k3⟩ := tk_le hX (lk tx L S.1)
  have hlk := lk_le (tx := tx) hC.1
  by_cases e40 : tk tx L (lk tx L S.1) = 40
  · skip
    refine am_enter' (M := M_X6_readPart) rfl rfl rfl (by omega) (ls := [some (.ref 44), some (.int (nI tr)), some (.int (nI lc)), some (.int (nI br)), none, none, none, none, none, none, none]) rfl (fun d' hd' => ?_)
    refine am_run 1 (pc' := 1) (ls' := [some (.ref 44), some (.int (nI tr)), some (.int (nI lc)), some (.int (nI br)), none, none, none, none, none, none, none]) (st' := [.ref 44]) (σ' := (μ, τ)) rfl ?_
    refine am_invv (y := 85) (b := 44) (as := []) (rest := []) rfl rfl rfl rfl rfl rfl rfl (Nat.le_of_ble_eq_true rfl) ?_
    refine c_look (by omega) hT3 hX hC (fun μ1 hK1 hX1 hC1 => ?_)
    rw [e40, tI_n (by decide)]
    show am_G _ M_X6_readPart _ 4 [some (.ref 44), some (.int (nI tr)), some (.int (nI lc)), some (.int (nI br)), none, none, none, none, none, none, none] [.int (nI 40)] (μ1, τ)
    refine am_run 3 (pc' := 10) (ls' := [some (.ref 44), some (.int (nI tr)), some (.int (nI lc)), some (.int (nI br)), some (.int (nI 40)), none, none, none, none, none, none]) (st' := [.int (nI 40), .int (nI 40)]) (σ' := (μ1, τ)) rfl ?_
    refine am_ic (ty := 13) (tn := 25) rfl (by decide) rfl rfl (fun (h_1 : nI 40 = nI 40) => ?_) (fun (h_1 : ¬ (nI 40 = nI 40)) => ?_)
    rotate_left
    · exact absurd (by decide) h_1
    refine am_run 6 (pc' := 21) (ls' := [some (.ref 44), some (.int (nI tr)), some (.int (nI lc)), some (.int (nI br)), some (.int (nI 40)), none, none, none, none, none, none]) (st' := [.int (nI br), .int (nI lc), .int (nI tr), .int (nI 41), .int (nI 40), .ref 44]) (σ' := (μ1, τ)) rfl ?_
    refine am_invv (y := 92) (b := 44) (as := [.int (nI 40), .int (nI 41), .int (nI tr), .int (nI lc), .int (nI br)]) (rest := []) rfl rfl rfl rfl rfl rfl rfl (Nat.le_of_ble_eq_true rfl) ?_
    obtain rfl : d = d' := by omega
    refine hE μ1 (ps_at S (lk tx L S.1)) 40 41 tr lc _ (by decide) (by decide) hX1 hC1 hlc (by omega) (fun μ3 v3 k3 fp3 e3 hK3 hX3 hF3 => ?_) (fun μ3 S3 r3 e3 hK3 hX3 hC3 hr3 hr3b => ?_)
    · refine am_reti rfl rfl ?_
      exact hF μ3 v3 k3 fp3 (by rw [pp_40 e40]; exact e3) (hK1.tr hK3) hX3 hF3
    · refine am_reti rfl rfl ?_
      exact hS μ3 S3 r3 (by rw [pp_40 e40]; exact e3) (hK1.tr hK3) hX3 hC3 hr3 hr3b
  · by_cases hbad : isF (tk tx L (lk tx L S.1)) = false ∧ isB (tk tx L (lk tx L S.1)) = false
    · have hne : ∀ k, k < 256 → (isF k = true ∨ isB k = true) → ¬ tI (tk tx L (lk tx L S.1)) = nI k := fun k hk hf z => by
        have z := (tI_eq k1 hk).mp z
        rw [z] at hbad
        rcases hf with hf | hf
        · exact absurd (hf.symm.trans hbad.1) (by decide)
        · exact absurd (hf.symm.trans hbad.2) (by decide)
      refine am_enter' (M := M_X6_readPart) rfl rfl rfl (by omega) (ls := [some (.ref 44), some (.int (nI tr)), some (.int (nI lc)), some (.int (nI br)), none, none, none, none, none, none, none]) rfl (fun d' hd' => ?_)
      refine am_run 1 (pc' := 1) (ls' := [some (.ref 44), some (.int (nI tr)), some (.int (nI lc)), some (.int (nI br)), none, none, none, none, none, none, none]) (st' := [.ref 44]) (σ' := (μ, τ)) rfl ?_
      refine am_invv (y := 85) (b := 44) (as := []) (rest := []) rfl rfl rfl rfl rfl rfl rfl (Nat.le_of_ble_eq_true rfl) ?_
      refine c_look (by omega) hT3 hX hC (fun μ1 hK1 hX1 hC1 => ?_)
      show am_G _ M_X6_readPart _ 4 [some (.ref 44), some (.int (nI tr)), some (.int (nI lc)), some (.int (nI br)), none, none, none, none, none, none, none] [.int (tI (tk tx L (lk tx L S.1)))] (μ1, τ)
      refine am_run 3 (pc' := 10) (ls' := [some (.ref 44), some (.int (nI tr)), some (.int (nI lc)), some (.int (nI br)), some (.int (tI (tk tx L (lk tx L S.1)))), none, none, none, none, none, none]) (st' := [.int (nI 40), .int (tI (tk tx L (lk tx L S.1)))]) (σ' := (μ1, τ)) rfl ?_
      refine am_ic (ty := 13) (tn := 25) rfl (by decide) rfl rfl (fun (h_1 : tI (tk tx L (lk tx L S.1)) = nI 40) => ?_) (fun (h_1 : ¬ (tI (tk tx L (lk tx L S.1)) = nI 40)) => ?_)
      · exact absurd ((tI_eq k1 (by decide)).mp h_1) e40
      refine am_run 2 (pc' := 29) (ls' := [some (.ref 44), some (.int (nI tr)), some (.int (nI lc)), some (.int (nI br)), some (.int (tI (tk tx L (lk tx L S.1)))), none, none, none, none, none, none]) (st' := [.int (nI 48), .int (tI (tk tx L (lk tx L S.1)))]) (σ' := (μ1, τ)) rfl ?_
      refine am_ic (ty := 75) (tn := 32) rfl (by decide) rfl rfl (fun (h_2 : tI (tk tx L (lk tx L S.1)) = nI 48) => ?_) (fun (h_2 : ¬ (tI (tk tx L (lk tx L S.1)) = nI 48)) => ?_)
      · exact absurd h_2 (hne 48 (by decide) (by decide))
      refine am_run 2 (pc' := 36) (ls' := [some (.ref 44), some (.int (nI tr)), some (.int (nI lc)), some (.int (nI br)), some (.int (tI (tk tx L (lk tx L S.1)))), none, none, none, none, none, none]) (st' := [.int (nI 46), .int (tI (tk tx L (lk tx L S.1)))]) (σ' := (μ1, τ)) rfl ?_
      refine am_ic (ty := 75) (tn := 39) rfl (by decide) rfl rfl (fun (h_3 : tI (tk tx L (lk tx L S.1)) = nI 46) => ?_) (fun (h_3 : ¬ (tI (tk tx L (lk tx L S.1)) = nI 46)) => ?_)
      · exact absurd h_3 (hne 46 (by decide) (by decide))
      refine am_run 2 (pc' := 43) (ls' := [some (.ref 44), some (.int (nI tr)), some (.int (nI lc)), some (.int (nI br)), some (.int (tI (tk tx L (lk tx L S.1)))), none, none, none, none, none, none]) (st' := [.int (nI 120), .int (tI (tk tx L (lk tx L S.1)))]) (σ' := (μ1, τ)) rfl ?_
      refine am_ic (ty := 75) (tn := 46) rfl (by decide) rfl rfl (fun (h_4 : tI (tk tx L (lk tx L S.1)) = nI 120) => ?_) (fun (h_4 : ¬ (tI (tk tx L (lk tx L S.1)) = nI 120)) => ?_)
      · exact absurd h_4 (hne 120 (by decide) (by decide))
      refine am_run 2 (pc' := 50) (ls' := [some (.ref 44), some (.int (nI tr)), some (.int (nI lc)), some (.int (nI br)), some (.int (tI (tk tx L (lk tx L S.1)))), none, none, none, none, none, none]) (st' := [.int (nI 33), .int (tI (tk tx L (lk tx L S.1)))]) (σ' := (μ1, τ)) rfl ?_
      refine am_ic (ty := 75) (tn := 53) rfl (by decide) rfl rfl (fun (h_5 : tI (tk tx L (lk tx L S.1)) = nI 33) => ?_) (fun (h_5 : ¬ (tI (tk tx L (lk tx L S.1)) = nI 33)) => ?_)
      · exact absurd h_5 (hne 33 (by decide) (by decide))
      refine am_run 2 (pc' := 57) (ls' := [some (.ref 44), some (.int (nI tr)), some (.int (nI lc)), some (.int (nI br)), some (.int (tI (tk tx L (lk tx L S.1)))), none, none, none, none, none, none]) (st' := [.int (nI 38), .int (tI (tk tx L (lk tx L S.1)))]) (σ' := (μ1, τ)) rfl ?_
      refine am_ic (ty := 75) (tn := 60) rfl (by decide) rfl rfl (fun (h_6 : tI (tk tx L (lk tx L S.1)) = nI 38) => ?_) (fun (h_6 : ¬ (tI (tk tx L (lk tx L S.1)) = nI 38)) => ?_)
      · exact absurd h_6 (hne 38 (by decide) (by decide))
      refine am_run 1 (pc' := 62) (ls' := [some (.ref 44), some (.int (nI tr)), some (.int (nI lc)), some (.int (nI br)), some (.int (tI (tk tx L (lk tx L S.1)))), none, none, none, none, none, none]) (st' := [.int (tI (tk tx L (lk tx L S.1)))]) (σ' := (μ1, τ)) rfl ?_
      refine am_invs (y := 90) (as := [.int (tI (tk tx L (lk tx L S.1)))]) (rest := []) rfl rfl rfl rfl rfl rfl (Nat.le_of_ble_eq_true rfl) ?_
      refine c_hasBlock (by omega) k1 (fun z => absurd (hbad.2.symm.trans z) (by decide)) (fun _ => ?_)
      show am_G _ M_X6_readPart _ 65 [some (.ref 44), some (.int (nI tr)), some (.int (nI lc)), some (.int (nI br)), some (.int (tI (tk tx L (lk tx L S.1)))), none, none, none, none, none, none] [.int (nI 0)] (μ1, τ)
      refine am_if (ty := 68) (tn := 75) rfl (by decide) rfl rfl (fun (h_7 : nI 0 = 0) => ?_) (fun (h_7 : ¬ (nI 0 = 0)) => ?_)
      rotate_left
      · exact absurd (by decide) h_7
      refine am_run 2 (pc' := 70) (ls' := [some (.ref 44), some (.int (nI tr)), some (.int (nI lc)), some (.int (nI br)), some (.int (tI (tk tx L (lk tx L S.1)))), none, none, none, none, none, none]) (st' := [.int (nI 1), .ref 44]) (σ' := (μ1, τ)) rfl ?_
      refine am_invv (y := 84) (b := 44) (as := [.int (nI 1)]) (rest := []) rfl rfl rfl rfl rfl rfl rfl (Nat.le_of_ble_eq_true rfl) ?_
      refine c_refuse (by omega) hT3 hX1 hC1 (y := 1) (by decide) (fun μ2 hK2 hX2 hF2 _ => ?_)
      show am_G _ M_X6_readPart _ 73 [some (.ref 44), some (.int (nI tr)), some (.int (nI lc)), some (.int (nI br)), some (.int (tI (tk tx L (lk tx L S.1)))), none, none, none, none, none, none] [] (μ2, τ)
      refine am_run 1 (pc' := 74) (ls' := [some (.ref 44), some (.int (nI tr)), some (.int (nI lc)), some (.int (nI br)), some (.int (tI (tk tx L (lk tx L S.1)))), none, none, none, none, none, none]) (st' := [.int (-1)]) (σ' := (μ2, τ)) rfl ?_
      refine am_reti rfl rfl ?_
      exact hF μ2 _ 1 _ (by rw [pp_bad e40 hbad]; rfl) (hK1.tr hK2) hX2 hF2
    · rcases isB_cases hbad e40 with e48 | e46 | e120 | e33 | e38 | e63 | e42 | e94 | e64 | e126 | e36
      · have hqL : lk tx L S.1 < L := k2 (by omega)
        refine am_enter' (M := M_X6_readPart) rfl rfl rfl (by omega) (ls := [some (.ref 44), some (.int (nI tr)), some (.int (nI lc)), some (.int (nI br)), none, none, none, none, none, none, none]) rfl (fun d' hd' => ?_)
        refine am_run 1 (pc' := 1) (ls' := [some (.ref 44), some (.int (nI tr)), some (.int (nI lc)), some (.int (nI br)), none, none, none, none, none, none, none]) (st' := [.ref 44]) (σ' := (μ, τ)) rfl ?_
        refine am_invv (y := 85) (b := 44) (as := []) (rest := []) rfl rfl rfl rfl rfl rfl rfl (Nat.le_of_ble_eq_true rfl) ?_
        refine c_look (by omega) hT3 hX hC (fun μ1 hK1 hX1 hC1 => ?_)
        rw [e48, tI_n (by decide)]
        show am_G _ M_X6_readPart _ 4 [some (.ref 44), some (.int (nI tr)), some (.int (nI lc)), some (.int (nI br)), none, none, none, none, none, none, none] [.int (nI 48)] (μ1, τ)
        refine am_run 3 (pc' := 10) (ls' := [some (.ref 44), some (.int (nI tr)), some (.int (nI lc)), some (.int (nI br)), some (.int (nI 48)), none, none, none, none, none, none]) (st' := [.int (nI 40), .int (nI 48)]) (σ' := (μ1, τ)) rfl ?_
        refine am_ic (ty := 13) (tn := 25) rfl (by decide) rfl rfl (fun (h_1 : nI 48 = nI 40) => ?_) (fun (h_1 : ¬ (nI 48 = nI 40)) => ?_)
        · exact absurd h_1 (by decide)
        refine am_run 2 (pc' := 29) (ls' := [some (.ref 44), some (.int (nI tr)), some (.int (nI lc)), some (.int (nI br)), some (.int (nI 48)), none, none, none, none, none, none]) (st' := [.int (nI 48), .int (nI 48)]) (σ' := (μ1, τ)) rfl ?_
        refine am_ic (ty := 75) (tn := 32) rfl (by decide) rfl rfl (fun (h_2 : nI 48 = nI 48) => ?_) (fun (h_2 : ¬ (nI 48 = nI 48)) => ?_)
        rotate_left
        · exact absurd (by decide) h_2
        refine am_run 3 (pc' := 79) (ls' := [some (.ref 44), some (.int (nI tr)), some (.int (nI lc)), some (.int (nI br)), some (.int (nI 48)), none, none, none, none, none, none]) (st' := [.int (nI lc), .int (nI 48), .ref 44]) (σ' := (μ1, τ)) rfl ?_
        refine am_invv (y := 93) (b := 44) (as := [.int (nI 48), .int (nI lc)]) (rest := []) rfl rfl rfl rfl rfl rfl rfl (Nat.le_of_ble_eq_true rfl) ?_
        obtain rfl : d = d' := by omega
        refine c_begin (by omega) hT3 hX1 hC1 ht (c := 48) (by show lk tx L S.1 < L; exact hqL) (by decide) hlc (fun μ2 k2_ hb0 hK2 hX2 hF2 => ?_) (fun μ2 hb0 hK2 hX2 hC2 => ?_)
        · show am_G _ M_X6_readPart _ 82 [some (.ref 44), some (.int (nI tr)), some (.int (nI lc)), some (.int (nI br)), some (.int (nI 48)), none, none, none, none, none, none] [.int (-1)] (μ2, τ)
          refine am_run 3 (pc' := 88) (ls' := [some (.ref 44), some (.int (nI tr)), some (.int (nI lc)), some (.int (nI br)), some (.int (nI 48)), some (.int (-1)), none, none, none, none, none]) (st' := [.int (nI 120), .int (nI 48)]) (σ' := (μ2, τ)) rfl ?_
          refine am_ic (ty := 91) (tn := 101) rfl (by decide) rfl rfl (fun (h_701 : nI 48 = nI 120) => ?_) (fun (h_701 : ¬ (nI 48 = nI 120)) => ?_)
          · exact absurd h_701 (by decide)
          refine am_run 1 (pc' := 103) (ls' := [some (.ref 44), some (.int (nI tr)), some (.int (nI lc)), some (.int (nI br)), some (.int (nI 48)), some (.int (-1)), none, none, none, none, none]) (st' := [.int (nI 48)]) (σ' := (μ2, τ)) rfl ?_
          refine am_invs (y := 91) (as := [.int (nI 48)]) (rest := []) rfl rfl rfl rfl rfl rfl (Nat.le_of_ble_eq_true rfl) ?_
          rw [← tI_n (show 48 < 256 by decide)]
          refine c_hasSignal (by omega) (by decide) (fun z => absurd z (by decide)) (fun _ => ?_)
          show am_G _ M_X6_readPart _ 106 [some (.ref 44), some (.int (nI tr)), some (.int (nI lc)), some (.int (nI br)), some (.int (nI 48)), some (.int (-1)), none, none, none, none, none] [.int (nI 0)] (μ2, τ)
          refine am_if (ty := 115) (tn := 109) rfl (by decide) rfl rfl (fun (h_702 : nI 0 = 0) => ?_) (fun (h_702 : ¬ (nI 0 = 0)) => ?_)
          rotate_left
          · exact absurd (by decide) h_702
          refine am_run 1 (pc' := 117) (ls' := [some (.ref 44), some (.int (nI tr)), some (.int (nI lc)), some (.int (nI br)), some (.int (nI 48)), some (.int (-1)), none, none, none, none, none]) (st' := [.int (nI 48)]) (σ' := (μ2, τ)) rfl ?_
          refine am_invs (y := 90) (as := [.int (nI 48)]) (rest := []) rfl rfl rfl rfl rfl rfl (Nat.le_of_ble_eq_true rfl) ?_
          rw [← tI_n (show 48 < 256 by decide)]
          refine c_hasBlock (by omega) (by decide) (fun z => absurd z (by decide)) (fun _ => ?_)
          show am_G _ M_X6_readPart _ 120 [some (.ref 44), some (.int (nI tr)), some (.int (nI lc)), some (.int (nI br)), some (.int (nI 48)), some (.int (-1)), none, none, none, none, none] [.int (nI 0)] (μ2, τ)
          refine am_if (ty := 228) (tn := 123) rfl (by decide) rfl rfl (fun (h_703 : nI 0 = 0) => ?_) (fun (h_703 : ¬ (nI 0 = 0)) => ?_)
          rotate_left
          · exact absurd (by decide) h_703
          refine am_run 1 (pc' := 230) (ls' := [some (.ref 44), some (.int (nI tr)), some (.int (nI lc)), some (.int (nI br)), some (.int (nI 48)), some (.int (-1)), none, none, none, none, none]) (st' := [.int (-1)]) (σ' := (μ2, τ)) rfl ?_
          refine am_reti rfl rfl ?_
          exact hF μ2 _ _ _ (pf_48 e48 hb0) (hK1.tr hK2) hX2 hF2
        · have hb : p_beg S 48 lc (lk tx L S.1) = .inr (ps_add S 48 (lk tx L S.1)) := hb0
          have hC2 : CR μ2 t L (ps_add S 48 (lk tx L S.1)) := hC2
          show am_G _ M_X6_readPart _ 82 [some (.ref 44), some (.int (nI tr)), some (.int (nI lc)), some (.int (nI br)), some (.int (nI 48)), none, none, none, none, none, none] [.int (nI S.2.1)] (μ2, τ)
          refine am_run 3 (pc' := 88) (ls' := [some (.ref 44), some (.int (nI tr)), some (.int (nI lc)), some (.int (nI br)), some (.int (nI 48)), some (.int (nI S.2.1)), none, none, none, none, none]) (st' := [.int (nI 120), .int (nI 48)]) (σ' := (μ2, τ)) rfl ?_
          refine am_ic (ty := 91) (tn := 101) rfl (by decide) rfl rfl (fun (h_1001 : nI 48 = nI 120) => ?_) (fun (h_1001 : ¬ (nI 48 = nI 120)) => ?_)
          · exact absurd h_1001 (by decide)
          refine am_run 1 (pc' := 103) (ls' := [some (.ref 44), some (.int (nI tr)), some (.int (nI lc)), some (.int (nI br)), some (.int (nI 48)), some (.int (nI S.2.1)), none, none, none, none, none]) (st' := [.int (nI 48)]) (σ' := (μ2, τ)) rfl ?_
          refine am_invs (y := 91) (as := [.int (nI 48)]) (rest := []) rfl rfl rfl rfl rfl rfl (Nat.le_of_ble_eq_true rfl) ?_
          rw [← tI_n (show 48 < 256 by decide)]
          refine c_hasSignal (by omega) (by decide) (fun z => absurd z (by decide)) (fun _ => ?_)
          show am_G _ M_X6_readPart _ 106 [some (.ref 44), some (.int (nI tr)), some (.int (nI lc)), some (.int (nI br)), some (.int (nI 48)), some (.int (nI S.2.1)), none, none, none, none, none] [.int (nI 0)] (μ2, τ)
          refine am_if (ty := 115) (tn := 109) rfl (by decide) rfl rfl (fun (h_1002 : nI 0 = 0) => ?_) (fun (h_1002 : ¬ (nI 0 = 0)) => ?_)
          rotate_left
          · exact absurd (by decide) h_1002
          refine am_run 1 (pc' := 117) (ls' := [some (.ref 44), some (.int (nI tr)), some (.int (nI lc)), some (.int (nI br)), some (.int (nI 48)), some (.int (nI S.2.1)), none, none, none, none, none]) (st' := [.int (nI 48)]) (σ' := (μ2, τ)) rfl ?_
          refine am_invs (y := 90) (as := [.int (nI 48)]) (rest := []) rfl rfl rfl rfl rfl rfl (Nat.le_of_ble_eq_true rfl) ?_
          rw [← tI_n (show 48 < 256 by decide)]
          refine c_hasBlock (by omega) (by decide) (fun z => absurd z (by decide)) (fun _ => ?_)
          show am_G _ M_X6_readPart _ 120 [some (.ref 44), some (.int (nI tr)), some (.int (nI lc)), some (.int (nI br)), some (.int (nI 48)), some (.int (nI S.2.1)), none, none, none, none, none] [.int (nI 0)] (μ2, τ)
          refine am_if (ty := 228) (tn := 123) rfl (by decide) rfl rfl (fun (h_1003 : nI 0 = 0) => ?_) (fun (h_1003 : ¬ (nI 0 = 0)) => ?_)
          rotate_left
          · exact absurd (by decide) h_1003
          refine am_run 1 (pc' := 230) (ls' := [some (.ref 44), some (.int (nI tr)), some (.int (nI lc)), some (.int (nI br)), some (.int (nI 48)), some (.int (nI S.2.1)), none, none, none, none, none]) (st' := [.int (nI S.2.1)]) (σ' := (μ2, τ)) rfl ?_
          refine am_reti rfl rfl ?_
          exact hS μ2 _ S.2.1 (pp_48 e48 hb) (hK1.tr hK2) hX2 hC2 (Nat.le_refl _) (by show S.2.1 < S.2.1 + 1; omega)
      · have hqL : lk tx L S.1 < L := k2 (by omega)
        refine am_enter' (M := M_X6_readPart) rfl rfl rfl (by omega) (ls := [some (.ref 44), some (.int (nI tr)), some (.int (nI lc)), some (.int (nI br)), none, none, none, none, none, none, none]) rfl (fun d' hd' => ?_)
        refine am_run 1 (pc' := 1) (ls' := [some (.ref 44), some (.int (nI tr)), some (.int (nI lc)), some (.int (nI br)), none, none, none, none, none, none, none]) (st' := [.ref 44]) (σ' := (μ, τ)) rfl ?_
        refine am_invv (y := 85) (b := 44) (as := []) (rest := []) rfl rfl rfl rfl rfl rfl rfl (Nat.le_of_ble_eq_true rfl) ?_
        refine c_look (by omega) hT3 hX hC (fun μ1 hK1 hX1 hC1 => ?_)
        rw [e46, tI_n (by decide)]
        show am_G _ M_X6_readPart _ 4 [some (.ref 44), some (.int (nI tr)), some (.int (nI lc)), some (.int (nI br)), none, none, none, none, none, none, none] [.int (nI 46)] (μ1, τ)
        refine am_run 3 (pc' := 10) (ls' := [some (.ref 44), some (.int (nI tr)), some (.int (nI lc)), some (.int (nI br)), some (.int (nI 46)), none, none, none, none, none, none]) (st' := [.int (nI 40), .int (nI 46)]) (σ' := (μ1, τ)) rfl ?_
        refine am_ic (ty := 13) (tn := 25) rfl (by decide) rfl rfl (fun (h_1 : nI 46 = nI 40) => ?_) (fun (h_1 : ¬ (nI 46 = nI 40)) => ?_)
        · exact absurd h_1 (by decide)
        refine am_run 2 (pc' := 29) (ls' := [some (.ref 44), some (.int (nI tr)), some (.int (nI lc)), some (.int (nI br)), some (.int (nI 46)), none, none, none, none, none, none]) (st' := [.int (nI 48), .int (nI 46)]) (σ' := (μ1, τ)) rfl ?_
        refine am_ic (ty := 75) (tn := 32) rfl (by decide) rfl rfl (fun (h_2 : nI 46 = nI 48) => ?_) (fun (h_2 : ¬ (nI 46 = nI 48)) => ?_)
        · exact absurd h_2 (by decide)
        refine am_run 2 (pc' := 36) (ls' := [some (.ref 44), some (.int (nI tr)), some (.int (nI lc)), some (.int (nI br)), some (.int (nI 46)), none, none, none, none, none, none]) (st' := [.int (nI 46), .int (nI 46)]) (σ' := (μ1, τ)) rfl ?_
        refine am_ic (ty := 75) (tn := 39) rfl (by decide) rfl rfl (fun (h_3 : nI 46 = nI 46) => ?_) (fun (h_3 : ¬ (nI 46 = nI 46)) => ?_)
        rotate_left
        · exact absurd (by decide) h_3
        refine am_run 3 (pc' := 79) (ls' := [some (.ref 44), some (.int (nI tr)), some (.int (nI lc)), some (.int (nI br)), some (.int (nI 46)), none, none, none, none, none, none]) (st' := [.int (nI lc), .int (nI 46), .ref 44]) (σ' := (μ1, τ)) rfl ?_
        refine am_invv (y := 93) (b := 44) (as := [.int (nI 46), .int (nI lc)]) (rest := []) rfl rfl rfl rfl rfl rfl rfl (Nat.le_of_ble_eq_true rfl) ?_
        obtain rfl : d = d' := by omega
        refine c_begin (by omega) hT3 hX1 hC1 ht (c := 46) (by show lk tx L S.1 < L; exact hqL) (by decide) hlc (fun μ2 k2_ hb0 hK2 hX2 hF2 => ?_) (fun μ2 hb0 hK2 hX2 hC2 => ?_)
        · show am_G _ M_X6_readPart _ 82 [some (.ref 44), some (.int (nI tr)), some (.int (nI lc)), some (.int (nI br)), some (.int (nI 46)), none, none, none, none, none, none] [.int (-1)] (μ2, τ)
          refine am_run 3 (pc' := 88) (ls' := [some (.ref 44), some (.int (nI tr)), some (.int (nI lc)), some (.int (nI br)), some (.int (nI 46)), some (.int (-1)), none, none, none, none, none]) (st' := [.int (nI 120), .int (nI 46)]) (σ' := (μ2, τ)) rfl ?_
          refine am_ic (ty := 91) (tn := 101) rfl (by decide) rfl rfl (fun (h_701 : nI 46 = nI 120) => ?_) (fun (h_701 : ¬ (nI 46 = nI 120)) => ?_)
          · exact absurd h_701 (by decide)
          refine am_run 1 (pc' := 103) (ls' := [some (.ref 44), some (.int (nI tr)), some (.int (nI lc)), some (.int (nI br)), some (.int (nI 46)), some (.int (-1)), none, none, none, none, none]) (st' := [.int (nI 46)]) (σ' := (μ2, τ)) rfl ?_
          refine am_invs (y := 91) (as := [.int (nI 46)]) (rest := []) rfl rfl rfl rfl rfl rfl (Nat.le_of_ble_eq_true rfl) ?_
          rw [← tI_n (show 46 < 256 by decide)]
          refine c_hasSignal (by omega) (by decide) (fun z => absurd z (by decide)) (fun _ => ?_)
          show am_G _ M_X6_readPart _ 106 [some (.ref 44), some (.int (nI tr)), some (.int (nI lc)), some (.int (nI br)), some (.int (nI 46)), some (.int (-1)), none, none, none, none, none] [.int (nI 0)] (μ2, τ)
          refine am_if (ty := 115) (tn := 109) rfl (by decide) rfl rfl (fun (h_702 : nI 0 = 0) => ?_) (fun (h_702 : ¬ (nI 0 = 0)) => ?_)
          rotate_left
          · exact absurd (by decide) h_702
          refine am_run 1 (pc' := 117) (ls' := [some (.ref 44), some (.int (nI tr)), some (.int (nI lc)), some (.int (nI br)), some (.int (nI 46)), some (.int (-1)), none, none, none, none, none]) (st' := [.int (nI 46)]) (σ' := (μ2, τ)) rfl ?_
          refine am_invs (y := 90) (as := [.int (nI 46)]) (rest := []) rfl rfl rfl rfl rfl rfl (Nat.le_of_ble_eq_true rfl) ?_
          rw [← tI_n (show 46 < 256 by decide)]
          refine c_hasBlock (by omega) (by decide) (fun z => absurd z (by decide)) (fun _ => ?_)
          show am_G _ M_X6_readPart _ 120 [some (.ref 44), some (.int (nI tr)), some (.int (nI lc)), some (.int (nI br)), some (.int (nI 46)), some (.int (-1)), none, none, none, none, none] [.int (nI 0)] (μ2, τ)
          refine am_if (ty := 228) (tn := 123) rfl (by decide) rfl rfl (fun (h_703 : nI 0 = 0) => ?_) (fun (h_703 : ¬ (nI 0 = 0)) => ?_)
          rotate_left
          · exact absurd (by decide) h_703
          refine am_run 1 (pc' := 230) (ls' := [some (.ref 44), some (.int (nI tr)), some (.int (nI lc)), some (.int (nI br)), some (.int (nI 46)), some (.int (-1)), none, none, none, none, none]) (st' := [.int (-1)]) (σ' := (μ2, τ)) rfl ?_
          refine am_reti rfl rfl ?_
          exact hF μ2 _ _ _ (pf_46 e46 hb0) (hK1.tr hK2) hX2 hF2
        · have hb : p_beg S 46 lc (lk tx L S.1) = .inr (ps_add S 46 (lk tx L S.1)) := hb0
          have hC2 : CR μ2 t L (ps_add S 46 (lk tx L S.1)) := hC2
          show am_G _ M_X6_readPart _ 82 [some (.ref 44), some (.int (nI tr)), some (.int (nI lc)), some (.int (nI br)), some (.int (nI 46)), none, none, none, none, none, none] [.int (nI S.2.1)] (μ2, τ)
          refine am_run 3 (pc' := 88) (ls' := [some (.ref 44), some (.int (nI tr)), some (.int (nI lc)), some (.int (nI br)), some (.int (nI 46)), some (.int (nI S.2.1)), none, none, none, none, none]) (st' := [.int (nI 120), .int (nI 46)]) (σ' := (μ2, τ)) rfl ?_
          refine am_ic (ty := 91) (tn := 101) rfl (by decide) rfl rfl (fun (h_1001 : nI 46 = nI 120) => ?_) (fun (h_1001 : ¬ (nI 46 = nI 120)) => ?_)
          · exact absurd h_1001 (by decide)
          refine am_run 1 (pc' := 103) (ls' := [some (.ref 44), some (.int (nI tr)), some (.int (nI lc)), some (.int (nI br)), some (.int (nI 46)), some (.int (nI S.2.1)), none, none, none, none, none]) (st' := [.int (nI 46)]) (σ' := (μ2, τ)) rfl ?_
          refine am_invs (y := 91) (as := [.int (nI 46)]) (rest := []) rfl rfl rfl rfl rfl rfl (Nat.le_of_ble_eq_true rfl) ?_
          rw [← tI_n (show 46 < 256 by decide)]
          refine c_hasSignal (by omega) (by decide) (fun z => absurd z (by decide)) (fun _ => ?_)
          show am_G _ M_X6_readPart _ 106 [some (.ref 44), some (.int (nI tr)), some (.int (nI lc)), some (.int (nI br)), some (.int (nI 46)), some (.int (nI S.2.1)), none, none, none, none, none] [.int (nI 0)] (μ2, τ)
          refine am_if (ty := 115) (tn := 109) rfl (by decide) rfl rfl (fun (h_1002 : nI 0 = 0) => ?_) (fun (h_1002 : ¬ (nI 0 = 0)) => ?_)
          rotate_left
          · exact absurd (by decide) h_1002
          refine am_run 1 (pc' := 117) (ls' := [some (.ref 44), some (.int (nI tr)), some (.int (nI lc)), some (.int (nI br)), some (.int (nI 46)), some (.int (nI S.2.1)), none, none, none, none, none]) (st' := [.int (nI 46)]) (σ' := (μ2, τ)) rfl ?_
          refine am_invs (y := 90) (as := [.int (nI 46)]) (rest := []) rfl rfl rfl rfl rfl rfl (Nat.le_of_ble_eq_true rfl) ?_
          rw [← tI_n (show 46 < 256 by decide)]
          refine c_hasBlock (by omega) (by decide) (fun z => absurd z (by decide)) (fun _ => ?_)
          show am_G _ M_X6_readPart _ 120 [some (.ref 44), some (.int (nI tr)), some (.int (nI lc)), some (.int (nI br)), some (.int (nI 46)), some (.int (nI S.2.1)), none, none, none, none, none] [.int (nI 0)] (μ2, τ)
          refine am_if (ty := 228) (tn := 123) rfl (by decide) rfl rfl (fun (h_1003 : nI 0 = 0) => ?_) (fun (h_1003 : ¬ (nI 0 = 0)) => ?_)
          rotate_left
          · exact absurd (by decide) h_1003
          refine am_run 1 (pc' := 230) (ls' := [some (.ref 44), some (.int (nI tr)), some (.int (nI lc)), some (.int (nI br)), some (.int (nI 46)), some (.int (nI S.2.1)), none, none, none, none, none]) (st' := [.int (nI S.2.1)]) (σ' := (μ2, τ)) rfl ?_
          refine am_reti rfl rfl ?_
          exact hS μ2 _ S.2.1 (pp_46 e46 hb) (hK1.tr hK2) hX2 hC2 (Nat.le_refl _) (by show S.2.1 < S.2.1 + 1; omega)
      · have hqL : lk tx L S.1 < L := k2 (by omega)
        refine am_enter' (M := M_X6_readPart) rfl rfl rfl (by omega) (ls := [some (.ref 44), some (.int (nI tr)), some (.int (nI lc)), some (.int (nI br)), none, none, none, none, none, none, none]) rfl (fun d' hd' => ?_)
        refine am_run 1 (pc' := 1) (ls' := [some (.ref 44), some (.int (nI tr)), some (.int (nI lc)), some (.int (nI br)), none, none, none, none, none, none, none]) (st' := [.ref 44]) (σ' := (μ, τ)) rfl ?_
        refine am_invv (y := 85) (b := 44) (as := []) (rest := []) rfl rfl rfl rfl rfl rfl rfl (Nat.le_of_ble_eq_true rfl) ?_
        refine c_look (by omega) hT3 hX hC (fun μ1 hK1 hX1 hC1 => ?_)
        rw [e120, tI_n (by decide)]
        show am_G _ M_X6_readPart _ 4 [some (.ref 44), some (.int (nI tr)), some (.int (nI lc)), some (.int (nI br)), none, none, none, none, none, none, none] [.int (nI 120)] (μ1, τ)
        refine am_run 3 (pc' := 10) (ls' := [some (.ref 44), some (.int (nI tr)), some (.int (nI lc)), some (.int (nI br)), some (.int (nI 120)), none, none, none, none, none, none]) (st' := [.int (nI 40), .int (nI 120)]) (σ' := (μ1, τ)) rfl ?_
        refine am_ic (ty := 13) (tn := 25) rfl (by decide) rfl rfl (fun (h_1 : nI 120 = nI 40) => ?_) (fun (h_1 : ¬ (nI 120 = nI 40)) => ?_)
        · exact absurd h_1 (by decide)
        refine am_run 2 (pc' := 29) (ls' := [some (.ref 44), some (.int (nI tr)), some (.int (nI lc)), some (.int (nI br)), some (.int (nI 120)), none, none, none, none, none, none]) (st' := [.int (nI 48), .int (nI 120)]) (σ' := (μ1, τ)) rfl ?_
        refine am_ic (ty := 75) (tn := 32) rfl (by decide) rfl rfl (fun (h_2 : nI 120 = nI 48) => ?_) (fun (h_2 : ¬ (nI 120 = nI 48)) => ?_)
        · exact absurd h_2 (by decide)
        refine am_run 2 (pc' := 36) (ls' := [some (.ref 44), some (.int (nI tr)), some (.int (nI lc)), some (.int (nI br)), some (.int (nI 120)), none, none, none, none, none, none]) (st' := [.int (nI 46), .int (nI 120)]) (σ' := (μ1, τ)) rfl ?_
        refine am_ic (ty := 75) (tn := 39) rfl (by decide) rfl rfl (fun (h_3 : nI 120 = nI 46) => ?_) (fun (h_3 : ¬ (nI 120 = nI 46)) => ?_)
        · exact absurd h_3 (by decide)
        refine am_run 2 (pc' := 43) (ls' := [some (.ref 44), some (.int (nI tr)), some (.int (nI lc)), some (.int (nI br)), some (.int (nI 120)), none, none, none, none, none, none]) (st' := [.int (nI 120), .int (nI 120)]) (σ' := (μ1, τ)) rfl ?_
        refine am_ic (ty := 75) (tn := 46) rfl (by decide) rfl rfl (fun (h_4 : nI 120 = nI 120) => ?_) (fun (h_4 : ¬ (nI 120 = nI 120)) => ?_)
        rotate_left
        · exact absurd (by decide) h_4
        refine am_run 3 (pc' := 79) (ls' := [some (.ref 44), some (.int (nI tr)), some (.int (nI lc)), some (.int (nI br)), some (.int (nI 120)), none, none, none, none, none, none]) (st' := [.int (nI lc), .int (nI 120), .ref 44]) (σ' := (μ1, τ)) rfl ?_
        refine am_invv (y := 93) (b := 44) (as := [.int (nI 120), .int (nI lc)]) (rest := []) rfl rfl rfl rfl rfl rfl rfl (Nat.le_of_ble_eq_true rfl) ?_
        obtain rfl : d = d' := by omega
        refine c_begin (by omega) hT3 hX1 hC1 ht (c := 120) (by show lk tx L S.1 < L; exact hqL) (by decide) hlc (fun μ2 k2_ hb0 hK2 hX2 hF2 => ?_) (fun μ2 hb0 hK2 hX2 hC2 => ?_)
        · show am_G _ M_X6_readPart _ 82 [some (.ref 44), some (.int (nI tr)), some (.int (nI lc)), some (.int (nI br)), some (.int (nI 120)), none, none, none, none, none, none] [.int (-1)] (μ2, τ)
          refine am_run 3 (pc' := 88) (ls' := [some (.ref 44), some (.int (nI tr)), some (.int (nI lc)), some (.int (nI br)), some (.int (nI 120)), some (.int (-1)), none, none, none, none, none]) (st' := [.int (nI 120), .int (nI 120)]) (σ' := (μ2, τ)) rfl ?_
          refine am_ic (ty := 91) (tn := 101) rfl (by decide) rfl rfl (fun (h_701 : nI 120 = nI 120) => ?_) (fun (h_701 : ¬ (nI 120 = nI 120)) => ?_)
          rotate_left
          · exact absurd (by decide) h_701
          refine am_run 3 (pc' := 95) (ls' := [some (.ref 44), some (.int (nI tr)), some (.int (nI lc)), some (.int (nI br)), some (.int (nI 120)), some (.int (-1)), none, none, none, none, none]) (st' := [.int (nI tr), .int (-1), .ref 44]) (σ' := (μ2, τ)) rfl ?_
          refine am_invv (y := 95) (b := 44) (as := [.int (-1), .int (nI tr)]) (rest := []) rfl rfl rfl rfl rfl rfl rfl (Nat.le_of_ble_eq_true rfl) ?_
          refine c_readDigit_f (by omega) hT3 hX2 hF2 ht (fun μ12 hK12 hX12 hF12 => ?_)
          show am_G _ M_X6_readPart _ 98 [some (.ref 44), some (.int (nI tr)), some (.int (nI lc)), some (.int (nI br)), some (.int (nI 120)), some (.int (-1)), none, none, none, none, none] [] (μ12, τ)
          refine am_run 2 (pc' := 117) (ls' := [some (.ref 44), some (.int (nI tr)), some (.int (nI lc)), some (.int (nI br)), some (.int (nI 120)), some (.int (-1)), none, none, none, none, none]) (st' := [.int (nI 120)]) (σ' := (μ12, τ)) rfl ?_
          refine am_invs (y := 90) (as := [.int (nI 120)]) (rest := []) rfl rfl rfl rfl rfl rfl (Nat.le_of_ble_eq_true rfl) ?_
          rw [← tI_n (show 120 < 256 by decide)]
          refine c_hasBlock (by omega) (by decide) (fun z => absurd z (by decide)) (fun _ => ?_)
          show am_G _ M_X6_readPart _ 120 [some (.ref 44), some (.int (nI tr)), some (.int (nI lc)), some (.int (nI br)), some (.int (nI 120)), some (.int (-1)), none, none, none, none, none] [.int (nI 0)] (μ12, τ)
          refine am_if (ty := 228) (tn := 123) rfl (by decide) rfl rfl (fun (h_702 : nI 0 = 0) => ?_) (fun (h_702 : ¬ (nI 0 = 0)) => ?_)
          rotate_left
          · exact absurd (by decide) h_702
          refine am_run 1 (pc' := 230) (ls' := [some (.ref 44), some (.int (nI tr)), some (.int (nI lc)), some (.int (nI br)), some (.int (nI 120)), some (.int (-1)), none, none, none, none, none]) (st' := [.int (-1)]) (σ' := (μ12, τ)) rfl ?_
          refine am_reti rfl rfl ?_
          exact hF μ12 _ _ _ (pf_120 e120 hb0) ((hK1.tr hK2).tr hK12) hX12 hF12
        · have hb : p_beg S 120 lc (lk tx L S.1) = .inr (ps_add S 120 (lk tx L S.1)) := hb0
          have hC2 : CR μ2 t L (ps_add S 120 (lk tx L S.1)) := hC2
          show am_G _ M_X6_readPart _ 82 [some (.ref 44), some (.int (nI tr)), some (.int (nI lc)), some (.int (nI br)), some (.int (nI 120)), none, none, none, none, none, none] [.int (nI S.2.1)] (μ2, τ)
          refine am_run 3 (pc' := 88) (ls' := [some (.ref 44), some (.int (nI tr)), some (.int (nI lc)), some (.int (nI br)), some (.int (nI 120)), some (.int (nI S.2.1)), none, none, none, none, none]) (st' := [.int (nI 120), .int (nI 120)]) (σ' := (μ2, τ)) rfl ?_
          refine am_ic (ty := 91) (tn := 101) rfl (by decide) rfl rfl (fun (h_1001 : nI 120 = nI 120) => ?_) (fun (h_1001 : ¬ (nI 120 = nI 120)) => ?_)
          rotate_left
          · exact absurd (by decide) h_1001
          refine am_run 3 (pc' := 95) (ls' := [some (.ref 44), some (.int (nI tr)), some (.int (nI lc)), some (.int (nI br)), some (.int (nI 120)), some (.int (nI S.2.1)), none, none, none, none, none]) (st' := [.int (nI tr), .int (nI S.2.1), .ref 44]) (σ' := (μ2, τ)) rfl ?_
          refine am_invv (y := 95) (b := 44) (as := [.int (nI S.2.1), .int (nI tr)]) (rest := []) rfl rfl rfl rfl rfl rfl rfl (Nat.le_of_ble_eq_true rfl) ?_
          refine c_readDigit (by omega) hT3 hX2 hC2 ht (st := S.2.1) (by show S.2.1 < S.2.1 + 1; omega) (by omega) (fun μ3 hr hK3 hX3 hF3 => ?_) (fun μ3 hr hr2 hK3 hX3 hF3 => ?_) (fun μ3 hr hr2 hK3 hX3 hC3 => ?_)
          · show am_G _ M_X6_readPart _ 98 [some (.ref 44), some (.int (nI tr)), some (.int (nI lc)), some (.int (nI br)), some (.int (nI 120)), some (.int (nI S.2.1)), none, none, none, none, none] [] (μ3, τ)
            refine am_run 2 (pc' := 117) (ls' := [some (.ref 44), some (.int (nI tr)), some (.int (nI lc)), some (.int (nI br)), some (.int (nI 120)), some (.int (nI S.2.1)), none, none, none, none, none]) (st' := [.int (nI 120)]) (σ' := (μ3, τ)) rfl ?_
            refine am_invs (y := 90) (as := [.int (nI 120)]) (rest := []) rfl rfl rfl rfl rfl rfl (Nat.le_of_ble_eq_true rfl) ?_
            rw [← tI_n (show 120 < 256 by decide)]
            refine c_hasBlock (by omega) (by decide) (fun z => absurd z (by decide)) (fun _ => ?_)
            show am_G _ M_X6_readPart _ 120 [some (.ref 44), some (.int (nI tr)), some (.int (nI lc)), some (.int (nI br)), some (.int (nI 120)), some (.int (nI S.2.1)), none, none, none, none, none] [.int (nI 0)] (μ3, τ)
            refine am_if (ty := 228) (tn := 123) rfl (by decide) rfl rfl (fun (h_901 : nI 0 = 0) => ?_) (fun (h_901 : ¬ (nI 0 = 0)) => ?_)
            rotate_left
            · exact absurd (by decide) h_901
            refine am_run 1 (pc' := 230) (ls' := [some (.ref 44), some (.int (nI tr)), some (.int (nI lc)), some (.int (nI br)), some (.int (nI 120)), some (.int (nI S.2.1)), none, none, none, none, none]) (st' := [.int (nI S.2.1)]) (σ' := (μ3, τ)) rfl ?_
            refine am_reti rfl rfl ?_
            exact hF μ3 _ _ _ (by rw [pp_120 e120 hb, if_pos hr]) ((hK1.tr hK2).tr hK3) hX3 hF3
          · show am_G _ M_X6_readPart _ 98 [some (.ref 44), some (.int (nI tr)), some (.int (nI lc)), some (.int (nI br)), some (.int (nI 120)), some (.int (nI S.2.1)), none, none, none, none, none] [] (μ3, τ)
            refine am_run 2 (pc' := 117) (ls' := [some (.ref 44), some (.int (nI tr)), some (.int (nI lc)), some (.int (nI br)), some (.int (nI 120)), some (.int (nI S.2.1)), none, none, none, none, none]) (st' := [.int (nI 120)]) (σ' := (μ3, τ)) rfl ?_
            refine am_invs (y := 90) (as := [.int (nI 120)]) (rest := []) rfl rfl rfl rfl rfl rfl (Nat.le_of_ble_eq_true rfl) ?_
            rw [← tI_n (show 120 < 256 by decide)]
            refine c_hasBlock (by omega) (by decide) (fun z => absurd z (by decide)) (fun _ => ?_)
            show am_G _ M_X6_readPart _ 120 [some (.ref 44), some (.int (nI tr)), some (.int (nI lc)), some (.int (nI br)), some (.int (nI 120)), some (.int (nI S.2.1)), none, none, none, none, none] [.int (nI 0)] (μ3, τ)
            refine am_if (ty := 228) (tn := 123) rfl (by decide) rfl rfl (fun (h_901 : nI 0 = 0) => ?_) (fun (h_901 : ¬ (nI 0 = 0)) => ?_)
            rotate_left
            · exact absurd (by decide) h_901
            refine am_run 1 (pc' := 230) (ls' := [some (.ref 44), some (.int (nI tr)), some (.int (nI lc)), some (.int (nI br)), some (.int (nI 120)), some (.int (nI S.2.1)), none, none, none, none, none]) (st' := [.int (nI S.2.1)]) (σ' := (μ3, τ)) rfl ?_
            refine am_reti rfl rfl ?_
            exact hF μ3 _ _ _ (by rw [pp_120 e120 hb, if_neg hr, if_pos hr2]) ((hK1.tr hK2).tr hK3) hX3 hF3
          · show am_G _ M_X6_readPart _ 98 [some (.ref 44), some (.int (nI tr)), some (.int (nI lc)), some (.int (nI br)), some (.int (nI 120)), some (.int (nI S.2.1)), none, none, none, none, none] [] (μ3, τ)
            refine am_run 2 (pc' := 117) (ls' := [some (.ref 44), some (.int (nI tr)), some (.int (nI lc)), some (.int (nI br)), some (.int (nI 120)), some (.int (nI S.2.1)), none, none, none, none, none]) (st' := [.int (nI 120)]) (σ' := (μ3, τ)) rfl ?_
            refine am_invs (y := 90) (as := [.int (nI 120)]) (rest := []) rfl rfl rfl rfl rfl rfl (Nat.le_of_ble_eq_true rfl) ?_
            rw [← tI_n (show 120 < 256 by decide)]
            refine c_hasBlock (by omega) (by decide) (fun z => absurd z (by decide)) (fun _ => ?_)
            show am_G _ M_X6_readPart _ 120 [some (.ref 44), some (.int (nI tr)), some (.int (nI lc)), some (.int (nI br)), some (.int (nI 120)), some (.int (nI S.2.1)), none, none, none, none, none] [.int (nI 0)] (μ3, τ)
            refine am_if (ty := 228) (tn := 123) rfl (by decide) rfl rfl (fun (h_1101 : nI 0 = 0) => ?_) (fun (h_1101 : ¬ (nI 0 = 0)) => ?_)
            rotate_left
            · exact absurd (by decide) h_1101
            refine am_run 1 (pc' := 230) (ls' := [some (.ref 44), some (.int (nI tr)), some (.int (nI lc)), some (.int (nI br)), some (.int (nI 120)), some (.int (nI S.2.1)), none, none, none, none, none]) (st' := [.int (nI S.2.1)]) (σ' := (μ3, τ)) rfl ?_
            refine am_reti rfl rfl ?_
            exact hS μ3 _ S.2.1 (by rw [pp_120 e120 hb, if_neg hr, if_neg hr2]) ((hK1.tr hK2).tr hK3) hX3 hC3 (Nat.le_refl _) (by show S.2.1 < S.2.1 + 1; omega)
      · have hqL : lk tx L S.1 < L := k2 (by omega)
        refine am_enter' (M := M_X6_readPart) rfl rfl rfl (by omega) (ls := [some (.ref 44), some (.int (nI tr)), some (.int (nI lc)), some (.int (nI br)), none, none, none, none, none, none, none]) rfl (fun d' hd' => ?_)
        refine am_run 1 (pc' := 1) (ls' := [some (.ref 44), some (.int (nI tr)), some (.int (nI lc)), some (.int (nI br)), none, none, none, none, none, none, none]) (st' := [.ref 44]) (σ' := (μ, τ)) rfl ?_
        refine am_invv (y := 85) (b := 44) (as := []) (rest := []) rfl rfl rfl rfl rfl rfl rfl (Nat.le_of_ble_eq_true rfl) ?_
        refine c_look (by omega) hT3 hX hC (fun μ1 hK1 hX1 hC1 => ?_)
        rw [e33, tI_n (by decide)]
        show am_G _ M_X6_readPart _ 4 [some (.ref 44), some (.int (nI tr)), some (.int (nI lc)), some (.int (nI br)), none, none, none, none, none, none, none] [.int (nI 33)] (μ1, τ)
        refine am_run 3 (pc' := 10) (ls' := [some (.ref 44), some (.int (nI tr)), some (.int (nI lc)), some (.int (nI br)), some (.int (nI 33)), none, none, none, none, none, none]) (st' := [.int (nI 40), .int (nI 33)]) (σ' := (μ1, τ)) rfl ?_
        refine am_ic (ty := 13) (tn := 25) rfl (by decide) rfl rfl (fun (h_1 : nI 33 = nI 40) => ?_) (fun (h_1 : ¬ (nI 33 = nI 40)) => ?_)
        · exact absurd h_1 (by decide)
        refine am_run 2 (pc' := 29) (ls' := [some (.ref 44), some (.int (nI tr)), some (.int (nI lc)), some (.int (nI br)), some (.int (nI 33)), none, none, none, none, none, none]) (st' := [.int (nI 48), .int (nI 33)]) (σ' := (μ1, τ)) rfl ?_
        refine am_ic (ty := 75) (tn := 32) rfl (by decide) rfl rfl (fun (h_2 : nI 33 = nI 48) => ?_) (fun (h_2 : ¬ (nI 33 = nI 48)) => ?_)
        · exact absurd h_2 (by decide)
        refine am_run 2 (pc' := 36) (ls' := [some (.ref 44), some (.int (nI tr)), some (.int (nI lc)), some (.int (nI br)), some (.int (nI 33)), none, none, none, none, none, none]) (st' := [.int (nI 46), .int (nI 33)]) (σ' := (μ1, τ)) rfl ?_
        refine am_ic (ty := 75) (tn := 39) rfl (by decide) rfl rfl (fun (h_3 : nI 33 = nI 46) => ?_) (fun (h_3 : ¬ (nI 33 = nI 46)) => ?_)
        · exact absurd h_3 (by decide)
        refine am_run 2 (pc' := 43) (ls' := [some (.ref 44), some (.int (nI tr)), some (.int (nI lc)), some (.int (nI br)), some (.int (nI 33)), none, none, none, none, none, none]) (st' := [.int (nI 120), .int (nI 33)]) (σ' := (μ1, τ)) rfl ?_
        refine am_ic (ty := 75) (tn := 46) rfl (by decide) rfl rfl (fun (h_4 : nI 33 = nI 120) => ?_) (fun (h_4 : ¬ (nI 33 = nI 120)) => ?_)
        · exact absurd h_4 (by decide)
        refine am_run 2 (pc' := 50) (ls' := [some (.ref 44), some (.int (nI tr)), some (.int (nI lc)), some (.int (nI br)), some (.int (nI 33)), none, none, none, none, none, none]) (st' := [.int (nI 33), .int (nI 33)]) (σ' := (μ1, τ)) rfl ?_
        refine am_ic (ty := 75) (tn := 53) rfl (by decide) rfl rfl (fun (h_5 : nI 33 = nI 33) => ?_) (fun (h_5 : ¬ (nI 33 = nI 33)) => ?_)
        rotate_left
        · exact absurd (by decide) h_5
        refine am_run 3 (pc' := 79) (ls' := [some (.ref 44), some (.int (nI tr)), some (.int (nI lc)), some (.int (nI br)), some (.int (nI 33)), none, none, none, none, none, none]) (st' := [.int (nI lc), .int (nI 33), .ref 44]) (σ' := (μ1, τ)) rfl ?_
        refine am_invv (y := 93) (b := 44) (as := [.int (nI 33), .int (nI lc)]) (rest := []) rfl rfl rfl rfl rfl rfl rfl (Nat.le_of_ble_eq_true rfl) ?_
        obtain rfl : d = d' := by omega
        refine c_begin (by omega) hT3 hX1 hC1 ht (c := 33) (by show lk tx L S.1 < L; exact hqL) (by decide) hlc (fun μ2 k2_ hb0 hK2 hX2 hF2 => ?_) (fun μ2 hb0 hK2 hX2 hC2 => ?_)
        · show am_G _ M_X6_readPart _ 82 [some (.ref 44), some (.int (nI tr)), some (.int (nI lc)), some (.int (nI br)), some (.int (nI 33)), none, none, none, none, none, none] [.int (-1)] (μ2, τ)
          refine am_run 3 (pc' := 88) (ls' := [some (.ref 44), some (.int (nI tr)), some (.int (nI lc)), some (.int (nI br)), some (.int (nI 33)), some (.int (-1)), none, none, none, none, none]) (st' := [.int (nI 120), .int (nI 33)]) (σ' := (μ2, τ)) rfl ?_
          refine am_ic (ty := 91) (tn := 101) rfl (by decide) rfl rfl (fun (h_701 : nI 33 = nI 120) => ?_) (fun (h_701 : ¬ (nI 33 = nI 120)) => ?_)
          · exact absurd h_701 (by decide)
          refine am_run 1 (pc' := 103) (ls' := [some (.ref 44), some (.int (nI tr)), some (.int (nI lc)), some (.int (nI br)), some (.int (nI 33)), some (.int (-1)), none, none, none, none, none]) (st' := [.int (nI 33)]) (σ' := (μ2, τ)) rfl ?_
          refine am_invs (y := 91) (as := [.int (nI 33)]) (rest := []) rfl rfl rfl rfl rfl rfl (Nat.le_of_ble_eq_true rfl) ?_
          rw [← tI_n (show 33 < 256 by decide)]
          refine c_hasSignal (by omega) (by decide) (fun _ => ?_) (fun z => absurd z (by decide))
          show am_G _ M_X6_readPart _ 106 [some (.ref 44), some (.int (nI tr)), some (.int (nI lc)), some (.int (nI br)), some (.int (nI 33)), some (.int (-1)), none, none, none, none, none] [.int (nI 1)] (μ2, τ)
          refine am_if (ty := 115) (tn := 109) rfl (by decide) rfl rfl (fun (h_702 : nI 1 = 0) => ?_) (fun (h_702 : ¬ (nI 1 = 0)) => ?_)
          · exact absurd h_702 (by decide)
          refine am_run 2 (pc' := 112) (ls' := [some (.ref 44), some (.int (nI tr)), some (.int (nI lc)), some (.int (nI br)), some (.int (nI 33)), some (.int (-1)), none, none, none, none, none]) (st' := [.int (-1), .ref 44]) (σ' := (μ2, τ)) rfl ?_
          refine am_invv (y := 94) (b := 44) (as := [.int (-1)]) (rest := []) rfl rfl rfl rfl rfl rfl rfl (Nat.le_of_ble_eq_true rfl) ?_
          refine c_readSignal_f (by omega) hT3 hX2 hF2 ht (fun μ12 hK12 hX12 hF12 => ?_)
          show am_G _ M_X6_readPart _ 115 [some (.ref 44), some (.int (nI tr)), some (.int (nI lc)), some (.int (nI br)), some (.int (nI 33)), some (.int (-1)), none, none, none, none, none] [] (μ12, τ)
          refine am_run 1 (pc' := 117) (ls' := [some (.ref 44), some (.int (nI tr)), some (.int (nI lc)), some (.int (nI br)), some (.int (nI 33)), some (.int (-1)), none, none, none, none, none]) (st' := [.int (nI 33)]) (σ' := (μ12, τ)) rfl ?_
          refine am_invs (y := 90) (as := [.int (nI 33)]) (rest := []) rfl rfl rfl rfl rfl rfl (Nat.le_of_ble_eq_true rfl) ?_
          rw [← tI_n (show 33 < 256 by decide)]
          refine c_hasBlock (by omega) (by decide) (fun z => absurd z (by decide)) (fun _ => ?_)
          show am_G _ M_X6_readPart _ 120 [some (.ref 44), some (.int (nI tr)), some (.int (nI lc)), some (.int (nI br)), some (.int (nI 33)), some (.int (-1)), none, none, none, none, none] [.int (nI 0)] (μ12, τ)
          refine am_if (ty := 228) (tn := 123) rfl (by decide) rfl rfl (fun (h_703 : nI 0 = 0) => ?_) (fun (h_703 : ¬ (nI 0 = 0)) => ?_)
          rotate_left
          · exact absurd (by decide) h_703
          refine am_run 1 (pc' := 230) (ls' := [some (.ref 44), some (.int (nI tr)), some (.int (nI lc)), some (.int (nI br)), some (.int (nI 33)), some (.int (-1)), none, none, none, none, none]) (st' := [.int (-1)]) (σ' := (μ12, τ)) rfl ?_
          refine am_reti rfl rfl ?_
          exact hF μ12 _ _ _ (pf_33 e33 hb0) ((hK1.tr hK2).tr hK12) hX12 hF12
        · have hb : p_beg S 33 lc (lk tx L S.1) = .inr (ps_add S 33 (lk tx L S.1)) := hb0
          have hC2 : CR μ2 t L (ps_add S 33 (lk tx L S.1)) := hC2
          show am_G _ M_X6_readPart _ 82 [some (.ref 44), some (.int (nI tr)), some (.int (nI lc)), some (.int (nI br)), some (.int (nI 33)), none, none, none, none, none, none] [.int (nI S.2.1)] (μ2, τ)
          refine am_run 3 (pc' := 88) (ls' := [some (.ref 44), some (.int (nI tr)), some (.int (nI lc)), some (.int (nI br)), some (.int (nI 33)), some (.int (nI S.2.1)), none, none, none, none, none]) (st' := [.int (nI 120), .int (nI 33)]) (σ' := (μ2, τ)) rfl ?_
          refine am_ic (ty := 91) (tn := 101) rfl (by decide) rfl rfl (fun (h_1001 : nI 33 = nI 120) => ?_) (fun (h_1001 : ¬ (nI 33 = nI 120)) => ?_)
          · exact absurd h_1001 (by decide)
          refine am_run 1 (pc' := 103) (ls' := [some (.ref 44), some (.int (nI tr)), some (.int (nI lc)), some (.int (nI br)), some (.int (nI 33)), some (.int (nI S.2.1)), none, none, none, none, none]) (st' := [.int (nI 33)]) (σ' := (μ2, τ)) rfl ?_
          refine am_invs (y := 91) (as := [.int (nI 33)]) (rest := []) rfl rfl rfl rfl rfl rfl (Nat.le_of_ble_eq_true rfl) ?_
          rw [← tI_n (show 33 < 256 by decide)]
          refine c_hasSignal (by omega) (by decide) (fun _ => ?_) (fun z => absurd z (by decide))
          show am_G _ M_X6_readPart _ 106 [some (.ref 44), some (.int (nI tr)), some (.int (nI lc)), some (.int (nI br)), some (.int (nI 33)), some (.int (nI S.2.1)), none, none, none, none, none] [.int (nI 1)] (μ2, τ)
          refine am_if (ty := 115) (tn := 109) rfl (by decide) rfl rfl (fun (h_1002 : nI 1 = 0) => ?_) (fun (h_1002 : ¬ (nI 1 = 0)) => ?_)
          · exact absurd h_1002 (by decide)
          refine am_run 2 (pc' := 112) (ls' := [some (.ref 44), some (.int (nI tr)), some (.int (nI lc)), some (.int (nI br)), some (.int (nI 33)), some (.int (nI S.2.1)), none, none, none, none, none]) (st' := [.int (nI S.2.1), .ref 44]) (σ' := (μ2, τ)) rfl ?_
          refine am_invv (y := 94) (b := 44) (as := [.int (nI S.2.1)]) (rest := []) rfl rfl rfl rfl rfl rfl rfl (Nat.le_of_ble_eq_true rfl) ?_
          refine c_readSignal (by omega) hT3 hX2 hC2 ht (st := S.2.1) (by show S.2.1 < S.2.1 + 1; omega) (fun μ3 hr hK3 hX3 hF3 => ?_) (fun μ3 hr hK3 hX3 hC3 => ?_)
          · show am_G _ M_X6_readPart _ 115 [some (.ref 44), some (.int (nI tr)), some (.int (nI lc)), some (.int (nI br)), some (.int (nI 33)), some (.int (nI S.2.1)), none, none, none, none, none] [] (μ3, τ)
            refine am_run 1 (pc' := 117) (ls' := [some (.ref 44), some (.int (nI tr)), some (.int (nI lc)), some (.int (nI br)), some (.int (nI 33)), some (.int (nI S.2.1)), none, none, none, none, none]) (st' := [.int (nI 33)]) (σ' := (μ3, τ)) rfl ?_
            refine am_invs (y := 90) (as := [.int (nI 33)]) (rest := []) rfl rfl rfl rfl rfl rfl (Nat.le_of_ble_eq_true rfl) ?_
            rw [← tI_n (show 33 < 256 by decide)]
            refine c_hasBlock (by omega) (by decide) (fun z => absurd z (by decide)) (fun _ => ?_)
            show am_G _ M_X6_readPart _ 120 [some (.ref 44), some (.int (nI tr)), some (.int (nI lc)), some (.int (nI br)), some (.int (nI 33)), some (.int (nI S.2.1)), none, none, none, none, none] [.int (nI 0)] (μ3, τ)
            refine am_if (ty := 228) (tn := 123) rfl (by decide) rfl rfl (fun (h_901 : nI 0 = 0) => ?_) (fun (h_901 : ¬ (nI 0 = 0)) => ?_)
            rotate_left
            · exact absurd (by decide) h_901
            refine am_run 1 (pc' := 230) (ls' := [some (.ref 44), some (.int (nI tr)), some (.int (nI lc)), some (.int (nI br)), some (.int (nI 33)), some (.int (nI S.2.1)), none, none, none, none, none]) (st' := [.int (nI S.2.1)]) (σ' := (μ3, τ)) rfl ?_
            refine am_reti rfl rfl ?_
            exact hF μ3 _ _ _ (by rw [pp_33 e33 hb, if_pos hr]) ((hK1.tr hK2).tr hK3) hX3 hF3
          · show am_G _ M_X6_readPart _ 115 [some (.ref 44), some (.int (nI tr)), some (.int (nI lc)), some (.int (nI br)), some (.int (nI 33)), some (.int (nI S.2.1)), none, none, none, none, none] [] (μ3, τ)
            refine am_run 1 (pc' := 117) (ls' := [some (.ref 44), some (.int (nI tr)), some (.int (nI lc)), some (.int (nI br)), some (.int (nI 33)), some (.int (nI S.2.1)), none, none, none, none, none]) (st' := [.int (nI 33)]) (σ' := (μ3, τ)) rfl ?_
            refine am_invs (y := 90) (as := [.int (nI 33)]) (rest := []) rfl rfl rfl rfl rfl rfl (Nat.le_of_ble_eq_true rfl) ?_
            rw [← tI_n (show 33 < 256 by decide)]
            refine c_hasBlock (by omega) (by decide) (fun z => absurd z (by decide)) (fun _ => ?_)
            show am_G _ M_X6_readPart _ 120 [some (.ref 44), some (.int (nI tr)), some (.int (nI lc)), some (.int (nI br)), some (.int (nI 33)), some (.int (nI S.2.1)), none, none, none, none, none] [.int (nI 0)] (μ3, τ)
            refine am_if (ty := 228) (tn := 123) rfl (by decide) rfl rfl (fun (h_1101 : nI 0 = 0) => ?_) (fun (h_1101 : ¬ (nI 0 = 0)) => ?_)
            rotate_left
            · exact absurd (by decide) h_1101
            refine am_run 1 (pc' := 230) (ls' := [some (.ref 44), some (.int (nI tr)), some (.int (nI lc)), some (.int (nI br)), some (.int (nI 33)), some (.int (nI S.2.1)), none, none, none, none, none]) (st' := [.int (nI S.2.1)]) (σ' := (μ3, τ)) rfl ?_
            refine am_reti rfl rfl ?_
            exact hS μ3 _ S.2.1 (by rw [pp_33 e33 hb, if_neg hr]) ((hK1.tr hK2).tr hK3) hX3 hC3 (Nat.le_refl _) (by show S.2.1 < S.2.1 + 1; omega)
      · have hqL : lk tx L S.1 < L := k2 (by omega)
        refine am_enter' (M := M_X6_readPart) rfl rfl rfl (by omega) (ls := [some (.ref 44), some (.int (nI tr)), some (.int (nI lc)), some (.int (nI br)), none, none, none, none, none, none, none]) rfl (fun d' hd' => ?_)
        refine am_run 1 (pc' := 1) (ls' := [some (.ref 44), some (.int (nI tr)), some (.int (nI lc)), some (.int (nI br)), none, none, none, none, none, none, none]) (st' := [.ref 44]) (σ' := (μ, τ)) rfl ?_
        refine am_invv (y := 85) (b := 44) (as := []) (rest := []) rfl rfl rfl rfl rfl rfl rfl (Nat.le_of_ble_eq_true rfl) ?_
        refine c_look (by omega) hT3 hX hC (fun μ1 hK1 hX1 hC1 => ?_)
        rw [e38, tI_n (by decide)]
        show am_G _ M_X6_readPart _ 4 [some (.ref 44), some (.int (nI tr)), some (.int (nI lc)), some (.int (nI br)), none, none, none, none, none, none, none] [.int (nI 38)] (μ1, τ)
        refine am_run 3 (pc' := 10) (ls' := [some (.ref 44), some (.int (nI tr)), some (.int (nI lc)), some (.int (nI br)), some (.int (nI 38)), none, none, none, none, none, none]) (st' := [.int (nI 40), .int (nI 38)]) (σ' := (μ1, τ)) rfl ?_
        refine am_ic (ty := 13) (tn := 25) rfl (by decide) rfl rfl (fun (h_1 : nI 38 = nI 40) => ?_) (fun (h_1 : ¬ (nI 38 = nI 40)) => ?_)
        · exact absurd h_1 (by decide)
        refine am_run 2 (pc' := 29) (ls' := [some (.ref 44), some (.int (nI tr)), some (.int (nI lc)), some (.int (nI br)), some (.int (nI 38)), none, none, none, none, none, none]) (st' := [.int (nI 48), .int (nI 38)]) (σ' := (μ1, τ)) rfl ?_
        refine am_ic (ty := 75) (tn := 32) rfl (by decide) rfl rfl (fun (h_2 : nI 38 = nI 48) => ?_) (fun (h_2 : ¬ (nI 38 = nI 48)) => ?_)
        · exact absurd h_2 (by decide)
        refine am_run 2 (pc' := 36) (ls' := [some (.ref 44), some (.int (nI tr)), some (.int (nI lc)), some (.int (nI br)), some (.int (nI 38)), none, none, none, none, none, none]) (st' := [.int (nI 46), .int (nI 38)]) (σ' := (μ1, τ)) rfl ?_
        refine am_ic (ty := 75) (tn := 39) rfl (by decide) rfl rfl (fun (h_3 : nI 38 = nI 46) => ?_) (fun (h_3 : ¬ (nI 38 = nI 46)) => ?_)
        · exact absurd h_3 (by decide)
        refine am_run 2 (pc' := 43) (ls' := [some (.ref 44), some (.int (nI tr)), some (.int (nI lc)), some (.int (nI br)), some (.int (nI 38)), none, none, none, none, none, none]) (st' := [.int (nI 120), .int (nI 38)]) (σ' := (μ1, τ)) rfl ?_
        refine am_ic (ty := 75) (tn := 46) rfl (by decide) rfl rfl (fun (h_4 : nI 38 = nI 120) => ?_) (fun (h_4 : ¬ (nI 38 = nI 120)) => ?_)
        · exact absurd h_4 (by decide)
        refine am_run 2 (pc' := 50) (ls' := [some (.ref 44), some (.int (nI tr)), some (.int (nI lc)), some (.int (nI br)), some (.int (nI 38)), none, none, none, none, none, none]) (st' := [.int (nI 33), .int (nI 38)]) (σ' := (μ1, τ)) rfl ?_
        refine am_ic (ty := 75) (tn := 53) rfl (by decide) rfl rfl (fun (h_5 : nI 38 = nI 33) => ?_) (fun (h_5 : ¬ (nI 38 = nI 33)) => ?_)
        · exact absurd h_5 (by decide)
        refine am_run 2 (pc' := 57) (ls' := [some (.ref 44), some (.int (nI tr)), some (.int (nI lc)), some (.int (nI br)), some (.int (nI 38)), none, none, none, none, none, none]) (st' := [.int (nI 38), .int (nI 38)]) (σ' := (μ1, τ)) rfl ?_
        refine am_ic (ty := 75) (tn := 60) rfl (by decide) rfl rfl (fun (h_6 : nI 38 = nI 38) => ?_) (fun (h_6 : ¬ (nI 38 = nI 38)) => ?_)
        rotate_left
        · exact absurd (by decide) h_6
        refine am_run 3 (pc' := 79) (ls' := [some (.ref 44), some (.int (nI tr)), some (.int (nI lc)), some (.int (nI br)), some (.int (nI 38)), none, none, none, none, none, none]) (st' := [.int (nI lc), .int (nI 38), .ref 44]) (σ' := (μ1, τ)) rfl ?_
        refine am_invv (y := 93) (b := 44) (as := [.int (nI 38), .int (nI lc)]) (rest := []) rfl rfl rfl rfl rfl rfl rfl (Nat.le_of_ble_eq_true rfl) ?_
        obtain rfl : d = d' := by omega
        refine c_begin (by omega) hT3 hX1 hC1 ht (c := 38) (by show lk tx L S.1 < L; exact hqL) (by decide) hlc (fun μ2 k2_ hb0 hK2 hX2 hF2 => ?_) (fun μ2 hb0 hK2 hX2 hC2 => ?_)
        · show am_G _ M_X6_readPart _ 82 [some (.ref 44), some (.int (nI tr)), some (.int (nI lc)), some (.int (nI br)), some (.int (nI 38)), none, none, none, none, none, none] [.int (-1)] (μ2, τ)
          refine am_run 3 (pc' := 88) (ls' := [some (.ref 44), some (.int (nI tr)), some (.int (nI lc)), some (.int (nI br)), some (.int (nI 38)), some (.int (-1)), none, none, none, none, none]) (st' := [.int (nI 120), .int (nI 38)]) (σ' := (μ2, τ)) rfl ?_
          refine am_ic (ty := 91) (tn := 101) rfl (by decide) rfl rfl (fun (h_701 : nI 38 = nI 120) => ?_) (fun (h_701 : ¬ (nI 38 = nI 120)) => ?_)
          · exact absurd h_701 (by decide)
          refine am_run 1 (pc' := 103) (ls' := [some (.ref 44), some (.int (nI tr)), some (.int (nI lc)), some (.int (nI br)), some (.int (nI 38)), some (.int (-1)), none, none, none, none, none]) (st' := [.int (nI 38)]) (σ' := (μ2, τ)) rfl ?_
          refine am_invs (y := 91) (as := [.int (nI 38)]) (rest := []) rfl rfl rfl rfl rfl rfl (Nat.le_of_ble_eq_true rfl) ?_
          rw [← tI_n (show 38 < 256 by decide)]
          refine c_hasSignal (by omega) (by decide) (fun _ => ?_) (fun z => absurd z (by decide))
          show am_G _ M_X6_readPart _ 106 [some (.ref 44), some (.int (nI tr)), some (.int (nI lc)), some (.int (nI br)), some (.int (nI 38)), some (.int (-1)), none, none, none, none, none] [.int (nI 1)] (μ2, τ)
          refine am_if (ty := 115) (tn := 109) rfl (by decide) rfl rfl (fun (h_702 : nI 1 = 0) => ?_) (fun (h_702 : ¬ (nI 1 = 0)) => ?_)
          · exact absurd h_702 (by decide)
          refine am_run 2 (pc' := 112) (ls' := [some (.ref 44), some (.int (nI tr)), some (.int (nI lc)), some (.int (nI br)), some (.int (nI 38)), some (.int (-1)), none, none, none, none, none]) (st' := [.int (-1), .ref 44]) (σ' := (μ2, τ)) rfl ?_
          refine am_invv (y := 94) (b := 44) (as := [.int (-1)]) (rest := []) rfl rfl rfl rfl rfl rfl rfl (Nat.le_of_ble_eq_true rfl) ?_
          refine c_readSignal_f (by omega) hT3 hX2 hF2 ht (fun μ12 hK12 hX12 hF12 => ?_)
          show am_G _ M_X6_readPart _ 115 [some (.ref 44), some (.int (nI tr)), some (.int (nI lc)), some (.int (nI br)), some (.int (nI 38)), some (.int (-1)), none, none, none, none, none] [] (μ12, τ)
          refine am_run 1 (pc' := 117) (ls' := [some (.ref 44), some (.int (nI tr)), some (.int (nI lc)), some (.int (nI br)), some (.int (nI 38)), some (.int (-1)), none, none, none, none, none]) (st' := [.int (nI 38)]) (σ' := (μ12, τ)) rfl ?_
          refine am_invs (y := 90) (as := [.int (nI 38)]) (rest := []) rfl rfl rfl rfl rfl rfl (Nat.le_of_ble_eq_true rfl) ?_
          rw [← tI_n (show 38 < 256 by decide)]
          refine c_hasBlock (by omega) (by decide) (fun z => absurd z (by decide)) (fun _ => ?_)
          show am_G _ M_X6_readPart _ 120 [some (.ref 44), some (.int (nI tr)), some (.int (nI lc)), some (.int (nI br)), some (.int (nI 38)), some (.int (-1)), none, none, none, none, none] [.int (nI 0)] (μ12, τ)
          refine am_if (ty := 228) (tn := 123) rfl (by decide) rfl rfl (fun (h_703 : nI 0 = 0) => ?_) (fun (h_703 : ¬ (nI 0 = 0)) => ?_)
          rotate_left
          · exact absurd (by decide) h_703
          refine am_run 1 (pc' := 230) (ls' := [some (.ref 44), some (.int (nI tr)), some (.int (nI lc)), some (.int (nI br)), some (.int (nI 38)), some (.int (-1)), none, none, none, none, none]) (st' := [.int (-1)]) (σ' := (μ12, τ)) rfl ?_
          refine am_reti rfl rfl ?_
          exact hF μ12 _ _ _ (pf_38 e38 hb0) ((hK1.tr hK2).tr hK12) hX12 hF12
        · have hb : p_beg S 38 lc (lk tx L S.1) = .inr (ps_add S 38 (lk tx L S.1)) := hb0
          have hC2 : CR μ2 t L (ps_add S 38 (lk tx L S.1)) := hC2
          show am_G _ M_X6_readPart _ 82 [some (.ref 44), some (.int (nI tr)), some (.int (nI lc)), some (.int (nI br)), some (.int (nI 38)), none, none, none, none, none, none] [.int (nI S.2.1)] (μ2, τ)
          refine am_run 3 (pc' := 88) (ls' := [some (.ref 44), some (.int (nI tr)), some (.int (nI lc)), some (.int (nI br)), some (.int (nI 38)), some (.int (nI S.2.1)), none, none, none, none, none]) (st' := [.int (nI 120), .int (nI 38)]) (σ' := (μ2, τ)) rfl ?_
          refine am_ic (ty := 91) (tn := 101) rfl (by decide) rfl rfl (fun (h_1001 : nI 38 = nI 120) => ?_) (fun (h_1001 : ¬ (nI 38 = nI 120)) => ?_)
          · exact absurd h_1001 (by decide)
          refine am_run 1 (pc' := 103) (ls' := [some (.ref 44), some (.int (nI tr)), some (.int (nI lc)), some (.int (nI br)), some (.int (nI 38)), some (.int (nI S.2.1)), none, none, none, none, none]) (st' := [.int (nI 38)]) (σ' := (μ2, τ)) rfl ?_
          refine am_invs (y := 91) (as := [.int (nI 38)]) (rest := []) rfl rfl rfl rfl rfl rfl (Nat.le_of_ble_eq_true rfl) ?_
          rw [← tI_n (show 38 < 256 by decide)]
          refine c_hasSignal (by omega) (by decide) (fun _ => ?_) (fun z => absurd z (by decide))
          show am_G _ M_X6_readPart _ 106 [some (.ref 44), some (.int (nI tr)), some (.int (nI lc)), some (.int (nI br)), some (.int (nI 38)), some (.int (nI S.2.1)), none, none, none, none, none] [.int (nI 1)] (μ2, τ)
          refine am_if (ty := 115) (tn := 109) rfl (by decide) rfl rfl (fun (h_1002 : nI 1 = 0) => ?_) (fun (h_1002 : ¬ (nI 1 = 0)) => ?_)
          · exact absurd h_1002 (by decide)
          refine am_run 2 (pc' := 112) (ls' := [some (.ref 44), some (.int (nI tr)), some (.int (nI lc)), some (.int (nI br)), some (.int (nI 38)), some (.int (nI S.2.1)), none, none, none, none, none]) (st' := [.int (nI S.2.1), .ref 44]) (σ' := (μ2, τ)) rfl ?_
          refine am_invv (y := 94) (b := 44) (as := [.int (nI S.2.1)]) (rest := []) rfl rfl rfl rfl rfl rfl rfl (Nat.le_of_ble_eq_true rfl) ?_
          refine c_readSignal (by omega) hT3 hX2 hC2 ht (st := S.2.1) (by show S.2.1 < S.2.1 + 1; omega) (fun μ3 hr hK3 hX3 hF3 => ?_) (fun μ3 hr hK3 hX3 hC3 => ?_)
          · show am_G _ M_X6_readPart _ 115 [some (.ref 44), some (.int (nI tr)), some (.int (nI lc)), some (.int (nI br)), some (.int (nI 38)), some (.int (nI S.2.1)), none, none, none, none, none] [] (μ3, τ)
            refine am_run 1 (pc' := 117) (ls' := [some (.ref 44), some (.int (nI tr)), some (.int (nI lc)), some (.int (nI br)), some (.int (nI 38)), some (.int (nI S.2.1)), none, none, none, none, none]) (st' := [.int (nI 38)]) (σ' := (μ3, τ)) rfl ?_
            refine am_invs (y := 90) (as := [.int (nI 38)]) (rest := []) rfl rfl rfl rfl rfl rfl (Nat.le_of_ble_eq_true rfl) ?_
            rw [← tI_n (show 38 < 256 by decide)]
            refine c_hasBlock (by omega) (by decide) (fun z => absurd z (by decide)) (fun _ => ?_)
            show am_G _ M_X6_readPart _ 120 [some (.ref 44), some (.int (nI tr)), some (.int (nI lc)), some (.int (nI br)), some (.int (nI 38)), some (.int (nI S.2.1)), none, none, none, none, none] [.int (nI 0)] (μ3, τ)
            refine am_if (ty := 228) (tn := 123) rfl (by decide) rfl rfl (fun (h_901 : nI 0 = 0) => ?_) (fun (h_901 : ¬ (nI 0 = 0)) => ?_)
            rotate_left
            · exact absurd (by decide) h_901
            refine am_run 1 (pc' := 230) (ls' := [some (.ref 44), some (.int (nI tr)), some (.int (nI lc)), some (.int (nI br)), some (.int (nI 38)), some (.int (nI S.2.1)), none, none, none, none, none]) (st' := [.int (nI S.2.1)]) (σ' := (μ3, τ)) rfl ?_
            refine am_reti rfl rfl ?_
            exact hF μ3 _ _ _ (by rw [pp_38 e38 hb, if_pos hr]) ((hK1.tr hK2).tr hK3) hX3 hF3
          · show am_G _ M_X6_readPart _ 115 [some (.ref 44), some (.int (nI tr)), some (.int (nI lc)), some (.int (nI br)), some (.int (nI 38)), some (.int (nI S.2.1)), none, none, none, none, none] [] (μ3, τ)
            refine am_run 1 (pc' := 117) (ls' := [some (.ref 44), some (.int (nI tr)), some (.int (nI lc)), some (.int (nI br)), some (.int (nI 38)), some (.int (nI S.2.1)), none, none, none, none, none]) (st' := [.int (nI 38)]) (σ' := (μ3, τ)) rfl ?_
            refine am_invs (y := 90) (as := [.int (nI 38)]) (rest := []) rfl rfl rfl rfl rfl rfl (Nat.le_of_ble_eq_true rfl) ?_
            rw [← tI_n (show 38 < 256 by decide)]
            refine c_hasBlock (by omega) (by decide) (fun z => absurd z (by decide)) (fun _ => ?_)
            show am_G _ M_X6_readPart _ 120 [some (.ref 44), some (.int (nI tr)), some (.int (nI lc)), some (.int (nI br)), some (.int (nI 38)), some (.int (nI S.2.1)), none, none, none, none, none] [.int (nI 0)] (μ3, τ)
            refine am_if (ty := 228) (tn := 123) rfl (by decide) rfl rfl (fun (h_1101 : nI 0 = 0) => ?_) (fun (h_1101 : ¬ (nI 0 = 0)) => ?_)
            rotate_left
            · exact absurd (by decide) h_1101
            refine am_run 1 (pc' := 230) (ls' := [some (.ref 44), some (.int (nI tr)), some (.int (nI lc)), some (.int (nI br)), some (.int (nI 38)), some (.int (nI S.2.1)), none, none, none, none, none]) (st' := [.int (nI S.2.1)]) (σ' := (μ3, τ)) rfl ?_
            refine am_reti rfl rfl ?_
            exact hS μ3 _ S.2.1 (by rw [pp_38 e38 hb, if_neg hr]) ((hK1.tr hK2).tr hK3) hX3 hC3 (Nat.le_refl _) (by show S.2.1 < S.2.1 + 1; omega)
      · have hqL : lk tx L S.1 < L := k2 (by omega)
        refine am_enter' (M := M_X6_readPart) rfl rfl rfl (by omega) (ls := [some (.ref 44), some (.int (nI tr)), some (.int (nI lc)), some (.int (nI br)), none, none, none, none, none, none, none]) rfl (fun d' hd' => ?_)
        refine am_run 1 (pc' := 1) (ls' := [some (.ref 44), some (.int (nI tr)), some (.int (nI lc)), some (.int (nI br)), none, none, none, none, none, none, none]) (st' := [.ref 44]) (σ' := (μ, τ)) rfl ?_
        refine am_invv (y := 85) (b := 44) (as := []) (rest := []) rfl rfl rfl rfl rfl rfl rfl (Nat.le_of_ble_eq_true rfl) ?_
        refine c_look (by omega) hT3 hX hC (fun μ1 hK1 hX1 hC1 => ?_)
        rw [e63, tI_n (by decide)]
        show am_G _ M_X6_readPart _ 4 [some (.ref 44), some (.int (nI tr)), some (.int (nI lc)), some (.int (nI br)), none, none, none, none, none, none, none] [.int (nI 63)] (μ1, τ)
        refine am_run 3 (pc' := 10) (ls' := [some (.ref 44), some (.int (nI tr)), some (.int (nI lc)), some (.int (nI br)), some (.int (nI 63)), none, none, none, none, none, none]) (st' := [.int (nI 40), .int (nI 63)]) (σ' := (μ1, τ)) rfl ?_
        refine am_ic (ty := 13) (tn := 25) rfl (by decide) rfl rfl (fun (h_1 : nI 63 = nI 40) => ?_) (fun (h_1 : ¬ (nI 63 = nI 40)) => ?_)
        · exact absurd h_1 (by decide)
        refine am_run 2 (pc' := 29) (ls' := [some (.ref 44), some (.int (nI tr)), some (.int (nI lc)), some (.int (nI br)), some (.int (nI 63)), none, none, none, none, none, none]) (st' := [.int (nI 48), .int (nI 63)]) (σ' := (μ1, τ)) rfl ?_
        refine am_ic (ty := 75) (tn := 32) rfl (by decide) rfl rfl (fun (h_2 : nI 63 = nI 48) => ?_) (fun (h_2 : ¬ (nI 63 = nI 48)) => ?_)
        · exact absurd h_2 (by decide)
        refine am_run 2 (pc' := 36) (ls' := [some (.ref 44), some (.int (nI tr)), some (.int (nI lc)), some (.int (nI br)), some (.int (nI 63)), none, none, none, none, none, none]) (st' := [.int (nI 46), .int (nI 63)]) (σ' := (μ1, τ)) rfl ?_
        refine am_ic (ty := 75) (tn := 39) rfl (by decide) rfl rfl (fun (h_3 : nI 63 = nI 46) => ?_) (fun (h_3 : ¬ (nI 63 = nI 46)) => ?_)
        · exact absurd h_3 (by decide)
        refine am_run 2 (pc' := 43) (ls' := [some (.ref 44), some (.int (nI tr)), some (.int (nI lc)), some (.int (nI br)), some (.int (nI 63)), none, none, none, none, none, none]) (st' := [.int (nI 120), .int (nI 63)]) (σ' := (μ1, τ)) rfl ?_
        refine am_ic (ty := 75) (tn := 46) rfl (by decide) rfl rfl (fun (h_4 : nI 63 = nI 120) => ?_) (fun (h_4 : ¬ (nI 63 = nI 120)) => ?_)
        · exact absurd h_4 (by decide)
        refine am_run 2 (pc' := 50) (ls' := [some (.ref 44), some (.int (nI tr)), some (.int (nI lc)), some (.int (nI br)), some (.int (nI 63)), none, none, none, none, none, none]) (st' := [.int (nI 33), .int (nI 63)]) (σ' := (μ1, τ)) rfl ?_
        refine am_ic (ty := 75) (tn := 53) rfl (by decide) rfl rfl (fun (h_5 : nI 63 = nI 33) => ?_) (fun (h_5 : ¬ (nI 63 = nI 33)) => ?_)
        · exact absurd h_5 (by decide)
        refine am_run 2 (pc' := 57) (ls' := [some (.ref 44), some (.int (nI tr)), some (.int (nI lc)), some (.int (nI br)), some (.int (nI 63)), none, none, none, none, none, none]) (st' := [.int (nI 38), .int (nI 63)]) (σ' := (μ1, τ)) rfl ?_
        refine am_ic (ty := 75) (tn := 60) rfl (by decide) rfl rfl (fun (h_6 : nI 63 = nI 38) => ?_) (fun (h_6 : ¬ (nI 63 = nI 38)) => ?_)
        · exact absurd h_6 (by decide)
        refine am_run 1 (pc' := 62) (ls' := [some (.ref 44), some (.int (nI tr)), some (.int (nI lc)), some (.int (nI br)), some (.int (nI 63)), none, none, none, none, none, none]) (st' := [.int (nI 63)]) (σ' := (μ1, τ)) rfl ?_
        refine am_invs (y := 90) (as := [.int (nI 63)]) (rest := []) rfl rfl rfl rfl rfl rfl (Nat.le_of_ble_eq_true rfl) ?_
        rw [← tI_n (show 63 < 256 by decide)]
        refine c_hasBlock (by omega) (by decide) (fun _ => ?_) (fun z => absurd z (by decide))
        show am_G _ M_X6_readPart _ 65 [some (.ref 44), some (.int (nI tr)), some (.int (nI lc)), some (.int (nI br)), some (.int (nI 63)), none, none, none, none, none, none] [.int (nI 1)] (μ1, τ)
        refine am_if (ty := 68) (tn := 75) rfl (by decide) rfl rfl (fun (h_7 : nI 1 = 0) => ?_) (fun (h_7 : ¬ (nI 1 = 0)) => ?_)
        · exact absurd h_7 (by decide)
        refine am_run 3 (pc' := 79) (ls' := [some (.ref 44), some (.int (nI tr)), some (.int (nI lc)), some (.int (nI br)), some (.int (nI 63)), none, none, none, none, none, none]) (st' := [.int (nI lc), .int (nI 63), .ref 44]) (σ' := (μ1, τ)) rfl ?_
        refine am_invv (y := 93) (b := 44) (as := [.int (nI 63), .int (nI lc)]) (rest := []) rfl rfl rfl rfl rfl rfl rfl (Nat.le_of_ble_eq_true rfl) ?_
        obtain rfl : d = d' := by omega
        refine c_begin (by omega) hT3 hX1 hC1 ht (c := 63) (by show lk tx L S.1 < L; exact hqL) (by decide) hlc (fun μ2 k2_ hb0 hK2 hX2 hF2 => ?_) (fun μ2 hb0 hK2 hX2 hC2 => ?_)
        · show am_G _ M_X6_readPart _ 82 [some (.ref 44), some (.int (nI tr)), some (.int (nI lc)), some (.int (nI br)), some (.int (nI 63)), none, none, none, none, none, none] [.int (-1)] (μ2, τ)
          refine am_run 3 (pc' := 88) (ls' := [some (.ref 44), some (.int (nI tr)), some (.int (nI lc)), some (.int (nI br)), some (.int (nI 63)), some (.int (-1)), none, none, none, none, none]) (st' := [.int (nI 120), .int (nI 63)]) (σ' := (μ2, τ)) rfl ?_
          refine am_ic (ty := 91) (tn := 101) rfl (by decide) rfl rfl (fun (h_701 : nI 63 = nI 120) => ?_) (fun (h_701 : ¬ (nI 63 = nI 120)) => ?_)
          · exact absurd h_701 (by decide)
          refine am_run 1 (pc' := 103) (ls' := [some (.ref 44), some (.int (nI tr)), some (.int (nI lc)), some (.int (nI br)), some (.int (nI 63)), some (.int (-1)), none, none, none, none, none]) (st' := [.int (nI 63)]) (σ' := (μ2, τ)) rfl ?_
          refine am_invs (y := 91) (as := [.int (nI 63)]) (rest := []) rfl rfl rfl rfl rfl rfl (Nat.le_of_ble_eq_true rfl) ?_
          rw [← tI_n (show 63 < 256 by decide)]
          refine c_hasSignal (by omega) (by decide) (fun _ => ?_) (fun z => absurd z (by decide))
          show am_G _ M_X6_readPart _ 106 [some (.ref 44), some (.int (nI tr)), some (.int (nI lc)), some (.int (nI br)), some (.int (nI 63)), some (.int (-1)), none, none, none, none, none] [.int (nI 1)] (μ2, τ)
          refine am_if (ty := 115) (tn := 109) rfl (by decide) rfl rfl (fun (h_702 : nI 1 = 0) => ?_) (fun (h_702 : ¬ (nI 1 = 0)) => ?_)
          · exact absurd h_702 (by decide)
          refine am_run 2 (pc' := 112) (ls' := [some (.ref 44), some (.int (nI tr)), some (.int (nI lc)), some (.int (nI br)), some (.int (nI 63)), some (.int (-1)), none, none, none, none, none]) (st' := [.int (-1), .ref 44]) (σ' := (μ2, τ)) rfl ?_
          refine am_invv (y := 94) (b := 44) (as := [.int (-1)]) (rest := []) rfl rfl rfl rfl rfl rfl rfl (Nat.le_of_ble_eq_true rfl) ?_
          refine c_readSignal_f (by omega) hT3 hX2 hF2 ht (fun μ12 hK12 hX12 hF12 => ?_)
          show am_G _ M_X6_readPart _ 115 [some (.ref 44), some (.int (nI tr)), some (.int (nI lc)), some (.int (nI br)), some (.int (nI 63)), some (.int (-1)), none, none, none, none, none] [] (μ12, τ)
          refine am_run 1 (pc' := 117) (ls' := [some (.ref 44), some (.int (nI tr)), some (.int (nI lc)), some (.int (nI br)), some (.int (nI 63)), some (.int (-1)), none, none, none, none, none]) (st' := [.int (nI 63)]) (σ' := (μ12, τ)) rfl ?_
          refine am_invs (y := 90) (as := [.int (nI 63)]) (rest := []) rfl rfl rfl rfl rfl rfl (Nat.le_of_ble_eq_true rfl) ?_
          rw [← tI_n (show 63 < 256 by decide)]
          refine c_hasBlock (by omega) (by decide) (fun _ => ?_) (fun z => absurd z (by decide))
          show am_G _ M_X6_readPart _ 120 [some (.ref 44), some (.int (nI tr)), some (.int (nI lc)), some (.int (nI br)), some (.int (nI 63)), some (.int (-1)), none, none, none, none, none] [.int (nI 1)] (μ12, τ)
          refine am_if (ty := 228) (tn := 123) rfl (by decide) rfl rfl (fun (h_703 : nI 1 = 0) => ?_) (fun (h_703 : ¬ (nI 1 = 0)) => ?_)
          · exact absurd h_703 (by decide)
          refine am_run 2 (pc' := 127) (ls' := [some (.ref 44), some (.int (nI tr)), some (.int (nI lc)), some (.int (nI br)), some (.int (nI 63)), some (.int (-1)), none, none, none, none, none]) (st' := [.int (nI 94), .int (nI 63)]) (σ' := (μ12, τ)) rfl ?_
          refine am_ic (ty := 130) (tn := 136) rfl (by decide) rfl rfl (fun (h_704 : nI 63 = nI 94) => ?_) (fun (h_704 : ¬ (nI 63 = nI 94)) => ?_)
          · exact absurd h_704 (by decide)
          refine am_run 4 (pc' := 143) (ls' := [some (.ref 44), some (.int (nI tr)), some (.int (nI lc)), some (.int (nI br)), some (.int (nI 63)), some (.int (-1)), some (.int (nI tr)), none, none, none, none]) (st' := [.int (nI 36), .int (nI 63)]) (σ' := (μ12, τ)) rfl ?_
          refine am_ic (ty := 146) (tn := 152) rfl (by decide) rfl rfl (fun (h_705 : nI 63 = nI 36) => ?_) (fun (h_705 : ¬ (nI 63 = nI 36)) => ?_)
          · exact absurd h_705 (by decide)
          refine am_run 8 (pc' := 165) (ls' := [some (.ref 44), some (.int (nI tr)), some (.int (nI lc)), some (.int (nI br)), some (.int (nI 63)), some (.int (-1)), some (.int (nI tr)), some (.int (nI lc)), none, none, none]) (st' := [.int (nI br), .int (nI lc), .int (nI tr), .int (nI 125), .int (nI 123), .ref 44]) (σ' := (μ12, τ)) rfl ?_
          refine am_invv (y := 92) (b := 44) (as := [.int (nI 123), .int (nI 125), .int (nI tr), .int (nI lc), .int (nI br)]) (rest := []) rfl rfl rfl rfl rfl rfl rfl (Nat.le_of_ble_eq_true rfl) ?_
          refine c_enc_f (by omega) hT3 hX12 hF12 (fun μ22 hK22 hX22 hF22 => ?_)
          show am_G _ M_X6_readPart _ 168 [some (.ref 44), some (.int (nI tr)), some (.int (nI lc)), some (.int (nI br)), some (.int (nI 63)), some (.int (-1)), some (.int (nI tr)), some (.int (nI lc)), none, none, none] [.int (-1)] (μ22, τ)
          refine am_run 3 (pc' := 174) (ls' := [some (.ref 44), some (.int (nI tr)), some (.int (nI lc)), some (.int (nI br)), some (.int (nI 63)), some (.int (-1)), some (.int (nI tr)), some (.int (nI lc)), some (.int (-1)), none, none]) (st' := [.int (nI 63), .int (nI 63)]) (σ' := (μ22, τ)) rfl ?_
          refine am_ic (ty := 177) (tn := 190) rfl (by decide) rfl rfl (fun (h_706 : nI 63 = nI 63) => ?_) (fun (h_706 : ¬ (nI 63 = nI 63)) => ?_)
          rotate_left
          · exact absurd (by decide) h_706
          refine am_run 2 (pc' := 180) (ls' := [some (.ref 44), some (.int (nI tr)), some (.int (nI lc)), some (.int (nI br)), some (.int (nI 63)), some (.int (-1)), some (.int (nI tr)), some (.int (nI lc)), some (.int (-1)), none, none]) (st' := [.int (nI 123), .ref 44]) (σ' := (μ22, τ)) rfl ?_
          refine am_invv (y := 86) (b := 44) (as := [.int (nI 123)]) (rest := []) rfl rfl rfl rfl rfl rfl rfl (Nat.le_of_ble_eq_true rfl) ?_
          refine c_isNext_f (by omega) hT3 hX22 hF22 ?_
          show am_G _ M_X6_readPart _ 183 [some (.ref 44), some (.int (nI tr)), some (.int (nI lc)), some (.int (nI br)), some (.int (nI 63)), some (.int (-1)), some (.int (nI tr)), some (.int (nI lc)), some (.int (-1)), none, none] [.int (nI 0)] (μ22, τ)
          refine am_if (ty := 190) (tn := 186) rfl (by decide) rfl rfl (fun (h_707 : nI 0 = 0) => ?_) (fun (h_707 : ¬ (nI 0 = 0)) => ?_)
          rotate_left
          · exact absurd (by decide) h_707
          refine am_run 3 (pc' := 195) (ls' := [some (.ref 44), some (.int (nI tr)), some (.int (nI lc)), some (.int (nI br)), some (.int (nI 63)), some (.int (-1)), some (.int (nI tr)), some (.int (nI lc)), some (.int (-1)), some (.int (nI 0)), none]) (st' := [.int (nI 0)]) (σ' := (μ22, τ)) rfl ?_
          refine am_if (ty := 212) (tn := 198) rfl (by decide) rfl rfl (fun (h_708 : nI 0 = 0) => ?_) (fun (h_708 : ¬ (nI 0 = 0)) => ?_)
          rotate_left
          · exact absurd (by decide) h_708
          refine am_run 4 (pc' := 219) (ls' := [some (.ref 44), some (.int (nI tr)), some (.int (nI lc)), some (.int (nI br)), some (.int (nI 63)), some (.int (-1)), some (.int (nI tr)), some (.int (nI lc)), some (.int (-1)), some (.int (nI 0)), some (.int (-1))]) (st' := [.ref (τ 44 1)]) (σ' := (μ22, τ)) rfl ?_
          refine am_stk (st' := [.ref t]) (by rw [ht]) ?_
          refine am_run 3 (pc' := 225) (ls' := [some (.ref 44), some (.int (nI tr)), some (.int (nI lc)), some (.int (nI br)), some (.int (nI 63)), some (.int (-1)), some (.int (nI tr)), some (.int (nI lc)), some (.int (-1)), some (.int (nI 0)), some (.int (-1))]) (st' := [.int (-1), .int (-1), .int (-1), .ref t]) (σ' := (μ22, τ)) rfl ?_
          refine am_invv (y := 111) (b := t) (as := [.int (-1), .int (-1), .int (-1)]) (rest := []) rfl rfl rfl rfl rfl rfl (t3_kind hT3) (Nat.le_of_ble_eq_true rfl) ?_
          refine c_setOps_f (by omega) hT3 (fun μ32 hK32 h4432 => ?_)
          have hF32 := hF22.of h4432
          have hX32 := hK32.xc hT3 hX22
          show am_G _ M_X6_readPart _ 228 [some (.ref 44), some (.int (nI tr)), some (.int (nI lc)), some (.int (nI br)), some (.int (nI 63)), some (.int (-1)), some (.int (nI tr)), some (.int (nI lc)), some (.int (-1)), some (.int (nI 0)), some (.int (-1))] [] (μ32, τ)
          refine am_run 1 (pc' := 230) (ls' := [some (.ref 44), some (.int (nI tr)), some (.int (nI lc)), some (.int (nI br)), some (.int (nI 63)), some (.int (-1)), some (.int (nI tr)), some (.int (nI lc)), some (.int (-1)), some (.int (nI 0)), some (.int (-1))]) (st' := [.int (-1)]) (σ' := (μ32, τ)) rfl ?_
          refine am_reti rfl rfl ?_
          exact hF μ32 _ _ _ (pf_63 e63 hb0) ((((hK1.tr hK2).tr hK12).tr hK22).tr hK32) hX32 hF32
        · have hb : p_beg S 63 lc (lk tx L S.1) = .inr (ps_add S 63 (lk tx L S.1)) := hb0
          have hC2 : CR μ2 t L (ps_add S 63 (lk tx L S.1)) := hC2
          show am_G _ M_X6_readPart _ 82 [some (.ref 44), some (.int (nI tr)), some (.int (nI lc)), some (.int (nI br)), some (.int (nI 63)), none, none, none, none, none, none] [.int (nI S.2.1)] (μ2, τ)
          refine am_run 3 (pc' := 88) (ls' := [some (.ref 44), some (.int (nI tr)), some (.int (nI lc)), some (.int (nI br)), some (.int (nI 63)), some (.int (nI S.2.1)), none, none, none, none, none]) (st' := [.int (nI 120), .int (nI 63)]) (σ' := (μ2, τ)) rfl ?_
          refine am_ic (ty := 91) (tn := 101) rfl (by decide) rfl rfl (fun (h_1001 : nI 63 = nI 120) => ?_) (fun (h_1001 : ¬ (nI 63 = nI 120)) => ?_)
          · exact absurd h_1001 (by decide)
          refine am_run 1 (pc' := 103) (ls' := [some (.ref 44), some (.int (nI tr)), some (.int (nI lc)), some (.int (nI br)), some (.int (nI 63)), some (.int (nI S.2.1)), none, none, none, none, none]) (st' := [.int (nI 63)]) (σ' := (μ2, τ)) rfl ?_
          refine am_invs (y := 91) (as := [.int (nI 63)]) (rest := []) rfl rfl rfl rfl rfl rfl (Nat.le_of_ble_eq_true rfl) ?_
          rw [← tI_n (show 63 < 256 by decide)]
          refine c_hasSignal (by omega) (by decide) (fun _ => ?_) (fun z => absurd z (by decide))
          show am_G _ M_X6_readPart _ 106 [some (.ref 44), some (.int (nI tr)), some (.int (nI lc)), some (.int (nI br)), some (.int (nI 63)), some (.int (nI S.2.1)), none, none, none, none, none] [.int (nI 1)] (μ2, τ)
          refine am_if (ty := 115) (tn := 109) rfl (by decide) rfl rfl (fun (h_1002 : nI 1 = 0) => ?_) (fun (h_1002 : ¬ (nI 1 = 0)) => ?_)
          · exact absurd h_1002 (by decide)
          refine am_run 2 (pc' := 112) (ls' := [some (.ref 44), some (.int (nI tr)), some (.int (nI lc)), some (.int (nI br)), some (.int (nI 63)), some (.int (nI S.2.1)), none, none, none, none, none]) (st' := [.int (nI S.2.1), .ref 44]) (σ' := (μ2, τ)) rfl ?_
          refine am_invv (y := 94) (b := 44) (as := [.int (nI S.2.1)]) (rest := []) rfl rfl rfl rfl rfl rfl rfl (Nat.le_of_ble_eq_true rfl) ?_
          refine c_readSignal (by omega) hT3 hX2 hC2 ht (st := S.2.1) (by show S.2.1 < S.2.1 + 1; omega) (fun μ3 hr hK3 hX3 hF3 => ?_) (fun μ3 hr hK3 hX3 hC3 => ?_)
          · show am_G _ M_X6_readPart _ 115 [some (.ref 44), some (.int (nI tr)), some (.int (nI lc)), some (.int (nI br)), some (.int (nI 63)), some (.int (nI S.2.1)), none, none, none, none, none] [] (μ3, τ)
            refine am_run 1 (pc' := 117) (ls' := [some (.ref 44), some (.int (nI tr)), some (.int (nI lc)), some (.int (nI br)), some (.int (nI 63)), some (.int (nI S.2.1)), none, none, none, none, none]) (st' := [.int (nI 63)]) (σ' := (μ3, τ)) rfl ?_
            refine am_invs (y := 90) (as := [.int (nI 63)]) (rest := []) rfl rfl rfl rfl rfl rfl (Nat.le_of_ble_eq_true rfl) ?_
            rw [← tI_n (show 63 < 256 by decide)]
            refine c_hasBlock (by omega) (by decide) (fun _ => ?_) (fun z => absurd z (by decide))
            show am_G _ M_X6_readPart _ 120 [some (.ref 44), some (.int (nI tr)), some (.int (nI lc)), some (.int (nI br)), some (.int (nI 63)), some (.int (nI S.2.1)), none, none, none, none, none] [.int (nI 1)] (μ3, τ)
            refine am_if (ty := 228) (tn := 123) rfl (by decide) rfl rfl (fun (h_901 : nI 1 = 0) => ?_) (fun (h_901 : ¬ (nI 1 = 0)) => ?_)
            · exact absurd h_901 (by decide)
            refine am_run 2 (pc' := 127) (ls' := [some (.ref 44), some (.int (nI tr)), some (.int (nI lc)), some (.int (nI br)), some (.int (nI 63)), some (.int (nI S.2.1)), none, none, none, none, none]) (st' := [.int (nI 94), .int (nI 63)]) (σ' := (μ3, τ)) rfl ?_
            refine am_ic (ty := 130) (tn := 136) rfl (by decide) rfl rfl (fun (h_902 : nI 63 = nI 94) => ?_) (fun (h_902 : ¬ (nI 63 = nI 94)) => ?_)
            · exact absurd h_902 (by decide)
            refine am_run 4 (pc' := 143) (ls' := [some (.ref 44), some (.int (nI tr)), some (.int (nI lc)), some (.int (nI br)), some (.int (nI 63)), some (.int (nI S.2.1)), some (.int (nI tr)), none, none, none, none]) (st' := [.int (nI 36), .int (nI 63)]) (σ' := (μ3, τ)) rfl ?_
            refine am_ic (ty := 146) (tn := 152) rfl (by decide) rfl rfl (fun (h_903 : nI 63 = nI 36) => ?_) (fun (h_903 : ¬ (nI 63 = nI 36)) => ?_)
            · exact absurd h_903 (by decide)
            refine am_run 8 (pc' := 165) (ls' := [some (.ref 44), some (.int (nI tr)), some (.int (nI lc)), some (.int (nI br)), some (.int (nI 63)), some (.int (nI S.2.1)), some (.int (nI tr)), some (.int (nI lc)), none, none, none]) (st' := [.int (nI br), .int (nI lc), .int (nI tr), .int (nI 125), .int (nI 123), .ref 44]) (σ' := (μ3, τ)) rfl ?_
            refine am_invv (y := 92) (b := 44) (as := [.int (nI 123), .int (nI 125), .int (nI tr), .int (nI lc), .int (nI br)]) (rest := []) rfl rfl rfl rfl rfl rfl rfl (Nat.le_of_ble_eq_true rfl) ?_
            refine c_enc_f (by omega) hT3 hX3 hF3 (fun μ13 hK13 hX13 hF13 => ?_)
            show am_G _ M_X6_readPart _ 168 [some (.ref 44), some (.int (nI tr)), some (.int (nI lc)), some (.int (nI br)), some (.int (nI 63)), some (.int (nI S.2.1)), some (.int (nI tr)), some (.int (nI lc)), none, none, none] [.int (-1)] (μ13, τ)
            refine am_run 3 (pc' := 174) (ls' := [some (.ref 44), some (.int (nI tr)), some (.int (nI lc)), some (.int (nI br)), some (.int (nI 63)), some (.int (nI S.2.1)), some (.int (nI tr)), some (.int (nI lc)), some (.int (-1)), none, none]) (st' := [.int (nI 63), .int (nI 63)]) (σ' := (μ13, τ)) rfl ?_
            refine am_ic (ty := 177) (tn := 190) rfl (by decide) rfl rfl (fun (h_904 : nI 63 = nI 63) => ?_) (fun (h_904 : ¬ (nI 63 = nI 63)) => ?_)
            rotate_left
            · exact absurd (by decide) h_904
            refine am_run 2 (pc' := 180) (ls' := [some (.ref 44), some (.int (nI tr)), some (.int (nI lc)), some (.int (nI br)), some (.int (nI 63)), some (.int (nI S.2.1)), some (.int (nI tr)), some (.int (nI lc)), some (.int (-1)), none, none]) (st' := [.int (nI 123), .ref 44]) (σ' := (μ13, τ)) rfl ?_
            refine am_invv (y := 86) (b := 44) (as := [.int (nI 123)]) (rest := []) rfl rfl rfl rfl rfl rfl rfl (Nat.le_of_ble_eq_true rfl) ?_
            refine c_isNext_f (by omega) hT3 hX13 hF13 ?_
            show am_G _ M_X6_readPart _ 183 [some (.ref 44), some (.int (nI tr)), some (.int (nI lc)), some (.int (nI br)), some (.int (nI 63)), some (.int (nI S.2.1)), some (.int (nI tr)), some (.int (nI lc)), some (.int (-1)), none, none] [.int (nI 0)] (μ13, τ)
            refine am_if (ty := 190) (tn := 186) rfl (by decide) rfl rfl (fun (h_905 : nI 0 = 0) => ?_) (fun (h_905 : ¬ (nI 0 = 0)) => ?_)
            rotate_left
            · exact absurd (by decide) h_905
            refine am_run 3 (pc' := 195) (ls' := [some (.ref 44), some (.int (nI tr)), some (.int (nI lc)), some (.int (nI br)), some (.int (nI 63)), some (.int (nI S.2.1)), some (.int (nI tr)), some (.int (nI lc)), some (.int (-1)), some (.int (nI 0)), none]) (st' := [.int (nI 0)]) (σ' := (μ13, τ)) rfl ?_
            refine am_if (ty := 212) (tn := 198) rfl (by decide) rfl rfl (fun (h_906 : nI 0 = 0) => ?_) (fun (h_906 : ¬ (nI 0 = 0)) => ?_)
            rotate_left
            · exact absurd (by decide) h_906
            refine am_run 4 (pc' := 219) (ls' := [some (.ref 44), some (.int (nI tr)), some (.int (nI lc)), some (.int (nI br)), some (.int (nI 63)), some (.int (nI S.2.1)), some (.int (nI tr)), some (.int (nI lc)), some (.int (-1)), some (.int (nI 0)), some (.int (-1))]) (st' := [.ref (τ 44 1)]) (σ' := (μ13, τ)) rfl ?_
            refine am_stk (st' := [.ref t]) (by rw [ht]) ?_
            refine am_run 3 (pc' := 225) (ls' := [some (.ref 44), some (.int (nI tr)), some (.int (nI lc)), some (.int (nI br)), some (.int (nI 63)), some (.int (nI S.2.1)), some (.int (nI tr)), some (.int (nI lc)), some (.int (-1)), some (.int (nI 0)), some (.int (-1))]) (st' := [.int (-1), .int (-1), .int (nI S.2.1), .ref t]) (σ' := (μ13, τ)) rfl ?_
            refine am_invv (y := 111) (b := t) (as := [.int (nI S.2.1), .int (-1), .int (-1)]) (rest := []) rfl rfl rfl rfl rfl rfl (t3_kind hT3) (Nat.le_of_ble_eq_true rfl) ?_
            refine c_setOps_f (by omega) hT3 (fun μ23 hK23 h4423 => ?_)
            have hF23 := hF13.of h4423
            have hX23 := hK23.xc hT3 hX13
            show am_G _ M_X6_readPart _ 228 [some (.ref 44), some (.int (nI tr)), some (.int (nI lc)), some (.int (nI br)), some (.int (nI 63)), some (.int (nI S.2.1)), some (.int (nI tr)), some (.int (nI lc)), some (.int (-1)), some (.int (nI 0)), some (.int (-1))] [] (μ23, τ)
            refine am_run 1 (pc' := 230) (ls' := [some (.ref 44), some (.int (nI tr)), some (.int (nI lc)), some (.int (nI br)), some (.int (nI 63)), some (.int (nI S.2.1)), some (.int (nI tr)), some (.int (nI lc)), some (.int (-1)), some (.int (nI 0)), some (.int (-1))]) (st' := [.int (nI S.2.1)]) (σ' := (μ23, τ)) rfl ?_
            refine am_reti rfl rfl ?_
            exact hF μ23 _ _ _ (by rw [pp_63 e63 hb, if_pos hr]) ((((hK1.tr hK2).tr hK3).tr hK13).tr hK23) hX23 hF23
          · show am_G _ M_X6_readPart _ 115 [some (.ref 44), some (.int (nI tr)), some (.int (nI lc)), some (.int (nI br)), some (.int (nI 63)), some (.int (nI S.2.1)), none, none, none, none, none] [] (μ3, τ)
            exact c_blk_63 (by omega) hT3 hX3 hC3 ht hE htr hlc (by show S.2.1 < S.2.1 + 1; omega) (fun μ4 v4 k4 fp4 e4 hK4 hX4 hF4 => hF μ4 v4 k4 fp4 (by rw [pp_63 e63 hb, if_neg hr]; exact e4) (((hK1.tr hK2).tr hK3).tr hK4) hX4 hF4) (fun μ4 S4 r4 e4 hK4 hX4 hC4 hr4 hr4b => hS μ4 S4 r4 (by rw [pp_63 e63 hb, if_neg hr]; exact e4) (((hK1.tr hK2).tr hK3).tr hK4) hX4 hC4 (by omega) hr4b)
      · have hqL : lk tx L S.1 < L := k2 (by omega)
        refine am_enter' (M := M_X6_readPart) rfl rfl rfl (by omega) (ls := [some (.ref 44), some (.int (nI tr)), some (.int (nI lc)), some (.int (nI br)), none, none, none, none, none, none, none]) rfl (fun d' hd' => ?_)
        refine am_run 1 (pc' := 1) (ls' := [some (.ref 44), some (.int (nI tr)), some (.int (nI lc)), some (.int (nI br)), none, none, none, none, none, none, none]) (st' := [.ref 44]) (σ' := (μ, τ)) rfl ?_
        refine am_invv (y := 85) (b := 44) (as := []) (rest := []) rfl rfl rfl rfl rfl rfl rfl (Nat.le_of_ble_eq_true rfl) ?_
        refine c_look (by omega) hT3 hX hC (fun μ1 hK1 hX1 hC1 => ?_)
        rw [e42, tI_n (by decide)]
        show am_G _ M_X6_readPart _ 4 [some (.ref 44), some (.int (nI tr)), some (.int (nI lc)), some (.int (nI br)), none, none, none, none, none, none, none] [.int (nI 42)] (μ1, τ)
        refine am_run 3 (pc' := 10) (ls' := [some (.ref 44), some (.int (nI tr)), some (.int (nI lc)), some (.int (nI br)), some (.int (nI 42)), none, none, none, none, none, none]) (st' := [.int (nI 40), .int (nI 42)]) (σ' := (μ1, τ)) rfl ?_
        refine am_ic (ty := 13) (tn := 25) rfl (by decide) rfl rfl (fun (h_1 : nI 42 = nI 40) => ?_) (fun (h_1 : ¬ (nI 42 = nI 40)) => ?_)
        · exact absurd h_1 (by decide)
        refine am_run 2 (pc' := 29) (ls' := [some (.ref 44), some (.int (nI tr)), some (.int (nI lc)), some (.int (nI br)), some (.int (nI 42)), none, none, none, none, none, none]) (st' := [.int (nI 48), .int (nI 42)]) (σ' := (μ1, τ)) rfl ?_
        refine am_ic (ty := 75) (tn := 32) rfl (by decide) rfl rfl (fun (h_2 : nI 42 = nI 48) => ?_) (fun (h_2 : ¬ (nI 42 = nI 48)) => ?_)
        · exact absurd h_2 (by decide)
        refine am_run 2 (pc' := 36) (ls' := [some (.ref 44), some (.int (nI tr)), some (.int (nI lc)), some (.int (nI br)), some (.int (nI 42)), none, none, none, none, none, none]) (st' := [.int (nI 46), .int (nI 42)]) (σ' := (μ1, τ)) rfl ?_
        refine am_ic (ty := 75) (tn := 39) rfl (by decide) rfl rfl (fun (h_3 : nI 42 = nI 46) => ?_) (fun (h_3 : ¬ (nI 42 = nI 46)) => ?_)
        · exact absurd h_3 (by decide)
        refine am_run 2 (pc' := 43) (ls' := [some (.ref 44), some (.int (nI tr)), some (.int (nI lc)), some (.int (nI br)), some (.int (nI 42)), none, none, none, none, none, none]) (st' := [.int (nI 120), .int (nI 42)]) (σ' := (μ1, τ)) rfl ?_
        refine am_ic (ty := 75) (tn := 46) rfl (by decide) rfl rfl (fun (h_4 : nI 42 = nI 120) => ?_) (fun (h_4 : ¬ (nI 42 = nI 120)) => ?_)
        · exact absurd h_4 (by decide)
        refine am_run 2 (pc' := 50) (ls' := [some (.ref 44), some (.int (nI tr)), some (.int (nI lc)), some (.int (nI br)), some (.int (nI 42)), none, none, none, none, none, none]) (st' := [.int (nI 33), .int (nI 42)]) (σ' := (μ1, τ)) rfl ?_
        refine am_ic (ty := 75) (tn := 53) rfl (by decide) rfl rfl (fun (h_5 : nI 42 = nI 33) => ?_) (fun (h_5 : ¬ (nI 42 = nI 33)) => ?_)
        · exact absurd h_5 (by decide)
        refine am_run 2 (pc' := 57) (ls' := [some (.ref 44), some (.int (nI tr)), some (.int (nI lc)), some (.int (nI br)), some (.int (nI 42)), none, none, none, none, none, none]) (st' := [.int (nI 38), .int (nI 42)]) (σ' := (μ1, τ)) rfl ?_
        refine am_ic (ty := 75) (tn := 60) rfl (by decide) rfl rfl (fun (h_6 : nI 42 = nI 38) => ?_) (fun (h_6 : ¬ (nI 42 = nI 38)) => ?_)
        · exact absurd h_6 (by decide)
        refine am_run 1 (pc' := 62) (ls' := [some (.ref 44), some (.int (nI tr)), some (.int (nI lc)), some (.int (nI br)), some (.int (nI 42)), none, none, none, none, none, none]) (st' := [.int (nI 42)]) (σ' := (μ1, τ)) rfl ?_
        refine am_invs (y := 90) (as := [.int (nI 42)]) (rest := []) rfl rfl rfl rfl rfl rfl (Nat.le_of_ble_eq_true rfl) ?_
        rw [← tI_n (show 42 < 256 by decide)]
        refine c_hasBlock (by omega) (by decide) (fun _ => ?_) (fun z => absurd z (by decide))
        show am_G _ M_X6_readPart _ 65 [some (.ref 44), some (.int (nI tr)), some (.int (nI lc)), some (.int (nI br)), some (.int (nI 42)), none, none, none, none, none, none] [.int (nI 1)] (μ1, τ)
        refine am_if (ty := 68) (tn := 75) rfl (by decide) rfl rfl (fun (h_7 : nI 1 = 0) => ?_) (fun (h_7 : ¬ (nI 1 = 0)) => ?_)
        · exact absurd h_7 (by decide)
        refine am_run 3 (pc' := 79) (ls' := [some (.ref 44), some (.int (nI tr)), some (.int (nI lc)), some (.int (nI br)), some (.int (nI 42)), none, none, none, none, none, none]) (st' := [.int (nI lc), .int (nI 42), .ref 44]) (σ' := (μ1, τ)) rfl ?_
        refine am_invv (y := 93) (b := 44) (as := [.int (nI 42), .int (nI lc)]) (rest := []) rfl rfl rfl rfl rfl rfl rfl (Nat.le_of_ble_eq_true rfl) ?_
        obtain rfl : d = d' := by omega
        refine c_begin (by omega) hT3 hX1 hC1 ht (c := 42) (by show lk tx L S.1 < L; exact hqL) (by decide) hlc (fun μ2 k2_ hb0 hK2 hX2 hF2 => ?_) (fun μ2 hb0 hK2 hX2 hC2 => ?_)
        · show am_G _ M_X6_readPart _ 82 [some (.ref 44), some (.int (nI tr)), some (.int (nI lc)), some (.int (nI br)), some (.int (nI 42)), none, none, none, none, none, none] [.int (-1)] (μ2, τ)
          refine am_run 3 (pc' := 88) (ls' := [some (.ref 44), some (.int (nI tr)), some (.int (nI lc)), some (.int (nI br)), some (.int (nI 42)), some (.int (-1)), none, none, none, none, none]) (st' := [.int (nI 120), .int (nI 42)]) (σ' := (μ2, τ)) rfl ?_
          refine am_ic (ty := 91) (tn := 101) rfl (by decide) rfl rfl (fun (h_701 : nI 42 = nI 120) => ?_) (fun (h_701 : ¬ (nI 42 = nI 120)) => ?_)
          · exact absurd h_701 (by decide)
          refine am_run 1 (pc' := 103) (ls' := [some (.ref 44), some (.int (nI tr)), some (.int (nI lc)), some (.int (nI br)), some (.int (nI 42)), some (.int (-1)), none, none, none, none, none]) (st' := [.int (nI 42)]) (σ' := (μ2, τ)) rfl ?_
          refine am_invs (y := 91) (as := [.int (nI 42)]) (rest := []) rfl rfl rfl rfl rfl rfl (Nat.le_of_ble_eq_true rfl) ?_
          rw [← tI_n (show 42 < 256 by decide)]
          refine c_hasSignal (by omega) (by decide) (fun z => absurd z (by decide)) (fun _ => ?_)
          show am_G _ M_X6_readPart _ 106 [some (.ref 44), some (.int (nI tr)), some (.int (nI lc)), some (.int (nI br)), some (.int (nI 42)), some (.int (-1)), none, none, none, none, none] [.int (nI 0)] (μ2, τ)
          refine am_if (ty := 115) (tn := 109) rfl (by decide) rfl rfl (fun (h_702 : nI 0 = 0) => ?_) (fun (h_702 : ¬ (nI 0 = 0)) => ?_)
          rotate_left
          · exact absurd (by decide) h_702
          refine am_run 1 (pc' := 117) (ls' := [some (.ref 44), some (.int (nI tr)), some (.int (nI lc)), some (.int (nI br)), some (.int (nI 42)), some (.int (-1)), none, none, none, none, none]) (st' := [.int (nI 42)]) (σ' := (μ2, τ)) rfl ?_
          refine am_invs (y := 90) (as := [.int (nI 42)]) (rest := []) rfl rfl rfl rfl rfl rfl (Nat.le_of_ble_eq_true rfl) ?_
          rw [← tI_n (show 42 < 256 by decide)]
          refine c_hasBlock (by omega) (by decide) (fun _ => ?_) (fun z => absurd z (by decide))
          show am_G _ M_X6_readPart _ 120 [some (.ref 44), some (.int (nI tr)), some (.int (nI lc)), some (.int (nI br)), some (.int (nI 42)), some (.int (-1)), none, none, none, none, none] [.int (nI 1)] (μ2, τ)
          refine am_if (ty := 228) (tn := 123) rfl (by decide) rfl rfl (fun (h_703 : nI 1 = 0) => ?_) (fun (h_703 : ¬ (nI 1 = 0)) => ?_)
          · exact absurd h_703 (by decide)
          refine am_run 2 (pc' := 127) (ls' := [some (.ref 44), some (.int (nI tr)), some (.int (nI lc)), some (.int (nI br)), some (.int (nI 42)), some (.int (-1)), none, none, none, none, none]) (st' := [.int (nI 94), .int (nI 42)]) (σ' := (μ2, τ)) rfl ?_
          refine am_ic (ty := 130) (tn := 136) rfl (by decide) rfl rfl (fun (h_704 : nI 42 = nI 94) => ?_) (fun (h_704 : ¬ (nI 42 = nI 94)) => ?_)
          · exact absurd h_704 (by decide)
          refine am_run 4 (pc' := 143) (ls' := [some (.ref 44), some (.int (nI tr)), some (.int (nI lc)), some (.int (nI br)), some (.int (nI 42)), some (.int (-1)), some (.int (nI tr)), none, none, none, none]) (st' := [.int (nI 36), .int (nI 42)]) (σ' := (μ2, τ)) rfl ?_
          refine am_ic (ty := 146) (tn := 152) rfl (by decide) rfl rfl (fun (h_705 : nI 42 = nI 36) => ?_) (fun (h_705 : ¬ (nI 42 = nI 36)) => ?_)
          · exact absurd h_705 (by decide)
          refine am_run 8 (pc' := 165) (ls' := [some (.ref 44), some (.int (nI tr)), some (.int (nI lc)), some (.int (nI br)), some (.int (nI 42)), some (.int (-1)), some (.int (nI tr)), some (.int (nI lc)), none, none, none]) (st' := [.int (nI br), .int (nI lc), .int (nI tr), .int (nI 125), .int (nI 123), .ref 44]) (σ' := (μ2, τ)) rfl ?_
          refine am_invv (y := 92) (b := 44) (as := [.int (nI 123), .int (nI 125), .int (nI tr), .int (nI lc), .int (nI br)]) (rest := []) rfl rfl rfl rfl rfl rfl rfl (Nat.le_of_ble_eq_true rfl) ?_
          refine c_enc_f (by omega) hT3 hX2 hF2 (fun μ12 hK12 hX12 hF12 => ?_)
          show am_G _ M_X6_readPart _ 168 [some (.ref 44), some (.int (nI tr)), some (.int (nI lc)), some (.int (nI br)), some (.int (nI 42)), some (.int (-1)), some (.int (nI tr)), some (.int (nI lc)), none, none, none] [.int (-1)] (μ12, τ)
          refine am_run 3 (pc' := 174) (ls' := [some (.ref 44), some (.int (nI tr)), some (.int (nI lc)), some (.int (nI br)), some (.int (nI 42)), some (.int (-1)), some (.int (nI tr)), some (.int (nI lc)), some (.int (-1)), none, none]) (st' := [.int (nI 63), .int (nI 42)]) (σ' := (μ12, τ)) rfl ?_
          refine am_ic (ty := 177) (tn := 190) rfl (by decide) rfl rfl (fun (h_706 : nI 42 = nI 63) => ?_) (fun (h_706 : ¬ (nI 42 = nI 63)) => ?_)
          · exact absurd h_706 (by decide)
          refine am_run 3 (pc' := 195) (ls' := [some (.ref 44), some (.int (nI tr)), some (.int (nI lc)), some (.int (nI br)), some (.int (nI 42)), some (.int (-1)), some (.int (nI tr)), some (.int (nI lc)), some (.int (-1)), some (.int (nI 0)), none]) (st' := [.int (nI 0)]) (σ' := (μ12, τ)) rfl ?_
          refine am_if (ty := 212) (tn := 198) rfl (by decide) rfl rfl (fun (h_707 : nI 0 = 0) => ?_) (fun (h_707 : ¬ (nI 0 = 0)) => ?_)
          rotate_left
          · exact absurd (by decide) h_707
          refine am_run 4 (pc' := 219) (ls' := [some (.ref 44), some (.int (nI tr)), some (.int (nI lc)), some (.int (nI br)), some (.int (nI 42)), some (.int (-1)), some (.int (nI tr)), some (.int (nI lc)), some (.int (-1)), some (.int (nI 0)), some (.int (-1))]) (st' := [.ref (τ 44 1)]) (σ' := (μ12, τ)) rfl ?_
          refine am_stk (st' := [.ref t]) (by rw [ht]) ?_
          refine am_run 3 (pc' := 225) (ls' := [some (.ref 44), some (.int (nI tr)), some (.int (nI lc)), some (.int (nI br)), some (.int (nI 42)), some (.int (-1)), some (.int (nI tr)), some (.int (nI lc)), some (.int (-1)), some (.int (nI 0)), some (.int (-1))]) (st' := [.int (-1), .int (-1), .int (-1), .ref t]) (σ' := (μ12, τ)) rfl ?_
          refine am_invv (y := 111) (b := t) (as := [.int (-1), .int (-1), .int (-1)]) (rest := []) rfl rfl rfl rfl rfl rfl (t3_kind hT3) (Nat.le_of_ble_eq_true rfl) ?_
          refine c_setOps_f (by omega) hT3 (fun μ22 hK22 h4422 => ?_)
          have hF22 := hF12.of h4422
          have hX22 := hK22.xc hT3 hX12
          show am_G _ M_X6_readPart _ 228 [some (.ref 44), some (.int (nI tr)), some (.int (nI lc)), some (.int (nI br)), some (.int (nI 42)), some (.int (-1)), some (.int (nI tr)), some (.int (nI lc)), some (.int (-1)), some (.int (nI 0)), some (.int (-1))] [] (μ22, τ)
          refine am_run 1 (pc' := 230) (ls' := [some (.ref 44), some (.int (nI tr)), some (.int (nI lc)), some (.int (nI br)), some (.int (nI 42)), some (.int (-1)), some (.int (nI tr)), some (.int (nI lc)), some (.int (-1)), some (.int (nI 0)), some (.int (-1))]) (st' := [.int (-1)]) (σ' := (μ22, τ)) rfl ?_
          refine am_reti rfl rfl ?_
          exact hF μ22 _ _ _ (pf_42 e42 hb0) (((hK1.tr hK2).tr hK12).tr hK22) hX22 hF22
        · have hb : p_beg S 42 lc (lk tx L S.1) = .inr (ps_add S 42 (lk tx L S.1)) := hb0
          have hC2 : CR μ2 t L (ps_add S 42 (lk tx L S.1)) := hC2
          show am_G _ M_X6_readPart _ 82 [some (.ref 44), some (.int (nI tr)), some (.int (nI lc)), some (.int (nI br)), some (.int (nI 42)), none, none, none, none, none, none] [.int (nI S.2.1)] (μ2, τ)
          refine am_run 3 (pc' := 88) (ls' := [some (.ref 44), some (.int (nI tr)), some (.int (nI lc)), some (.int (nI br)), some (.int (nI 42)), some (.int (nI S.2.1)), none, none, none, none, none]) (st' := [.int (nI 120), .int (nI 42)]) (σ' := (μ2, τ)) rfl ?_
          refine am_ic (ty := 91) (tn := 101) rfl (by decide) rfl rfl (fun (h_1001 : nI 42 = nI 120) => ?_) (fun (h_1001 : ¬ (nI 42 = nI 120)) => ?_)
          · exact absurd h_1001 (by decide)
          refine am_run 1 (pc' := 103) (ls' := [some (.ref 44), some (.int (nI tr)), some (.int (nI lc)), some (.int (nI br)), some (.int (nI 42)), some (.int (nI S.2.1)), none, none, none, none, none]) (st' := [.int (nI 42)]) (σ' := (μ2, τ)) rfl ?_
          refine am_invs (y := 91) (as := [.int (nI 42)]) (rest := []) rfl rfl rfl rfl rfl rfl (Nat.le_of_ble_eq_true rfl) ?_
          rw [← tI_n (show 42 < 256 by decide)]
          refine c_hasSignal (by omega) (by decide) (fun z => absurd z (by decide)) (fun _ => ?_)
          show am_G _ M_X6_readPart _ 106 [some (.ref 44), some (.int (nI tr)), some (.int (nI lc)), some (.int (nI br)), some (.int (nI 42)), some (.int (nI S.2.1)), none, none, none, none, none] [.int (nI 0)] (μ2, τ)
          refine am_if (ty := 115) (tn := 109) rfl (by decide) rfl rfl (fun (h_1002 : nI 0 = 0) => ?_) (fun (h_1002 : ¬ (nI 0 = 0)) => ?_)
          rotate_left
          · exact absurd (by decide) h_1002
          exact c_blk_42 (by omega) hT3 hX2 hC2 ht hE htr hlc (by show S.2.1 < S.2.1 + 1; omega) (fun μ4 v4 k4 fp4 e4 hK4 hX4 hF4 => hF μ4 v4 k4 fp4 (by rw [pp_42 e42 hb]; exact e4) ((hK1.tr hK2).tr hK4) hX4 hF4) (fun μ4 S4 r4 e4 hK4 hX4 hC4 hr4 hr4b => hS μ4 S4 r4 (by rw [pp_42 e42 hb]; exact e4) ((hK1.tr hK2).tr hK4) hX4 hC4 (by omega) hr4b)
      · have hqL : lk tx L S.1 < L := k2 (by omega)
        refine am_enter' (M := M_X6_readPart) rfl rfl rfl (by omega) (ls := [some (.ref 44), some (.int (nI tr)), some (.int (nI lc)), some (.int (nI br)), none, none, none, none, none, none, none]) rfl (fun d' hd' => ?_)
        refine am_run 1 (pc' := 1) (ls' := [some (.ref 44), some (.int (nI tr)), some (.int (nI lc)), some (.int (nI br)), none, none, none, none, none, none, none]) (st' := [.ref 44]) (σ' := (μ, τ)) rfl ?_
        refine am_invv (y := 85) (b := 44) (as := []) (rest := []) rfl rfl rfl rfl rfl rfl rfl (Nat.le_of_ble_eq_true rfl) ?_
        refine c_look (by omega) hT3 hX hC (fun μ1 hK1 hX1 hC1 => ?_)
        rw [e94, tI_n (by decide)]
        show am_G _ M_X6_readPart _ 4 [some (.ref 44), some (.int (nI tr)), some (.int (nI lc)), some (.int (nI br)), none, none, none, none, none, none, none] [.int (nI 94)] (μ1, τ)
        refine am_run 3 (pc' := 10) (ls' := [some (.ref 44), some (.int (nI tr)), some (.int (nI lc)), some (.int (nI br)), some (.int (nI 94)), none, none, none, none, none, none]) (st' := [.int (nI 40), .int (nI 94)]) (σ' := (μ1, τ)) rfl ?_
        refine am_ic (ty := 13) (tn := 25) rfl (by decide) rfl rfl (fun (h_1 : nI 94 = nI 40) => ?_) (fun (h_1 : ¬ (nI 94 = nI 40)) => ?_)
        · exact absurd h_1 (by decide)
        refine am_run 2 (pc' := 29) (ls' := [some (.ref 44), some (.int (nI tr)), some (.int (nI lc)), some (.int (nI br)), some (.int (nI 94)), none, none, none, none, none, none]) (st' := [.int (nI 48), .int (nI 94)]) (σ' := (μ1, τ)) rfl ?_
        refine am_ic (ty := 75) (tn := 32) rfl (by decide) rfl rfl (fun (h_2 : nI 94 = nI 48) => ?_) (fun (h_2 : ¬ (nI 94 = nI 48)) => ?_)
        · exact absurd h_2 (by decide)
        refine am_run 2 (pc' := 36) (ls' := [some (.ref 44), some (.int (nI tr)), some (.int (nI lc)), some (.int (nI br)), some (.int (nI 94)), none, none, none, none, none, none]) (st' := [.int (nI 46), .int (nI 94)]) (σ' := (μ1, τ)) rfl ?_
        refine am_ic (ty := 75) (tn := 39) rfl (by decide) rfl rfl (fun (h_3 : nI 94 = nI 46) => ?_) (fun (h_3 : ¬ (nI 94 = nI 46)) => ?_)
        · exact absurd h_3 (by decide)
        refine am_run 2 (pc' := 43) (ls' := [some (.ref 44), some (.int (nI tr)), some (.int (nI lc)), some (.int (nI br)), some (.int (nI 94)), none, none, none, none, none, none]) (st' := [.int (nI 120), .int (nI 94)]) (σ' := (μ1, τ)) rfl ?_
        refine am_ic (ty := 75) (tn := 46) rfl (by decide) rfl rfl (fun (h_4 : nI 94 = nI 120) => ?_) (fun (h_4 : ¬ (nI 94 = nI 120)) => ?_)
        · exact absurd h_4 (by decide)
        refine am_run 2 (pc' := 50) (ls' := [some (.ref 44), some (.int (nI tr)), some (.int (nI lc)), some (.int (nI br)), some (.int (nI 94)), none, none, none, none, none, none]) (st' := [.int (nI 33), .int (nI 94)]) (σ' := (μ1, τ)) rfl ?_
        refine am_ic (ty := 75) (tn := 53) rfl (by decide) rfl rfl (fun (h_5 : nI 94 = nI 33) => ?_) (fun (h_5 : ¬ (nI 94 = nI 33)) => ?_)
        · exact absurd h_5 (by decide)
        refine am_run 2 (pc' := 57) (ls' := [some (.ref 44), some (.int (nI tr)), some (.int (nI lc)), some (.int (nI br)), some (.int (nI 94)), none, none, none, none, none, none]) (st' := [.int (nI 38), .int (nI 94)]) (σ' := (μ1, τ)) rfl ?_
        refine am_ic (ty := 75) (tn := 60) rfl (by decide) rfl rfl (fun (h_6 : nI 94 = nI 38) => ?_) (fun (h_6 : ¬ (nI 94 = nI 38)) => ?_)
        · exact absurd h_6 (by decide)
        refine am_run 1 (pc' := 62) (ls' := [some (.ref 44), some (.int (nI tr)), some (.int (nI lc)), some (.int (nI br)), some (.int (nI 94)), none, none, none, none, none, none]) (st' := [.int (nI 94)]) (σ' := (μ1, τ)) rfl ?_
        refine am_invs (y := 90) (as := [.int (nI 94)]) (rest := []) rfl rfl rfl rfl rfl rfl (Nat.le_of_ble_eq_true rfl) ?_
        rw [← tI_n (show 94 < 256 by decide)]
        refine c_hasBlock (by omega) (by decide) (fun _ => ?_) (fun z => absurd z (by decide))
        show am_G _ M_X6_readPart _ 65 [some (.ref 44), some (.int (nI tr)), some (.int (nI lc)), some (.int (nI br)), some (.int (nI 94)), none, none, none, none, none, none] [.int (nI 1)] (μ1, τ)
        refine am_if (ty := 68) (tn := 75) rfl (by decide) rfl rfl (fun (h_7 : nI 1 = 0) => ?_) (fun (h_7 : ¬ (nI 1 = 0)) => ?_)
        · exact absurd h_7 (by decide)
        refine am_run 3 (pc' := 79) (ls' := [some (.ref 44), some (.int (nI tr)), some (.int (nI lc)), some (.int (nI br)), some (.int (nI 94)), none, none, none, none, none, none]) (st' := [.int (nI lc), .int (nI 94), .ref 44]) (σ' := (μ1, τ)) rfl ?_
        refine am_invv (y := 93) (b := 44) (as := [.int (nI 94), .int (nI lc)]) (rest := []) rfl rfl rfl rfl rfl rfl rfl (Nat.le_of_ble_eq_true rfl) ?_
        obtain rfl : d = d' := by omega
        refine c_begin (by omega) hT3 hX1 hC1 ht (c := 94) (by show lk tx L S.1 < L; exact hqL) (by decide) hlc (fun μ2 k2_ hb0 hK2 hX2 hF2 => ?_) (fun μ2 hb0 hK2 hX2 hC2 => ?_)
        · show am_G _ M_X6_readPart _ 82 [some (.ref 44), some (.int (nI tr)), some (.int (nI lc)), some (.int (nI br)), some (.int (nI 94)), none, none, none, none, none, none] [.int (-1)] (μ2, τ)
          refine am_run 3 (pc' := 88) (ls' := [some (.ref 44), some (.int (nI tr)), some (.int (nI lc)), some (.int (nI br)), some (.int (nI 94)), some (.int (-1)), none, none, none, none, none]) (st' := [.int (nI 120), .int (nI 94)]) (σ' := (μ2, τ)) rfl ?_
          refine am_ic (ty := 91) (tn := 101) rfl (by decide) rfl rfl (fun (h_701 : nI 94 = nI 120) => ?_) (fun (h_701 : ¬ (nI 94 = nI 120)) => ?_)
          · exact absurd h_701 (by decide)
          refine am_run 1 (pc' := 103) (ls' := [some (.ref 44), some (.int (nI tr)), some (.int (nI lc)), some (.int (nI br)), some (.int (nI 94)), some (.int (-1)), none, none, none, none, none]) (st' := [.int (nI 94)]) (σ' := (μ2, τ)) rfl ?_
          refine am_invs (y := 91) (as := [.int (nI 94)]) (rest := []) rfl rfl rfl rfl rfl rfl (Nat.le_of_ble_eq_true rfl) ?_
          rw [← tI_n (show 94 < 256 by decide)]
          refine c_hasSignal (by omega) (by decide) (fun z => absurd z (by decide)) (fun _ => ?_)
          show am_G _ M_X6_readPart _ 106 [some (.ref 44), some (.int (nI tr)), some (.int (nI lc)), some (.int (nI br)), some (.int (nI 94)), some (.int (-1)), none, none, none, none, none] [.int (nI 0)] (μ2, τ)
          refine am_if (ty := 115) (tn := 109) rfl (by decide) rfl rfl (fun (h_702 : nI 0 = 0) => ?_) (fun (h_702 : ¬ (nI 0 = 0)) => ?_)
          rotate_left
          · exact absurd (by decide) h_702
          refine am_run 1 (pc' := 117) (ls' := [some (.ref 44), some (.int (nI tr)), some (.int (nI lc)), some (.int (nI br)), some (.int (nI 94)), some (.int (-1)), none, none, none, none, none]) (st' := [.int (nI 94)]) (σ' := (μ2, τ)) rfl ?_
          refine am_invs (y := 90) (as := [.int (nI 94)]) (rest := []) rfl rfl rfl rfl rfl rfl (Nat.le_of_ble_eq_true rfl) ?_
          rw [← tI_n (show 94 < 256 by decide)]
          refine c_hasBlock (by omega) (by decide) (fun _ => ?_) (fun z => absurd z (by decide))
          show am_G _ M_X6_readPart _ 120 [some (.ref 44), some (.int (nI tr)), some (.int (nI lc)), some (.int (nI br)), some (.int (nI 94)), some (.int (-1)), none, none, none, none, none] [.int (nI 1)] (μ2, τ)
          refine am_if (ty := 228) (tn := 123) rfl (by decide) rfl rfl (fun (h_703 : nI 1 = 0) => ?_) (fun (h_703 : ¬ (nI 1 = 0)) => ?_)
          · exact absurd h_703 (by decide)
          refine am_run 2 (pc' := 127) (ls' := [some (.ref 44), some (.int (nI tr)), some (.int (nI lc)), some (.int (nI br)), some (.int (nI 94)), some (.int (-1)), none, none, none, none, none]) (st' := [.int (nI 94), .int (nI 94)]) (σ' := (μ2, τ)) rfl ?_
          refine am_ic (ty := 130) (tn := 136) rfl (by decide) rfl rfl (fun (h_704 : nI 94 = nI 94) => ?_) (fun (h_704 : ¬ (nI 94 = nI 94)) => ?_)
          rotate_left
          · exact absurd (by decide) h_704
          refine am_run 3 (pc' := 133) (ls' := [some (.ref 44), some (.int (nI tr)), some (.int (nI lc)), some (.int (nI br)), some (.int (nI 94)), some (.int (-1)), none, none, none, none, none]) (st' := [.int (nI tr + nI 1)]) (σ' := (μ2, τ)) rfl ?_
          refine am_top (v' := nI (tr + 1)) (nI_add _ _) ?_
          refine am_run 4 (pc' := 143) (ls' := [some (.ref 44), some (.int (nI tr)), some (.int (nI lc)), some (.int (nI br)), some (.int (nI 94)), some (.int (-1)), some (.int (nI (tr + 1))), none, none, none, none]) (st' := [.int (nI 36), .int (nI 94)]) (σ' := (μ2, τ)) rfl ?_
          refine am_ic (ty := 146) (tn := 152) rfl (by decide) rfl rfl (fun (h_705 : nI 94 = nI 36) => ?_) (fun (h_705 : ¬ (nI 94 = nI 36)) => ?_)
          · exact absurd h_705 (by decide)
          refine am_run 8 (pc' := 165) (ls' := [some (.ref 44), some (.int (nI tr)), some (.int (nI lc)), some (.int (nI br)), some (.int (nI 94)), some (.int (-1)), some (.int (nI (tr + 1))), some (.int (nI lc)), none, none, none]) (st' := [.int (nI br), .int (nI lc), .int (nI (tr + 1)), .int (nI 125), .int (nI 123), .ref 44]) (σ' := (μ2, τ)) rfl ?_
          refine am_invv (y := 92) (b := 44) (as := [.int (nI 123), .int (nI 125), .int (nI (tr + 1)), .int (nI lc), .int (nI br)]) (rest := []) rfl rfl rfl rfl rfl rfl rfl (Nat.le_of_ble_eq_true rfl) ?_
          refine c_enc_f (by omega) hT3 hX2 hF2 (fun μ12 hK12 hX12 hF12 => ?_)
          show am_G _ M_X6_readPart _ 168 [some (.ref 44), some (.int (nI tr)), some (.int (nI lc)), some (.int (nI br)), some (.int (nI 94)), some (.int (-1)), some (.int (nI (tr + 1))), some (.int (nI lc)), none, none, none] [.int (-1)] (μ12, τ)
          refine am_run 3 (pc' := 174) (ls' := [some (.ref 44), some (.int (nI tr)), some (.int (nI lc)), some (.int (nI br)), some (.int (nI 94)), some (.int (-1)), some (.int (nI (tr + 1))), some (.int (nI lc)), some (.int (-1)), none, none]) (st' := [.int (nI 63), .int (nI 94)]) (σ' := (μ12, τ)) rfl ?_
          refine am_ic (ty := 177) (tn := 190) rfl (by decide) rfl rfl (fun (h_706 : nI 94 = nI 63) => ?_) (fun (h_706 : ¬ (nI 94 = nI 63)) => ?_)
          · exact absurd h_706 (by decide)
          refine am_run 3 (pc' := 195) (ls' := [some (.ref 44), some (.int (nI tr)), some (.int (nI lc)), some (.int (nI br)), some (.int (nI 94)), some (.int (-1)), some (.int (nI (tr + 1))), some (.int (nI lc)), some (.int (-1)), some (.int (nI 0)), none]) (st' := [.int (nI 0)]) (σ' := (μ12, τ)) rfl ?_
          refine am_if (ty := 212) (tn := 198) rfl (by decide) rfl rfl (fun (h_707 : nI 0 = 0) => ?_) (fun (h_707 : ¬ (nI 0 = 0)) => ?_)
          rotate_left
          · exact absurd (by decide) h_707
          refine am_run 4 (pc' := 219) (ls' := [some (.ref 44), some (.int (nI tr)), some (.int (nI lc)), some (.int (nI br)), some (.int (nI 94)), some (.int (-1)), some (.int (nI (tr + 1))), some (.int (nI lc)), some (.int (-1)), some (.int (nI 0)), some (.int (-1))]) (st' := [.ref (τ 44 1)]) (σ' := (μ12, τ)) rfl ?_
          refine am_stk (st' := [.ref t]) (by rw [ht]) ?_
          refine am_run 3 (pc' := 225) (ls' := [some (.ref 44), some (.int (nI tr)), some (.int (nI lc)), some (.int (nI br)), some (.int (nI 94)), some (.int (-1)), some (.int (nI (tr + 1))), some (.int (nI lc)), some (.int (-1)), some (.int (nI 0)), some (.int (-1))]) (st' := [.int (-1), .int (-1), .int (-1), .ref t]) (σ' := (μ12, τ)) rfl ?_
          refine am_invv (y := 111) (b := t) (as := [.int (-1), .int (-1), .int (-1)]) (rest := []) rfl rfl rfl rfl rfl rfl (t3_kind hT3) (Nat.le_of_ble_eq_true rfl) ?_
          refine c_setOps_f (by omega) hT3 (fun μ22 hK22 h4422 => ?_)
          have hF22 := hF12.of h4422
          have hX22 := hK22.xc hT3 hX12
          show am_G _ M_X6_readPart _ 228 [some (.ref 44), some (.int (nI tr)), some (.int (nI lc)), some (.int (nI br)), some (.int (nI 94)), some (.int (-1)), some (.int (nI (tr + 1))), some (.int (nI lc)), some (.int (-1)), some (.int (nI 0)), some (.int (-1))] [] (μ22, τ)
          refine am_run 1 (pc' := 230) (ls' := [some (.ref 44), some (.int (nI tr)), some (.int (nI lc)), some (.int (nI br)), some (.int (nI 94)), some (.int (-1)), some (.int (nI (tr + 1))), some (.int (nI lc)), some (.int (-1)), some (.int (nI 0)), some (.int (-1))]) (st' := [.int (-1)]) (σ' := (μ22, τ)) rfl ?_
          refine am_reti rfl rfl ?_
          exact hF μ22 _ _ _ (pf_94 e94 hb0) (((hK1.tr hK2).tr hK12).tr hK22) hX22 hF22
        · have hb : p_beg S 94 lc (lk tx L S.1) = .inr (ps_add S 94 (lk tx L S.1)) := hb0
          have hC2 : CR μ2 t L (ps_add S 94 (lk tx L S.1)) := hC2
          show am_G _ M_X6_readPart _ 82 [some (.ref 44), some (.int (nI tr)), some (.int (nI lc)), some (.int (nI br)), some (.int (nI 94)), none, none, none, none, none, none] [.int (nI S.2.1)] (μ2, τ)
          refine am_run 3 (pc' := 88) (ls' := [some (.ref 44), some (.int (nI tr)), some (.int (nI lc)), some (.int (nI br)), some (.int (nI 94)), some (.int (nI S.2.1)), none, none, none, none, none]) (st' := [.int (nI 120), .int (nI 94)]) (σ' := (μ2, τ)) rfl ?_
          refine am_ic (ty := 91) (tn := 101) rfl (by decide) rfl rfl (fun (h_1001 : nI 94 = nI 120) => ?_) (fun (h_1001 : ¬ (nI 94 = nI 120)) => ?_)
          · exact absurd h_1001 (by decide)
          refine am_run 1 (pc' := 103) (ls' := [some (.ref 44), some (.int (nI tr)), some (.int (nI lc)), some (.int (nI br)), some (.int (nI 94)), some (.int (nI S.2.1)), none, none, none, none, none]) (st' := [.int (nI 94)]) (σ' := (μ2, τ)) rfl ?_
          refine am_invs (y := 91) (as := [.int (nI 94)]) (rest := []) rfl rfl rfl rfl rfl rfl (Nat.le_of_ble_eq_true rfl) ?_
          rw [← tI_n (show 94 < 256 by decide)]
          refine c_hasSignal (by omega) (by decide) (fun z => absurd z (by decide)) (fun _ => ?_)
          show am_G _ M_X6_readPart _ 106 [some (.ref 44), some (.int (nI tr)), some (.int (nI lc)), some (.int (nI br)), some (.int (nI 94)), some (.int (nI S.2.1)), none, none, none, none, none] [.int (nI 0)] (μ2, τ)
          refine am_if (ty := 115) (tn := 109) rfl (by decide) rfl rfl (fun (h_1002 : nI 0 = 0) => ?_) (fun (h_1002 : ¬ (nI 0 = 0)) => ?_)
          rotate_left
          · exact absurd (by decide) h_1002
          exact c_blk_94 (by omega) hT3 hX2 hC2 ht hE htr hlc (by show S.2.1 < S.2.1 + 1; omega) (fun μ4 v4 k4 fp4 e4 hK4 hX4 hF4 => hF μ4 v4 k4 fp4 (by rw [pp_94 e94 hb]; exact e4) ((hK1.tr hK2).tr hK4) hX4 hF4) (fun μ4 S4 r4 e4 hK4 hX4 hC4 hr4 hr4b => hS μ4 S4 r4 (by rw [pp_94 e94 hb]; exact e4) ((hK1.tr hK2).tr hK4) hX4 hC4 (by omega) hr4b)
      · have hqL : lk tx L S.1 < L := k2 (by omega)
        refine am_enter' (M := M_X6_readPart) rfl rfl rfl (by omega) (ls := [some (.ref 44), some (.int (nI tr)), some (.int (nI lc)), some (.int (nI br)), none, none, none, none, none, none, none]) rfl (fun d' hd' => ?_)
        refine am_run 1 (pc' := 1) (ls' := [some (.ref 44), some (.int (nI tr)), some (.int (nI lc)), some (.int (nI br)), none, none, none, none, none, none, none]) (st' := [.ref 44]) (σ' := (μ, τ)) rfl ?_
        refine am_invv (y := 85) (b := 44) (as := []) (rest := []) rfl rfl rfl rfl rfl rfl rfl (Nat.le_of_ble_eq_true rfl) ?_
        refine c_look (by omega) hT3 hX hC (fun μ1 hK1 hX1 hC1 => ?_)
        rw [e64, tI_n (by decide)]
        show am_G _ M_X6_readPart _ 4 [some (.ref 44), some (.int (nI tr)), some (.int (nI lc)), some (.int (nI br)), none, none, none, none, none, none, none] [.int (nI 64)] (μ1, τ)
        refine am_run 3 (pc' := 10) (ls' := [some (.ref 44), some (.int (nI tr)), some (.int (nI lc)), some (.int (nI br)), some (.int (nI 64)), none, none, none, none, none, none]) (st' := [.int (nI 40), .int (nI 64)]) (σ' := (μ1, τ)) rfl ?_
        refine am_ic (ty := 13) (tn := 25) rfl (by decide) rfl rfl (fun (h_1 : nI 64 = nI 40) => ?_) (fun (h_1 : ¬ (nI 64 = nI 40)) => ?_)
        · exact absurd h_1 (by decide)
        refine am_run 2 (pc' := 29) (ls' := [some (.ref 44), some (.int (nI tr)), some (.int (nI lc)), some (.int (nI br)), some (.int (nI 64)), none, none, none, none, none, none]) (st' := [.int (nI 48), .int (nI 64)]) (σ' := (μ1, τ)) rfl ?_
        refine am_ic (ty := 75) (tn := 32) rfl (by decide) rfl rfl (fun (h_2 : nI 64 = nI 48) => ?_) (fun (h_2 : ¬ (nI 64 = nI 48)) => ?_)
        · exact absurd h_2 (by decide)
        refine am_run 2 (pc' := 36) (ls' := [some (.ref 44), some (.int (nI tr)), some (.int (nI lc)), some (.int (nI br)), some (.int (nI 64)), none, none, none, none, none, none]) (st' := [.int (nI 46), .int (nI 64)]) (σ' := (μ1, τ)) rfl ?_
        refine am_ic (ty := 75) (tn := 39) rfl (by decide) rfl rfl (fun (h_3 : nI 64 = nI 46) => ?_) (fun (h_3 : ¬ (nI 64 = nI 46)) => ?_)
        · exact absurd h_3 (by decide)
        refine am_run 2 (pc' := 43) (ls' := [some (.ref 44), some (.int (nI tr)), some (.int (nI lc)), some (.int (nI br)), some (.int (nI 64)), none, none, none, none, none, none]) (st' := [.int (nI 120), .int (nI 64)]) (σ' := (μ1, τ)) rfl ?_
        refine am_ic (ty := 75) (tn := 46) rfl (by decide) rfl rfl (fun (h_4 : nI 64 = nI 120) => ?_) (fun (h_4 : ¬ (nI 64 = nI 120)) => ?_)
        · exact absurd h_4 (by decide)
        refine am_run 2 (pc' := 50) (ls' := [some (.ref 44), some (.int (nI tr)), some (.int (nI lc)), some (.int (nI br)), some (.int (nI 64)), none, none, none, none, none, none]) (st' := [.int (nI 33), .int (nI 64)]) (σ' := (μ1, τ)) rfl ?_
        refine am_ic (ty := 75) (tn := 53) rfl (by decide) rfl rfl (fun (h_5 : nI 64 = nI 33) => ?_) (fun (h_5 : ¬ (nI 64 = nI 33)) => ?_)
        · exact absurd h_5 (by decide)
        refine am_run 2 (pc' := 57) (ls' := [some (.ref 44), some (.int (nI tr)), some (.int (nI lc)), some (.int (nI br)), some (.int (nI 64)), none, none, none, none, none, none]) (st' := [.int (nI 38), .int (nI 64)]) (σ' := (μ1, τ)) rfl ?_
        refine am_ic (ty := 75) (tn := 60) rfl (by decide) rfl rfl (fun (h_6 : nI 64 = nI 38) => ?_) (fun (h_6 : ¬ (nI 64 = nI 38)) => ?_)
        · exact absurd h_6 (by decide)
        refine am_run 1 (pc' := 62) (ls' := [some (.ref 44), some (.int (nI tr)), some (.int (nI lc)), some (.int (nI br)), some (.int (nI 64)), none, none, none, none, none, none]) (st' := [.int (nI 64)]) (σ' := (μ1, τ)) rfl ?_
        refine am_invs (y := 90) (as := [.int (nI 64)]) (rest := []) rfl rfl rfl rfl rfl rfl (Nat.le_of_ble_eq_true rfl) ?_
        rw [← tI_n (show 64 < 256 by decide)]
        refine c_hasBlock (by omega) (by decide) (fun _ => ?_) (fun z => absurd z (by decide))
        show am_G _ M_X6_readPart _ 65 [some (.ref 44), some (.int (nI tr)), some (.int (nI lc)), some (.int (nI br)), some (.int (nI 64)), none, none, none, none, none, none] [.int (nI 1)] (μ1, τ)
        refine am_if (ty := 68) (tn := 75) rfl (by decide) rfl rfl (fun (h_7 : nI 1 = 0) => ?_) (fun (h_7 : ¬ (nI 1 = 0)) => ?_)
        · exact absurd h_7 (by decide)
        refine am_run 3 (pc' := 79) (ls' := [some (.ref 44), some (.int (nI tr)), some (.int (nI lc)), some (.int (nI br)), some (.int (nI 64)), none, none, none, none, none, none]) (st' := [.int (nI lc), .int (nI 64), .ref 44]) (σ' := (μ1, τ)) rfl ?_
        refine am_invv (y := 93) (b := 44) (as := [.int (nI 64), .int (nI lc)]) (rest := []) rfl rfl rfl rfl rfl rfl rfl (Nat.le_of_ble_eq_true rfl) ?_
        obtain rfl : d = d' := by omega
        refine c_begin (by omega) hT3 hX1 hC1 ht (c := 64) (by show lk tx L S.1 < L; exact hqL) (by decide) hlc (fun μ2 k2_ hb0 hK2 hX2 hF2 => ?_) (fun μ2 hb0 hK2 hX2 hC2 => ?_)
        · show am_G _ M_X6_readPart _ 82 [some (.ref 44), some (.int (nI tr)), some (.int (nI lc)), some (.int (nI br)), some (.int (nI 64)), none, none, none, none, none, none] [.int (-1)] (μ2, τ)
          refine am_run 3 (pc' := 88) (ls' := [some (.ref 44), some (.int (nI tr)), some (.int (nI lc)), some (.int (nI br)), some (.int (nI 64)), some (.int (-1)), none, none, none, none, none]) (st' := [.int (nI 120), .int (nI 64)]) (σ' := (μ2, τ)) rfl ?_
          refine am_ic (ty := 91) (tn := 101) rfl (by decide) rfl rfl (fun (h_701 : nI 64 = nI 120) => ?_) (fun (h_701 : ¬ (nI 64 = nI 120)) => ?_)
          · exact absurd h_701 (by decide)
          refine am_run 1 (pc' := 103) (ls' := [some (.ref 44), some (.int (nI tr)), some (.int (nI lc)), some (.int (nI br)), some (.int (nI 64)), some (.int (-1)), none, none, none, none, none]) (st' := [.int (nI 64)]) (σ' := (μ2, τ)) rfl ?_
          refine am_invs (y := 91) (as := [.int (nI 64)]) (rest := []) rfl rfl rfl rfl rfl rfl (Nat.le_of_ble_eq_true rfl) ?_
          rw [← tI_n (show 64 < 256 by decide)]
          refine c_hasSignal (by omega) (by decide) (fun _ => ?_) (fun z => absurd z (by decide))
          show am_G _ M_X6_readPart _ 106 [some (.ref 44), some (.int (nI tr)), some (.int (nI lc)), some (.int (nI br)), some (.int (nI 64)), some (.int (-1)), none, none, none, none, none] [.int (nI 1)] (μ2, τ)
          refine am_if (ty := 115) (tn := 109) rfl (by decide) rfl rfl (fun (h_702 : nI 1 = 0) => ?_) (fun (h_702 : ¬ (nI 1 = 0)) => ?_)
          · exact absurd h_702 (by decide)
          refine am_run 2 (pc' := 112) (ls' := [some (.ref 44), some (.int (nI tr)), some (.int (nI lc)), some (.int (nI br)), some (.int (nI 64)), some (.int (-1)), none, none, none, none, none]) (st' := [.int (-1), .ref 44]) (σ' := (μ2, τ)) rfl ?_
          refine am_invv (y := 94) (b := 44) (as := [.int (-1)]) (rest := []) rfl rfl rfl rfl rfl rfl rfl (Nat.le_of_ble_eq_true rfl) ?_
          refine c_readSignal_f (by omega) hT3 hX2 hF2 ht (fun μ12 hK12 hX12 hF12 => ?_)
          show am_G _ M_X6_readPart _ 115 [some (.ref 44), some (.int (nI tr)), some (.int (nI lc)), some (.int (nI br)), some (.int (nI 64)), some (.int (-1)), none, none, none, none, none] [] (μ12, τ)
          refine am_run 1 (pc' := 117) (ls' := [some (.ref 44), some (.int (nI tr)), some (.int (nI lc)), some (.int (nI br)), some (.int (nI 64)), some (.int (-1)), none, none, none, none, none]) (st' := [.int (nI 64)]) (σ' := (μ12, τ)) rfl ?_
          refine am_invs (y := 90) (as := [.int (nI 64)]) (rest := []) rfl rfl rfl rfl rfl rfl (Nat.le_of_ble_eq_true rfl) ?_
          rw [← tI_n (show 64 < 256 by decide)]
          refine c_hasBlock (by omega) (by decide) (fun _ => ?_) (fun z => absurd z (by decide))
          show am_G _ M_X6_readPart _ 120 [some (.ref 44), some (.int (nI tr)), some (.int (nI lc)), some (.int (nI br)), some (.int (nI 64)), some (.int (-1)), none, none, none, none, none] [.int (nI 1)] (μ12, τ)
          refine am_if (ty := 228) (tn := 123) rfl (by decide) rfl rfl (fun (h_703 : nI 1 = 0) => ?_) (fun (h_703 : ¬ (nI 1 = 0)) => ?_)
          · exact absurd h_703 (by decide)
          refine am_run 2 (pc' := 127) (ls' := [some (.ref 44), some (.int (nI tr)), some (.int (nI lc)), some (.int (nI br)), some (.int (nI 64)), some (.int (-1)), none, none, none, none, none]) (st' := [.int (nI 94), .int (nI 64)]) (σ' := (μ12, τ)) rfl ?_
          refine am_ic (ty := 130) (tn := 136) rfl (by decide) rfl rfl (fun (h_704 : nI 64 = nI 94) => ?_) (fun (h_704 : ¬ (nI 64 = nI 94)) => ?_)
          · exact absurd h_704 (by decide)
          refine am_run 4 (pc' := 143) (ls' := [some (.ref 44), some (.int (nI tr)), some (.int (nI lc)), some (.int (nI br)), some (.int (nI 64)), some (.int (-1)), some (.int (nI tr)), none, none, none, none]) (st' := [.int (nI 36), .int (nI 64)]) (σ' := (μ12, τ)) rfl ?_
          refine am_ic (ty := 146) (tn := 152) rfl (by decide) rfl rfl (fun (h_705 : nI 64 = nI 36) => ?_) (fun (h_705 : ¬ (nI 64 = nI 36)) => ?_)
          · exact absurd h_705 (by decide)
          refine am_run 8 (pc' := 165) (ls' := [some (.ref 44), some (.int (nI tr)), some (.int (nI lc)), some (.int (nI br)), some (.int (nI 64)), some (.int (-1)), some (.int (nI tr)), some (.int (nI lc)), none, none, none]) (st' := [.int (nI br), .int (nI lc), .int (nI tr), .int (nI 125), .int (nI 123), .ref 44]) (σ' := (μ12, τ)) rfl ?_
          refine am_invv (y := 92) (b := 44) (as := [.int (nI 123), .int (nI 125), .int (nI tr), .int (nI lc), .int (nI br)]) (rest := []) rfl rfl rfl rfl rfl rfl rfl (Nat.le_of_ble_eq_true rfl) ?_
          refine c_enc_f (by omega) hT3 hX12 hF12 (fun μ22 hK22 hX22 hF22 => ?_)
          show am_G _ M_X6_readPart _ 168 [some (.ref 44), some (.int (nI tr)), some (.int (nI lc)), some (.int (nI br)), some (.int (nI 64)), some (.int (-1)), some (.int (nI tr)), some (.int (nI lc)), none, none, none] [.int (-1)] (μ22, τ)
          refine am_run 3 (pc' := 174) (ls' := [some (.ref 44), some (.int (nI tr)), some (.int (nI lc)), some (.int (nI br)), some (.int (nI 64)), some (.int (-1)), some (.int (nI tr)), some (.int (nI lc)), some (.int (-1)), none, none]) (st' := [.int (nI 63), .int (nI 64)]) (σ' := (μ22, τ)) rfl ?_
          refine am_ic (ty := 177) (tn := 190) rfl (by decide) rfl rfl (fun (h_706 : nI 64 = nI 63) => ?_) (fun (h_706 : ¬ (nI 64 = nI 63)) => ?_)
          · exact absurd h_706 (by decide)
          refine am_run 3 (pc' := 195) (ls' := [some (.ref 44), some (.int (nI tr)), some (.int (nI lc)), some (.int (nI br)), some (.int (nI 64)), some (.int (-1)), some (.int (nI tr)), some (.int (nI lc)), some (.int (-1)), some (.int (nI 0)), none]) (st' := [.int (nI 0)]) (σ' := (μ22, τ)) rfl ?_
          refine am_if (ty := 212) (tn := 198) rfl (by decide) rfl rfl (fun (h_707 : nI 0 = 0) => ?_) (fun (h_707 : ¬ (nI 0 = 0)) => ?_)
          rotate_left
          · exact absurd (by decide) h_707
          refine am_run 4 (pc' := 219) (ls' := [some (.ref 44), some (.int (nI tr)), some (.int (nI lc)), some (.int (nI br)), some (.int (nI 64)), some (.int (-1)), some (.int (nI tr)), some (.int (nI lc)), some (.int (-1)), some (.int (nI 0)), some (.int (-1))]) (st' := [.ref (τ 44 1)]) (σ' := (μ22, τ)) rfl ?_
          refine am_stk (st' := [.ref t]) (by rw [ht]) ?_
          refine am_run 3 (pc' := 225) (ls' := [some (.ref 44), some (.int (nI tr)), some (.int (nI lc)), some (.int (nI br)), some (.int (nI 64)), some (.int (-1)), some (.int (nI tr)), some (.int (nI lc)), some (.int (-1)), some (.int (nI 0)), some (.int (-1))]) (st' := [.int (-1), .int (-1), .int (-1), .ref t]) (σ' := (μ22, τ)) rfl ?_
          refine am_invv (y := 111) (b := t) (as := [.int (-1), .int (-1), .int (-1)]) (rest := []) rfl rfl rfl rfl rfl rfl (t3_kind hT3) (Nat.le_of_ble_eq_true rfl) ?_
          refine c_setOps_f (by omega) hT3 (fun μ32 hK32 h4432 => ?_)
          have hF32 := hF22.of h4432
          have hX32 := hK32.xc hT3 hX22
          show am_G _ M_X6_readPart _ 228 [some (.ref 44), some (.int (nI tr)), some (.int (nI lc)), some (.int (nI br)), some (.int (nI 64)), some (.int (-1)), some (.int (nI tr)), some (.int (nI lc)), some (.int (-1)), some (.int (nI 0)), some (.int (-1))] [] (μ32, τ)
          refine am_run 1 (pc' := 230) (ls' := [some (.ref 44), some (.int (nI tr)), some (.int (nI lc)), some (.int (nI br)), some (.int (nI 64)), some (.int (-1)), some (.int (nI tr)), some (.int (nI lc)), some (.int (-1)), some (.int (nI 0)), some (.int (-1))]) (st' := [.int (-1)]) (σ' := (μ32, τ)) rfl ?_
          refine am_reti rfl rfl ?_
          exact hF μ32 _ _ _ (pf_64 e64 hb0) ((((hK1.tr hK2).tr hK12).tr hK22).tr hK32) hX32 hF32
        · have hb : p_beg S 64 lc (lk tx L S.1) = .inr (ps_add S 64 (lk tx L S.1)) := hb0
          have hC2 : CR μ2 t L (ps_add S 64 (lk tx L S.1)) := hC2
          show am_G _ M_X6_readPart _ 82 [some (.ref 44), some (.int (nI tr)), some (.int (nI lc)), some (.int (nI br)), some (.int (nI 64)), none, none, none, none, none, none] [.int (nI S.2.1)] (μ2, τ)
          refine am_run 3 (pc' := 88) (ls' := [some (.ref 44), some (.int (nI tr)), some (.int (nI lc)), some (.int (nI br)), some (.int (nI 64)), some (.int (nI S.2.1)), none, none, none, none, none]) (st' := [.int (nI 120), .int (nI 64)]) (σ' := (μ2, τ)) rfl ?_
          refine am_ic (ty := 91) (tn := 101) rfl (by decide) rfl rfl (fun (h_1001 : nI 64 = nI 120) => ?_) (fun (h_1001 : ¬ (nI 64 = nI 120)) => ?_)
          · exact absurd h_1001 (by decide)
          refine am_run 1 (pc' := 103) (ls' := [some (.ref 44), some (.int (nI tr)), some (.int (nI lc)), some (.int (nI br)), some (.int (nI 64)), some (.int (nI S.2.1)), none, none, none, none, none]) (st' := [.int (nI 64)]) (σ' := (μ2, τ)) rfl ?_
          refine am_invs (y := 91) (as := [.int (nI 64)]) (rest := []) rfl rfl rfl rfl rfl rfl (Nat.le_of_ble_eq_true rfl) ?_
          rw [← tI_n (show 64 < 256 by decide)]
          refine c_hasSignal (by omega) (by decide) (fun _ => ?_) (fun z => absurd z (by decide))
          show am_G _ M_X6_readPart _ 106 [some (.ref 44), some (.int (nI tr)), some (.int (nI lc)), some (.int (nI br)), some (.int (nI 64)), some (.int (nI S.2.1)), none, none, none, none, none] [.int (nI 1)] (μ2, τ)
          refine am_if (ty := 115) (tn := 109) rfl (by decide) rfl rfl (fun (h_1002 : nI 1 = 0) => ?_) (fun (h_1002 : ¬ (nI 1 = 0)) => ?_)
          · exact absurd h_1002 (by decide)
          refine am_run 2 (pc' := 112) (ls' := [some (.ref 44), some (.int (nI tr)), some (.int (nI lc)), some (.int (nI br)), some (.int (nI 64)), some (.int (nI S.2.1)), none, none, none, none, none]) (st' := [.int (nI S.2.1), .ref 44]) (σ' := (μ2, τ)) rfl ?_
          refine am_invv (y := 94) (b := 44) (as := [.int (nI S.2.1)]) (rest := []) rfl rfl rfl rfl rfl rfl rfl (Nat.le_of_ble_eq_true rfl) ?_
          refine c_readSignal (by omega) hT3 hX2 hC2 ht (st := S.2.1) (by show S.2.1 < S.2.1 + 1; omega) (fun μ3 hr hK3 hX3 hF3 => ?_) (fun μ3 hr hK3 hX3 hC3 => ?_)
          · show am_G _ M_X6_readPart _ 115 [some (.ref 44), some (.int (nI tr)), some (.int (nI lc)), some (.int (nI br)), some (.int (nI 64)), some (.int (nI S.2.1)), none, none, none, none, none] [] (μ3, τ)
            refine am_run 1 (pc' := 117) (ls' := [some (.ref 44), some (.int (nI tr)), some (.int (nI lc)), some (.int (nI br)), some (.int (nI 64)), some (.int (nI S.2.1)), none, none, none, none, none]) (st' := [.int (nI 64)]) (σ' := (μ3, τ)) rfl ?_
            refine am_invs (y := 90) (as := [.int (nI 64)]) (rest := []) rfl rfl rfl rfl rfl rfl (Nat.le_of_ble_eq_true rfl) ?_
            rw [← tI_n (show 64 < 256 by decide)]
            refine c_hasBlock (by omega) (by decide) (fun _ => ?_) (fun z => absurd z (by decide))
            show am_G _ M_X6_readPart _ 120 [some (.ref 44), some (.int (nI tr)), some (.int (nI lc)), some (.int (nI br)), some (.int (nI 64)), some (.int (nI S.2.1)), none, none, none, none, none] [.int (nI 1)] (μ3, τ)
            refine am_if (ty := 228) (tn := 123) rfl (by decide) rfl rfl (fun (h_901 : nI 1 = 0) => ?_) (fun (h_901 : ¬ (nI 1 = 0)) => ?_)
            · exact absurd h_901 (by decide)
            refine am_run 2 (pc' := 127) (ls' := [some (.ref 44), some (.int (nI tr)), some (.int (nI lc)), some (.int (nI br)), some (.int (nI 64)), some (.int (nI S.2.1)), none, none, none, none, none]) (st' := [.int (nI 94), .int (nI 64)]) (σ' := (μ3, τ)) rfl ?_
            refine am_ic (ty := 130) (tn := 136) rfl (by decide) rfl rfl (fun (h_902 : nI 64 = nI 94) => ?_) (fun (h_902 : ¬ (nI 64 = nI 94)) => ?_)
            · exact absurd h_902 (by decide)
            refine am_run 4 (pc' := 143) (ls' := [some (.ref 44), some (.int (nI tr)), some (.int (nI lc)), some (.int (nI br)), some (.int (nI 64)), some (.int (nI S.2.1)), some (.int (nI tr)), none, none, none, none]) (st' := [.int (nI 36), .int (nI 64)]) (σ' := (μ3, τ)) rfl ?_
            refine am_ic (ty := 146) (tn := 152) rfl (by decide) rfl rfl (fun (h_903 : nI 64 = nI 36) => ?_) (fun (h_903 : ¬ (nI 64 = nI 36)) => ?_)
            · exact absurd h_903 (by decide)
            refine am_run 8 (pc' := 165) (ls' := [some (.ref 44), some (.int (nI tr)), some (.int (nI lc)), some (.int (nI br)), some (.int (nI 64)), some (.int (nI S.2.1)), some (.int (nI tr)), some (.int (nI lc)), none, none, none]) (st' := [.int (nI br), .int (nI lc), .int (nI tr), .int (nI 125), .int (nI 123), .ref 44]) (σ' := (μ3, τ)) rfl ?_
            refine am_invv (y := 92) (b := 44) (as := [.int (nI 123), .int (nI 125), .int (nI tr), .int (nI lc), .int (nI br)]) (rest := []) rfl rfl rfl rfl rfl rfl rfl (Nat.le_of_ble_eq_true rfl) ?_
            refine c_enc_f (by omega) hT3 hX3 hF3 (fun μ13 hK13 hX13 hF13 => ?_)
            show am_G _ M_X6_readPart _ 168 [some (.ref 44), some (.int (nI tr)), some (.int (nI lc)), some (.int (nI br)), some (.int (nI 64)), some (.int (nI S.2.1)), some (.int (nI tr)), some (.int (nI lc)), none, none, none] [.int (-1)] (μ13, τ)
            refine am_run 3 (pc' := 174) (ls' := [some (.ref 44), some (.int (nI tr)), some (.int (nI lc)), some (.int (nI br)), some (.int (nI 64)), some (.int (nI S.2.1)), some (.int (nI tr)), some (.int (nI lc)), some (.int (-1)), none, none]) (st' := [.int (nI 63), .int (nI 64)]) (σ' := (μ13, τ)) rfl ?_
            refine am_ic (ty := 177) (tn := 190) rfl (by decide) rfl rfl (fun (h_904 : nI 64 = nI 63) => ?_) (fun (h_904 : ¬ (nI 64 = nI 63)) => ?_)
            · exact absurd h_904 (by decide)
            refine am_run 3 (pc' := 195) (ls' := [some (.ref 44), some (.int (nI tr)), some (.int (nI lc)), some (.int (nI br)), some (.int (nI 64)), some (.int (nI S.2.1)), some (.int (nI tr)), some (.int (nI lc)), some (.int (-1)), some (.int (nI 0)), none]) (st' := [.int (nI 0)]) (σ' := (μ13, τ)) rfl ?_
            refine am_if (ty := 212) (tn := 198) rfl (by decide) rfl rfl (fun (h_905 : nI 0 = 0) => ?_) (fun (h_905 : ¬ (nI 0 = 0)) => ?_)
            rotate_left
            · exact absurd (by decide) h_905
            refine am_run 4 (pc' := 219) (ls' := [some (.ref 44), some (.int (nI tr)), some (.int (nI lc)), some (.int (nI br)), some (.int (nI 64)), some (.int (nI S.2.1)), some (.int (nI tr)), some (.int (nI lc)), some (.int (-1)), some (.int (nI 0)), some (.int (-1))]) (st' := [.ref (τ 44 1)]) (σ' := (μ13, τ)) rfl ?_
            refine am_stk (st' := [.ref t]) (by rw [ht]) ?_
            refine am_run 3 (pc' := 225) (ls' := [some (.ref 44), some (.int (nI tr)), some (.int (nI lc)), some (.int (nI br)), some (.int (nI 64)), some (.int (nI S.2.1)), some (.int (nI tr)), some (.int (nI lc)), some (.int (-1)), some (.int (nI 0)), some (.int (-1))]) (st' := [.int (-1), .int (-1), .int (nI S.2.1), .ref t]) (σ' := (μ13, τ)) rfl ?_
            refine am_invv (y := 111) (b := t) (as := [.int (nI S.2.1), .int (-1), .int (-1)]) (rest := []) rfl rfl rfl rfl rfl rfl (t3_kind hT3) (Nat.le_of_ble_eq_true rfl) ?_
            refine c_setOps_f (by omega) hT3 (fun μ23 hK23 h4423 => ?_)
            have hF23 := hF13.of h4423
            have hX23 := hK23.xc hT3 hX13
            show am_G _ M_X6_readPart _ 228 [some (.ref 44), some (.int (nI tr)), some (.int (nI lc)), some (.int (nI br)), some (.int (nI 64)), some (.int (nI S.2.1)), some (.int (nI tr)), some (.int (nI lc)), some (.int (-1)), some (.int (nI 0)), some (.int (-1))] [] (μ23, τ)
            refine am_run 1 (pc' := 230) (ls' := [some (.ref 44), some (.int (nI tr)), some (.int (nI lc)), some (.int (nI br)), some (.int (nI 64)), some (.int (nI S.2.1)), some (.int (nI tr)), some (.int (nI lc)), some (.int (-1)), some (.int (nI 0)), some (.int (-1))]) (st' := [.int (nI S.2.1)]) (σ' := (μ23, τ)) rfl ?_
            refine am_reti rfl rfl ?_
            exact hF μ23 _ _ _ (by rw [pp_64 e64 hb, if_pos hr]) ((((hK1.tr hK2).tr hK3).tr hK13).tr hK23) hX23 hF23
          · show am_G _ M_X6_readPart _ 115 [some (.ref 44), some (.int (nI tr)), some (.int (nI lc)), some (.int (nI br)), some (.int (nI 64)), some (.int (nI S.2.1)), none, none, none, none, none] [] (μ3, τ)
            exact c_blk_64 (by omega) hT3 hX3 hC3 ht hE htr hlc (by show S.2.1 < S.2.1 + 1; omega) (fun μ4 v4 k4 fp4 e4 hK4 hX4 hF4 => hF μ4 v4 k4 fp4 (by rw [pp_64 e64 hb, if_neg hr]; exact e4) (((hK1.tr hK2).tr hK3).tr hK4) hX4 hF4) (fun μ4 S4 r4 e4 hK4 hX4 hC4 hr4 hr4b => hS μ4 S4 r4 (by rw [pp_64 e64 hb, if_neg hr]; exact e4) (((hK1.tr hK2).tr hK3).tr hK4) hX4 hC4 (by omega) hr4b)
      · have hqL : lk tx L S.1 < L := k2 (by omega)
        refine am_enter' (M := M_X6_readPart) rfl rfl rfl (by omega) (ls := [some (.ref 44), some (.int (nI tr)), some (.int (nI lc)), some (.int (nI br)), none, none, none, none, none, none, none]) rfl (fun d' hd' => ?_)
        refine am_run 1 (pc' := 1) (ls' := [some (.ref 44), some (.int (nI tr)), some (.int (nI lc)), some (.int (nI br)), none, none, none, none, none, none, none]) (st' := [.ref 44]) (σ' := (μ, τ)) rfl ?_
        refine am_invv (y := 85) (b := 44) (as := []) (rest := []) rfl rfl rfl rfl rfl rfl rfl (Nat.le_of_ble_eq_true rfl) ?_
        refine c_look (by omega) hT3 hX hC (fun μ1 hK1 hX1 hC1 => ?_)
        rw [e126, tI_n (by decide)]
        show am_G _ M_X6_readPart _ 4 [some (.ref 44), some (.int (nI tr)), some (.int (nI lc)), some (.int (nI br)), none, none, none, none, none, none, none] [.int (nI 126)] (μ1, τ)
        refine am_run 3 (pc' := 10) (ls' := [some (.ref 44), some (.int (nI tr)), some (.int (nI lc)), some (.int (nI br)), some (.int (nI 126)), none, none, none, none, none, none]) (st' := [.int (nI 40), .int (nI 126)]) (σ' := (μ1, τ)) rfl ?_
        refine am_ic (ty := 13) (tn := 25) rfl (by decide) rfl rfl (fun (h_1 : nI 126 = nI 40) => ?_) (fun (h_1 : ¬ (nI 126 = nI 40)) => ?_)
        · exact absurd h_1 (by decide)
        refine am_run 2 (pc' := 29) (ls' := [some (.ref 44), some (.int (nI tr)), some (.int (nI lc)), some (.int (nI br)), some (.int (nI 126)), none, none, none, none, none, none]) (st' := [.int (nI 48), .int (nI 126)]) (σ' := (μ1, τ)) rfl ?_
        refine am_ic (ty := 75) (tn := 32) rfl (by decide) rfl rfl (fun (h_2 : nI 126 = nI 48) => ?_) (fun (h_2 : ¬ (nI 126 = nI 48)) => ?_)
        · exact absurd h_2 (by decide)
        refine am_run 2 (pc' := 36) (ls' := [some (.ref 44), some (.int (nI tr)), some (.int (nI lc)), some (.int (nI br)), some (.int (nI 126)), none, none, none, none, none, none]) (st' := [.int (nI 46), .int (nI 126)]) (σ' := (μ1, τ)) rfl ?_
        refine am_ic (ty := 75) (tn := 39) rfl (by decide) rfl rfl (fun (h_3 : nI 126 = nI 46) => ?_) (fun (h_3 : ¬ (nI 126 = nI 46)) => ?_)
        · exact absurd h_3 (by decide)
        refine am_run 2 (pc' := 43) (ls' := [some (.ref 44), some (.int (nI tr)), some (.int (nI lc)), some (.int (nI br)), some (.int (nI 126)), none, none, none, none, none, none]) (st' := [.int (nI 120), .int (nI 126)]) (σ' := (μ1, τ)) rfl ?_
        refine am_ic (ty := 75) (tn := 46) rfl (by decide) rfl rfl (fun (h_4 : nI 126 = nI 120) => ?_) (fun (h_4 : ¬ (nI 126 = nI 120)) => ?_)
        · exact absurd h_4 (by decide)
        refine am_run 2 (pc' := 50) (ls' := [some (.ref 44), some (.int (nI tr)), some (.int (nI lc)), some (.int (nI br)), some (.int (nI 126)), none, none, none, none, none, none]) (st' := [.int (nI 33), .int (nI 126)]) (σ' := (μ1, τ)) rfl ?_
        refine am_ic (ty := 75) (tn := 53) rfl (by decide) rfl rfl (fun (h_5 : nI 126 = nI 33) => ?_) (fun (h_5 : ¬ (nI 126 = nI 33)) => ?_)
        · exact absurd h_5 (by decide)
        refine am_run 2 (pc' := 57) (ls' := [some (.ref 44), some (.int (nI tr)), some (.int (nI lc)), some (.int (nI br)), some (.int (nI 126)), none, none, none, none, none, none]) (st' := [.int (nI 38), .int (nI 126)]) (σ' := (μ1, τ)) rfl ?_
        refine am_ic (ty := 75) (tn := 60) rfl (by decide) rfl rfl (fun (h_6 : nI 126 = nI 38) => ?_) (fun (h_6 : ¬ (nI 126 = nI 38)) => ?_)
        · exact absurd h_6 (by decide)
        refine am_run 1 (pc' := 62) (ls' := [some (.ref 44), some (.int (nI tr)), some (.int (nI lc)), some (.int (nI br)), some (.int (nI 126)), none, none, none, none, none, none]) (st' := [.int (nI 126)]) (σ' := (μ1, τ)) rfl ?_
        refine am_invs (y := 90) (as := [.int (nI 126)]) (rest := []) rfl rfl rfl rfl rfl rfl (Nat.le_of_ble_eq_true rfl) ?_
        rw [← tI_n (show 126 < 256 by decide)]
        refine c_hasBlock (by omega) (by decide) (fun _ => ?_) (fun z => absurd z (by decide))
        show am_G _ M_X6_readPart _ 65 [some (.ref 44), some (.int (nI tr)), some (.int (nI lc)), some (.int (nI br)), some (.int (nI 126)), none, none, none, none, none, none] [.int (nI 1)] (μ1, τ)
        refine am_if (ty := 68) (tn := 75) rfl (by decide) rfl rfl (fun (h_7 : nI 1 = 0) => ?_) (fun (h_7 : ¬ (nI 1 = 0)) => ?_)
        · exact absurd h_7 (by decide)
        refine am_run 3 (pc' := 79) (ls' := [some (.ref 44), some (.int (nI tr)), some (.int (nI lc)), some (.int (nI br)), some (.int (nI 126)), none, none, none, none, none, none]) (st' := [.int (nI lc), .int (nI 126), .ref 44]) (σ' := (μ1, τ)) rfl ?_
        refine am_invv (y := 93) (b := 44) (as := [.int (nI 126), .int (nI lc)]) (rest := []) rfl rfl rfl rfl rfl rfl rfl (Nat.le_of_ble_eq_true rfl) ?_
        obtain rfl : d = d' := by omega
        refine c_begin (by omega) hT3 hX1 hC1 ht (c := 126) (by show lk tx L S.1 < L; exact hqL) (by decide) hlc (fun μ2 k2_ hb0 hK2 hX2 hF2 => ?_) (fun μ2 hb0 hK2 hX2 hC2 => ?_)
        · show am_G _ M_X6_readPart _ 82 [some (.ref 44), some (.int (nI tr)), some (.int (nI lc)), some (.int (nI br)), some (.int (nI 126)), none, none, none, none, none, none] [.int (-1)] (μ2, τ)
          refine am_run 3 (pc' := 88) (ls' := [some (.ref 44), some (.int (nI tr)), some (.int (nI lc)), some (.int (nI br)), some (.int (nI 126)), some (.int (-1)), none, none, none, none, none]) (st' := [.int (nI 120), .int (nI 126)]) (σ' := (μ2, τ)) rfl ?_
          refine am_ic (ty := 91) (tn := 101) rfl (by decide) rfl rfl (fun (h_701 : nI 126 = nI 120) => ?_) (fun (h_701 : ¬ (nI 126 = nI 120)) => ?_)
          · exact absurd h_701 (by decide)
          refine am_run 1 (pc' := 103) (ls' := [some (.ref 44), some (.int (nI tr)), some (.int (nI lc)), some (.int (nI br)), some (.int (nI 126)), some (.int (-1)), none, none, none, none, none]) (st' := [.int (nI 126)]) (σ' := (μ2, τ)) rfl ?_
          refine am_invs (y := 91) (as := [.int (nI 126)]) (rest := []) rfl rfl rfl rfl rfl rfl (Nat.le_of_ble_eq_true rfl) ?_
          rw [← tI_n (show 126 < 256 by decide)]
          refine c_hasSignal (by omega) (by decide) (fun _ => ?_) (fun z => absurd z (by decide))
          show am_G _ M_X6_readPart _ 106 [some (.ref 44), some (.int (nI tr)), some (.int (nI lc)), some (.int (nI br)), some (.int (nI 126)), some (.int (-1)), none, none, none, none, none] [.int (nI 1)] (μ2, τ)
          refine am_if (ty := 115) (tn := 109) rfl (by decide) rfl rfl (fun (h_702 : nI 1 = 0) => ?_) (fun (h_702 : ¬ (nI 1 = 0)) => ?_)
          · exact absurd h_702 (by decide)
          refine am_run 2 (pc' := 112) (ls' := [some (.ref 44), some (.int (nI tr)), some (.int (nI lc)), some (.int (nI br)), some (.int (nI 126)), some (.int (-1)), none, none, none, none, none]) (st' := [.int (-1), .ref 44]) (σ' := (μ2, τ)) rfl ?_
          refine am_invv (y := 94) (b := 44) (as := [.int (-1)]) (rest := []) rfl rfl rfl rfl rfl rfl rfl (Nat.le_of_ble_eq_true rfl) ?_
          refine c_readSignal_f (by omega) hT3 hX2 hF2 ht (fun μ12 hK12 hX12 hF12 => ?_)
          show am_G _ M_X6_readPart _ 115 [some (.ref 44), some (.int (nI tr)), some (.int (nI lc)), some (.int (nI br)), some (.int (nI 126)), some (.int (-1)), none, none, none, none, none] [] (μ12, τ)
          refine am_run 1 (pc' := 117) (ls' := [some (.ref 44), some (.int (nI tr)), some (.int (nI lc)), some (.int (nI br)), some (.int (nI 126)), some (.int (-1)), none, none, none, none, none]) (st' := [.int (nI 126)]) (σ' := (μ12, τ)) rfl ?_
          refine am_invs (y := 90) (as := [.int (nI 126)]) (rest := []) rfl rfl rfl rfl rfl rfl (Nat.le_of_ble_eq_true rfl) ?_
          rw [← tI_n (show 126 < 256 by decide)]
          refine c_hasBlock (by omega) (by decide) (fun _ => ?_) (fun z => absurd z (by decide))
          show am_G _ M_X6_readPart _ 120 [some (.ref 44), some (.int (nI tr)), some (.int (nI lc)), some (.int (nI br)), some (.int (nI 126)), some (.int (-1)), none, none, none, none, none] [.int (nI 1)] (μ12, τ)
          refine am_if (ty := 228) (tn := 123) rfl (by decide) rfl rfl (fun (h_703 : nI 1 = 0) => ?_) (fun (h_703 : ¬ (nI 1 = 0)) => ?_)
          · exact absurd h_703 (by decide)
          refine am_run 2 (pc' := 127) (ls' := [some (.ref 44), some (.int (nI tr)), some (.int (nI lc)), some (.int (nI br)), some (.int (nI 126)), some (.int (-1)), none, none, none, none, none]) (st' := [.int (nI 94), .int (nI 126)]) (σ' := (μ12, τ)) rfl ?_
          refine am_ic (ty := 130) (tn := 136) rfl (by decide) rfl rfl (fun (h_704 : nI 126 = nI 94) => ?_) (fun (h_704 : ¬ (nI 126 = nI 94)) => ?_)
          · exact absurd h_704 (by decide)
          refine am_run 4 (pc' := 143) (ls' := [some (.ref 44), some (.int (nI tr)), some (.int (nI lc)), some (.int (nI br)), some (.int (nI 126)), some (.int (-1)), some (.int (nI tr)), none, none, none, none]) (st' := [.int (nI 36), .int (nI 126)]) (σ' := (μ12, τ)) rfl ?_
          refine am_ic (ty := 146) (tn := 152) rfl (by decide) rfl rfl (fun (h_705 : nI 126 = nI 36) => ?_) (fun (h_705 : ¬ (nI 126 = nI 36)) => ?_)
          · exact absurd h_705 (by decide)
          refine am_run 8 (pc' := 165) (ls' := [some (.ref 44), some (.int (nI tr)), some (.int (nI lc)), some (.int (nI br)), some (.int (nI 126)), some (.int (-1)), some (.int (nI tr)), some (.int (nI lc)), none, none, none]) (st' := [.int (nI br), .int (nI lc), .int (nI tr), .int (nI 125), .int (nI 123), .ref 44]) (σ' := (μ12, τ)) rfl ?_
          refine am_invv (y := 92) (b := 44) (as := [.int (nI 123), .int (nI 125), .int (nI tr), .int (nI lc), .int (nI br)]) (rest := []) rfl rfl rfl rfl rfl rfl rfl (Nat.le_of_ble_eq_true rfl) ?_
          refine c_enc_f (by omega) hT3 hX12 hF12 (fun μ22 hK22 hX22 hF22 => ?_)
          show am_G _ M_X6_readPart _ 168 [some (.ref 44), some (.int (nI tr)), some (.int (nI lc)), some (.int (nI br)), some (.int (nI 126)), some (.int (-1)), some (.int (nI tr)), some (.int (nI lc)), none, none, none] [.int (-1)] (μ22, τ)
          refine am_run 3 (pc' := 174) (ls' := [some (.ref 44), some (.int (nI tr)), some (.int (nI lc)), some (.int (nI br)), some (.int (nI 126)), some (.int (-1)), some (.int (nI tr)), some (.int (nI lc)), some (.int (-1)), none, none]) (st' := [.int (nI 63), .int (nI 126)]) (σ' := (μ22, τ)) rfl ?_
          refine am_ic (ty := 177) (tn := 190) rfl (by decide) rfl rfl (fun (h_706 : nI 126 = nI 63) => ?_) (fun (h_706 : ¬ (nI 126 = nI 63)) => ?_)
          · exact absurd h_706 (by decide)
          refine am_run 3 (pc' := 195) (ls' := [some (.ref 44), some (.int (nI tr)), some (.int (nI lc)), some (.int (nI br)), some (.int (nI 126)), some (.int (-1)), some (.int (nI tr)), some (.int (nI lc)), some (.int (-1)), some (.int (nI 0)), none]) (st' := [.int (nI 0)]) (σ' := (μ22, τ)) rfl ?_
          refine am_if (ty := 212) (tn := 198) rfl (by decide) rfl rfl (fun (h_707 : nI 0 = 0) => ?_) (fun (h_707 : ¬ (nI 0 = 0)) => ?_)
          rotate_left
          · exact absurd (by decide) h_707
          refine am_run 4 (pc' := 219) (ls' := [some (.ref 44), some (.int (nI tr)), some (.int (nI lc)), some (.int (nI br)), some (.int (nI 126)), some (.int (-1)), some (.int (nI tr)), some (.int (nI lc)), some (.int (-1)), some (.int (nI 0)), some (.int (-1))]) (st' := [.ref (τ 44 1)]) (σ' := (μ22, τ)) rfl ?_
          refine am_stk (st' := [.ref t]) (by rw [ht]) ?_
          refine am_run 3 (pc' := 225) (ls' := [some (.ref 44), some (.int (nI tr)), some (.int (nI lc)), some (.int (nI br)), some (.int (nI 126)), some (.int (-1)), some (.int (nI tr)), some (.int (nI lc)), some (.int (-1)), some (.int (nI 0)), some (.int (-1))]) (st' := [.int (-1), .int (-1), .int (-1), .ref t]) (σ' := (μ22, τ)) rfl ?_
          refine am_invv (y := 111) (b := t) (as := [.int (-1), .int (-1), .int (-1)]) (rest := []) rfl rfl rfl rfl rfl rfl (t3_kind hT3) (Nat.le_of_ble_eq_true rfl) ?_
          refine c_setOps_f (by omega) hT3 (fun μ32 hK32 h4432 => ?_)
          have hF32 := hF22.of h4432
          have hX32 := hK32.xc hT3 hX22
          show am_G _ M_X6_readPart _ 228 [some (.ref 44), some (.int (nI tr)), some (.int (nI lc)), some (.int (nI br)), some (.int (nI 126)), some (.int (-1)), some (.int (nI tr)), some (.int (nI lc)), some (.int (-1)), some (.int (nI 0)), some (.int (-1))] [] (μ32, τ)
          refine am_run 1 (pc' := 230) (ls' := [some (.ref 44), some (.int (nI tr)), some (.int (nI lc)), some (.int (nI br)), some (.int (nI 126)), some (.int (-1)), some (.int (nI tr)), some (.int (nI lc)), some (.int (-1)), some (.int (nI 0)), some (.int (-1))]) (st' := [.int (-1)]) (σ' := (μ32, τ)) rfl ?_
          refine am_reti rfl rfl ?_
          exact hF μ32 _ _ _ (pf_126 e126 hb0) ((((hK1.tr hK2).tr hK12).tr hK22).tr hK32) hX32 hF32
        · have hb : p_beg S 126 lc (lk tx L S.1) = .inr (ps_add S 126 (lk tx L S.1)) := hb0
          have hC2 : CR μ2 t L (ps_add S 126 (lk tx L S.1)) := hC2
          show am_G _ M_X6_readPart _ 82 [some (.ref 44), some (.int (nI tr)), some (.int (nI lc)), some (.int (nI br)), some (.int (nI 126)), none, none, none, none, none, none] [.int (nI S.2.1)] (μ2, τ)
          refine am_run 3 (pc' := 88) (ls' := [some (.ref 44), some (.int (nI tr)), some (.int (nI lc)), some (.int (nI br)), some (.int (nI 126)), some (.int (nI S.2.1)), none, none, none, none, none]) (st' := [.int (nI 120), .int (nI 126)]) (σ' := (μ2, τ)) rfl ?_
          refine am_ic (ty := 91) (tn := 101) rfl (by decide) rfl rfl (fun (h_1001 : nI 126 = nI 120) => ?_) (fun (h_1001 : ¬ (nI 126 = nI 120)) => ?_)
          · exact absurd h_1001 (by decide)
          refine am_run 1 (pc' := 103) (ls' := [some (.ref 44), some (.int (nI tr)), some (.int (nI lc)), some (.int (nI br)), some (.int (nI 126)), some (.int (nI S.2.1)), none, none, none, none, none]) (st' := [.int (nI 126)]) (σ' := (μ2, τ)) rfl ?_
          refine am_invs (y := 91) (as := [.int (nI 126)]) (rest := []) rfl rfl rfl rfl rfl rfl (Nat.le_of_ble_eq_true rfl) ?_
          rw [← tI_n (show 126 < 256 by decide)]
          refine c_hasSignal (by omega) (by decide) (fun _ => ?_) (fun z => absurd z (by decide))
          show am_G _ M_X6_readPart _ 106 [some (.ref 44), some (.int (nI tr)), some (.int (nI lc)), some (.int (nI br)), some (.int (nI 126)), some (.int (nI S.2.1)), none, none, none, none, none] [.int (nI 1)] (μ2, τ)
          refine am_if (ty := 115) (tn := 109) rfl (by decide) rfl rfl (fun (h_1002 : nI 1 = 0) => ?_) (fun (h_1002 : ¬ (nI 1 = 0)) => ?_)
          · exact absurd h_1002 (by decide)
          refine am_run 2 (pc' := 112) (ls' := [some (.ref 44), some (.int (nI tr)), some (.int (nI lc)), some (.int (nI br)), some (.int (nI 126)), some (.int (nI S.2.1)), none, none, none, none, none]) (st' := [.int (nI S.2.1), .ref 44]) (σ' := (μ2, τ)) rfl ?_
          refine am_invv (y := 94) (b := 44) (as := [.int (nI S.2.1)]) (rest := []) rfl rfl rfl rfl rfl rfl rfl (Nat.le_of_ble_eq_true rfl) ?_
          refine c_readSignal (by omega) hT3 hX2 hC2 ht (st := S.2.1) (by show S.2.1 < S.2.1 + 1; omega) (fun μ3 hr hK3 hX3 hF3 => ?_) (fun μ3 hr hK3 hX3 hC3 => ?_)
          · show am_G _ M_X6_readPart _ 115 [some (.ref 44), some (.int (nI tr)), some (.int (nI lc)), some (.int (nI br)), some (.int (nI 126)), some (.int (nI S.2.1)), none, none, none, none, none] [] (μ3, τ)
            refine am_run 1 (pc' := 117) (ls' := [some (.ref 44), some (.int (nI tr)), some (.int (nI lc)), some (.int (nI br)), some (.int (nI 126)), some (.int (nI S.2.1)), none, none, none, none, none]) (st' := [.int (nI 126)]) (σ' := (μ3, τ)) rfl ?_
            refine am_invs (y := 90) (as := [.int (nI 126)]) (rest := []) rfl rfl rfl rfl rfl rfl (Nat.le_of_ble_eq_true rfl) ?_
            rw [← tI_n (show 126 < 256 by decide)]
            refine c_hasBlock (by omega) (by decide) (fun _ => ?_) (fun z => absurd z (by decide))
            show am_G _ M_X6_readPart _ 120 [some (.ref 44), some (.int (nI tr)), some (.int (nI lc)), some (.int (nI br)), some (.int (nI 126)), some (.int (nI S.2.1)), none, none, none, none, none] [.int (nI 1)] (μ3, τ)
            refine am_if (ty := 228) (tn := 123) rfl (by decide) rfl rfl (fun (h_901 : nI 1 = 0) => ?_) (fun (h_901 : ¬ (nI 1 = 0)) => ?_)
            · exact absurd h_901 (by decide)
            refine am_run 2 (pc' := 127) (ls' := [some (.ref 44), some (.int (nI tr)), some (.int (nI lc)), some (.int (nI br)), some (.int (nI 126)), some (.int (nI S.2.1)), none, none, none, none, none]) (st' := [.int (nI 94), .int (nI 126)]) (σ' := (μ3, τ)) rfl ?_
            refine am_ic (ty := 130) (tn := 136) rfl (by decide) rfl rfl (fun (h_902 : nI 126 = nI 94) => ?_) (fun (h_902 : ¬ (nI 126 = nI 94)) => ?_)
            · exact absurd h_902 (by decide)
            refine am_run 4 (pc' := 143) (ls' := [some (.ref 44), some (.int (nI tr)), some (.int (nI lc)), some (.int (nI br)), some (.int (nI 126)), some (.int (nI S.2.1)), some (.int (nI tr)), none, none, none, none]) (st' := [.int (nI 36), .int (nI 126)]) (σ' := (μ3, τ)) rfl ?_
            refine am_ic (ty := 146) (tn := 152) rfl (by decide) rfl rfl (fun (h_903 : nI 126 = nI 36) => ?_) (fun (h_903 : ¬ (nI 126 = nI 36)) => ?_)
            · exact absurd h_903 (by decide)
            refine am_run 8 (pc' := 165) (ls' := [some (.ref 44), some (.int (nI tr)), some (.int (nI lc)), some (.int (nI br)), some (.int (nI 126)), some (.int (nI S.2.1)), some (.int (nI tr)), some (.int (nI lc)), none, none, none]) (st' := [.int (nI br), .int (nI lc), .int (nI tr), .int (nI 125), .int (nI 123), .ref 44]) (σ' := (μ3, τ)) rfl ?_
            refine am_invv (y := 92) (b := 44) (as := [.int (nI 123), .int (nI 125), .int (nI tr), .int (nI lc), .int (nI br)]) (rest := []) rfl rfl rfl rfl rfl rfl rfl (Nat.le_of_ble_eq_true rfl) ?_
            refine c_enc_f (by omega) hT3 hX3 hF3 (fun μ13 hK13 hX13 hF13 => ?_)
            show am_G _ M_X6_readPart _ 168 [some (.ref 44), some (.int (nI tr)), some (.int (nI lc)), some (.int (nI br)), some (.int (nI 126)), some (.int (nI S.2.1)), some (.int (nI tr)), some (.int (nI lc)), none, none, none] [.int (-1)] (μ13, τ)
            refine am_run 3 (pc' := 174) (ls' := [some (.ref 44), some (.int (nI tr)), some (.int (nI lc)), some (.int (nI br)), some (.int (nI 126)), some (.int (nI S.2.1)), some (.int (nI tr)), some (.int (nI lc)), some (.int (-1)), none, none]) (st' := [.int (nI 63), .int (nI 126)]) (σ' := (μ13, τ)) rfl ?_
            refine am_ic (ty := 177) (tn := 190) rfl (by decide) rfl rfl (fun (h_904 : nI 126 = nI 63) => ?_) (fun (h_904 : ¬ (nI 126 = nI 63)) => ?_)
            · exact absurd h_904 (by decide)
            refine am_run 3 (pc' := 195) (ls' := [some (.ref 44), some (.int (nI tr)), some (.int (nI lc)), some (.int (nI br)), some (.int (nI 126)), some (.int (nI S.2.1)), some (.int (nI tr)), some (.int (nI lc)), some (.int (-1)), some (.int (nI 0)), none]) (st' := [.int (nI 0)]) (σ' := (μ13, τ)) rfl ?_
            refine am_if (ty := 212) (tn := 198) rfl (by decide) rfl rfl (fun (h_905 : nI 0 = 0) => ?_) (fun (h_905 : ¬ (nI 0 = 0)) => ?_)
            rotate_left
            · exact absurd (by decide) h_905
            refine am_run 4 (pc' := 219) (ls' := [some (.ref 44), some (.int (nI tr)), some (.int (nI lc)), some (.int (nI br)), some (.int (nI 126)), some (.int (nI S.2.1)), some (.int (nI tr)), some (.int (nI lc)), some (.int (-1)), some (.int (nI 0)), some (.int (-1))]) (st' := [.ref (τ 44 1)]) (σ' := (μ13, τ)) rfl ?_
            refine am_stk (st' := [.ref t]) (by rw [ht]) ?_
            refine am_run 3 (pc' := 225) (ls' := [some (.ref 44), some (.int (nI tr)), some (.int (nI lc)), some (.int (nI br)), some (.int (nI 126)), some (.int (nI S.2.1)), some (.int (nI tr)), some (.int (nI lc)), some (.int (-1)), some (.int (nI 0)), some (.int (-1))]) (st' := [.int (-1), .int (-1), .int (nI S.2.1), .ref t]) (σ' := (μ13, τ)) rfl ?_
            refine am_invv (y := 111) (b := t) (as := [.int (nI S.2.1), .int (-1), .int (-1)]) (rest := []) rfl rfl rfl rfl rfl rfl (t3_kind hT3) (Nat.le_of_ble_eq_true rfl) ?_
            refine c_setOps_f (by omega) hT3 (fun μ23 hK23 h4423 => ?_)
            have hF23 := hF13.of h4423
            have hX23 := hK23.xc hT3 hX13
            show am_G _ M_X6_readPart _ 228 [some (.ref 44), some (.int (nI tr)), some (.int (nI lc)), some (.int (nI br)), some (.int (nI 126)), some (.int (nI S.2.1)), some (.int (nI tr)), some (.int (nI lc)), some (.int (-1)), some (.int (nI 0)), some (.int (-1))] [] (μ23, τ)
            refine am_run 1 (pc' := 230) (ls' := [some (.ref 44), some (.int (nI tr)), some (.int (nI lc)), some (.int (nI br)), some (.int (nI 126)), some (.int (nI S.2.1)), some (.int (nI tr)), some (.int (nI lc)), some (.int (-1)), some (.int (nI 0)), some (.int (-1))]) (st' := [.int (nI S.2.1)]) (σ' := (μ23, τ)) rfl ?_
            refine am_reti rfl rfl ?_
            exact hF μ23 _ _ _ (by rw [pp_126 e126 hb, if_pos hr]) ((((hK1.tr hK2).tr hK3).tr hK13).tr hK23) hX23 hF23
          · show am_G _ M_X6_readPart _ 115 [some (.ref 44), some (.int (nI tr)), some (.int (nI lc)), some (.int (nI br)), some (.int (nI 126)), some (.int (nI S.2.1)), none, none, none, none, none] [] (μ3, τ)
            exact c_blk_126 (by omega) hT3 hX3 hC3 ht hE htr hlc (by show S.2.1 < S.2.1 + 1; omega) (fun μ4 v4 k4 fp4 e4 hK4 hX4 hF4 => hF μ4 v4 k4 fp4 (by rw [pp_126 e126 hb, if_neg hr]; exact e4) (((hK1.tr hK2).tr hK3).tr hK4) hX4 hF4) (fun μ4 S4 r4 e4 hK4 hX4 hC4 hr4 hr4b => hS μ4 S4 r4 (by rw [pp_126 e126 hb, if_neg hr]; exact e4) (((hK1.tr hK2).tr hK3).tr hK4) hX4 hC4 (by omega) hr4b)
      · have hqL : lk tx L S.1 < L := k2 (by omega)
        refine am_enter' (M := M_X6_readPart) rfl rfl rfl (by omega) (ls := [some (.ref 44), some (.int (nI tr)), some (.int (nI lc)), some (.int (nI br)), none, none, none, none, none, none, none]) rfl (fun d' hd' => ?_)
        refine am_run 1 (pc' := 1) (ls' := [some (.ref 44), some (.int (nI tr)), some (.int (nI lc)), some (.int (nI br)), none, none, none, none, none, none, none]) (st' := [.ref 44]) (σ' := (μ, τ)) rfl ?_
        refine am_invv (y := 85) (b := 44) (as := []) (rest := []) rfl rfl rfl rfl rfl rfl rfl (Nat.le_of_ble_eq_true rfl) ?_
        refine c_look (by omega) hT3 hX hC (fun μ1 hK1 hX1 hC1 => ?_)
        rw [e36, tI_n (by decide)]
        show am_G _ M_X6_readPart _ 4 [some (.ref 44), some (.int (nI tr)), some (.int (nI lc)), some (.int (nI br)), none, none, none, none, none, none, none] [.int (nI 36)] (μ1, τ)
        refine am_run 3 (pc' := 10) (ls' := [some (.ref 44), some (.int (nI tr)), some (.int (nI lc)), some (.int (nI br)), some (.int (nI 36)), none, none, none, none, none, none]) (st' := [.int (nI 40), .int (nI 36)]) (σ' := (μ1, τ)) rfl ?_
        refine am_ic (ty := 13) (tn := 25) rfl (by decide) rfl rfl (fun (h_1 : nI 36 = nI 40) => ?_) (fun (h_1 : ¬ (nI 36 = nI 40)) => ?_)
        · exact absurd h_1 (by decide)
        refine am_run 2 (pc' := 29) (ls' := [some (.ref 44), some (.int (nI tr)), some (.int (nI lc)), some (.int (nI br)), some (.int (nI 36)), none, none, none, none, none, none]) (st' := [.int (nI 48), .int (nI 36)]) (σ' := (μ1, τ)) rfl ?_
        refine am_ic (ty := 75) (tn := 32) rfl (by decide) rfl rfl (fun (h_2 : nI 36 = nI 48) => ?_) (fun (h_2 : ¬ (nI 36 = nI 48)) => ?_)
        · exact absurd h_2 (by decide)
        refine am_run 2 (pc' := 36) (ls' := [some (.ref 44), some (.int (nI tr)), some (.int (nI lc)), some (.int (nI br)), some (.int (nI 36)), none, none, none, none, none, none]) (st' := [.int (nI 46), .int (nI 36)]) (σ' := (μ1, τ)) rfl ?_
        refine am_ic (ty := 75) (tn := 39) rfl (by decide) rfl rfl (fun (h_3 : nI 36 = nI 46) => ?_) (fun (h_3 : ¬ (nI 36 = nI 46)) => ?_)
        · exact absurd h_3 (by decide)
        refine am_run 2 (pc' := 43) (ls' := [some (.ref 44), some (.int (nI tr)), some (.int (nI lc)), some (.int (nI br)), some (.int (nI 36)), none, none, none, none, none, none]) (st' := [.int (nI 120), .int (nI 36)]) (σ' := (μ1, τ)) rfl ?_
        refine am_ic (ty := 75) (tn := 46) rfl (by decide) rfl rfl (fun (h_4 : nI 36 = nI 120) => ?_) (fun (h_4 : ¬ (nI 36 = nI 120)) => ?_)
        · exact absurd h_4 (by decide)
        refine am_run 2 (pc' := 50) (ls' := [some (.ref 44), some (.int (nI tr)), some (.int (nI lc)), some (.int (nI br)), some (.int (nI 36)), none, none, none, none, none, none]) (st' := [.int (nI 33), .int (nI 36)]) (σ' := (μ1, τ)) rfl ?_
        refine am_ic (ty := 75) (tn := 53) rfl (by decide) rfl rfl (fun (h_5 : nI 36 = nI 33) => ?_) (fun (h_5 : ¬ (nI 36 = nI 33)) => ?_)
        · exact absurd h_5 (by decide)
        refine am_run 2 (pc' := 57) (ls' := [some (.ref 44), some (.int (nI tr)), some (.int (nI lc)), some (.int (nI br)), some (.int (nI 36)), none, none, none, none, none, none]) (st' := [.int (nI 38), .int (nI 36)]) (σ' := (μ1, τ)) rfl ?_
        refine am_ic (ty := 75) (tn := 60) rfl (by decide) rfl rfl (fun (h_6 : nI 36 = nI 38) => ?_) (fun (h_6 : ¬ (nI 36 = nI 38)) => ?_)
        · exact absurd h_6 (by decide)
        refine am_run 1 (pc' := 62) (ls' := [some (.ref 44), some (.int (nI tr)), some (.int (nI lc)), some (.int (nI br)), some (.int (nI 36)), none, none, none, none, none, none]) (st' := [.int (nI 36)]) (σ' := (μ1, τ)) rfl ?_
        refine am_invs (y := 90) (as := [.int (nI 36)]) (rest := []) rfl rfl rfl rfl rfl rfl (Nat.le_of_ble_eq_true rfl) ?_
        rw [← tI_n (show 36 < 256 by decide)]
        refine c_hasBlock (by omega) (by decide) (fun _ => ?_) (fun z => absurd z (by decide))
        show am_G _ M_X6_readPart _ 65 [some (.ref 44), some (.int (nI tr)), some (.int (nI lc)), some (.int (nI br)), some (.int (nI 36)), none, none, none, none, none, none] [.int (nI 1)] (μ1, τ)
        refine am_if (ty := 68) (tn := 75) rfl (by decide) rfl rfl (fun (h_7 : nI 1 = 0) => ?_) (fun (h_7 : ¬ (nI 1 = 0)) => ?_)
        · exact absurd h_7 (by decide)
        refine am_run 3 (pc' := 79) (ls' := [some (.ref 44), some (.int (nI tr)), some (.int (nI lc)), some (.int (nI br)), some (.int (nI 36)), none, none, none, none, none, none]) (st' := [.int (nI lc), .int (nI 36), .ref 44]) (σ' := (μ1, τ)) rfl ?_
        refine am_invv (y := 93) (b := 44) (as := [.int (nI 36), .int (nI lc)]) (rest := []) rfl rfl rfl rfl rfl rfl rfl (Nat.le_of_ble_eq_true rfl) ?_
        obtain rfl : d = d' := by omega
        refine c_begin (by omega) hT3 hX1 hC1 ht (c := 36) (by show lk tx L S.1 < L; exact hqL) (by decide) hlc (fun μ2 k2_ hb0 hK2 hX2 hF2 => ?_) (fun μ2 hb0 hK2 hX2 hC2 => ?_)
        · show am_G _ M_X6_readPart _ 82 [some (.ref 44), some (.int (nI tr)), some (.int (nI lc)), some (.int (nI br)), some (.int (nI 36)), none, none, none, none, none, none] [.int (-1)] (μ2, τ)
          refine am_run 3 (pc' := 88) (ls' := [some (.ref 44), some (.int (nI tr)), some (.int (nI lc)), some (.int (nI br)), some (.int (nI 36)), some (.int (-1)), none, none, none, none, none]) (st' := [.int (nI 120), .int (nI 36)]) (σ' := (μ2, τ)) rfl ?_
          refine am_ic (ty := 91) (tn := 101) rfl (by decide) rfl rfl (fun (h_701 : nI 36 = nI 120) => ?_) (fun (h_701 : ¬ (nI 36 = nI 120)) => ?_)
          · exact absurd h_701 (by decide)
          refine am_run 1 (pc' := 103) (ls' := [some (.ref 44), some (.int (nI tr)), some (.int (nI lc)), some (.int (nI br)), some (.int (nI 36)), some (.int (-1)), none, none, none, none, none]) (st' := [.int (nI 36)]) (σ' := (μ2, τ)) rfl ?_
          refine am_invs (y := 91) (as := [.int (nI 36)]) (rest := []) rfl rfl rfl rfl rfl rfl (Nat.le_of_ble_eq_true rfl) ?_
          rw [← tI_n (show 36 < 256 by decide)]
          refine c_hasSignal (by omega) (by decide) (fun _ => ?_) (fun z => absurd z (by decide))
          show am_G _ M_X6_readPart _ 106 [some (.ref 44), some (.int (nI tr)), some (.int (nI lc)), some (.int (nI br)), some (.int (nI 36)), some (.int (-1)), none, none, none, none, none] [.int (nI 1)] (μ2, τ)
          refine am_if (ty := 115) (tn := 109) rfl (by decide) rfl rfl (fun (h_702 : nI 1 = 0) => ?_) (fun (h_702 : ¬ (nI 1 = 0)) => ?_)
          · exact absurd h_702 (by decide)
          refine am_run 2 (pc' := 112) (ls' := [some (.ref 44), some (.int (nI tr)), some (.int (nI lc)), some (.int (nI br)), some (.int (nI 36)), some (.int (-1)), none, none, none, none, none]) (st' := [.int (-1), .ref 44]) (σ' := (μ2, τ)) rfl ?_
          refine am_invv (y := 94) (b := 44) (as := [.int (-1)]) (rest := []) rfl rfl rfl rfl rfl rfl rfl (Nat.le_of_ble_eq_true rfl) ?_
          refine c_readSignal_f (by omega) hT3 hX2 hF2 ht (fun μ12 hK12 hX12 hF12 => ?_)
          show am_G _ M_X6_readPart _ 115 [some (.ref 44), some (.int (nI tr)), some (.int (nI lc)), some (.int (nI br)), some (.int (nI 36)), some (.int (-1)), none, none, none, none, none] [] (μ12, τ)
          refine am_run 1 (pc' := 117) (ls' := [some (.ref 44), some (.int (nI tr)), some (.int (nI lc)), some (.int (nI br)), some (.int (nI 36)), some (.int (-1)), none, none, none, none, none]) (st' := [.int (nI 36)]) (σ' := (μ12, τ)) rfl ?_
          refine am_invs (y := 90) (as := [.int (nI 36)]) (rest := []) rfl rfl rfl rfl rfl rfl (Nat.le_of_ble_eq_true rfl) ?_
          rw [← tI_n (show 36 < 256 by decide)]
          refine c_hasBlock (by omega) (by decide) (fun _ => ?_) (fun z => absurd z (by decide))
          show am_G _ M_X6_readPart _ 120 [some (.ref 44), some (.int (nI tr)), some (.int (nI lc)), some (.int (nI br)), some (.int (nI 36)), some (.int (-1)), none, none, none, none, none] [.int (nI 1)] (μ12, τ)
          refine am_if (ty := 228) (tn := 123) rfl (by decide) rfl rfl (fun (h_703 : nI 1 = 0) => ?_) (fun (h_703 : ¬ (nI 1 = 0)) => ?_)
          · exact absurd h_703 (by decide)
          refine am_run 2 (pc' := 127) (ls' := [some (.ref 44), some (.int (nI tr)), some (.int (nI lc)), some (.int (nI br)), some (.int (nI 36)), some (.int (-1)), none, none, none, none, none]) (st' := [.int (nI 94), .int (nI 36)]) (σ' := (μ12, τ)) rfl ?_
          refine am_ic (ty := 130) (tn := 136) rfl (by decide) rfl rfl (fun (h_704 : nI 36 = nI 94) => ?_) (fun (h_704 : ¬ (nI 36 = nI 94)) => ?_)
          · exact absurd h_704 (by decide)
          refine am_run 4 (pc' := 143) (ls' := [some (.ref 44), some (.int (nI tr)), some (.int (nI lc)), some (.int (nI br)), some (.int (nI 36)), some (.int (-1)), some (.int (nI tr)), none, none, none, none]) (st' := [.int (nI 36), .int (nI 36)]) (σ' := (μ12, τ)) rfl ?_
          refine am_ic (ty := 146) (tn := 152) rfl (by decide) rfl rfl (fun (h_705 : nI 36 = nI 36) => ?_) (fun (h_705 : ¬ (nI 36 = nI 36)) => ?_)
          rotate_left
          · exact absurd (by decide) h_705
          refine am_run 3 (pc' := 149) (ls' := [some (.ref 44), some (.int (nI tr)), some (.int (nI lc)), some (.int (nI br)), some (.int (nI 36)), some (.int (-1)), some (.int (nI tr)), none, none, none, none]) (st' := [.int (nI lc + nI 1)]) (σ' := (μ12, τ)) rfl ?_
          refine am_top (v' := nI (lc + 1)) (nI_add _ _) ?_
          refine am_run 8 (pc' := 165) (ls' := [some (.ref 44), some (.int (nI tr)), some (.int (nI lc)), some (.int (nI br)), some (.int (nI 36)), some (.int (-1)), some (.int (nI tr)), some (.int (nI (lc + 1))), none, none, none]) (st' := [.int (nI br), .int (nI (lc + 1)), .int (nI tr), .int (nI 125), .int (nI 123), .ref 44]) (σ' := (μ12, τ)) rfl ?_
          refine am_invv (y := 92) (b := 44) (as := [.int (nI 123), .int (nI 125), .int (nI tr), .int (nI (lc + 1)), .int (nI br)]) (rest := []) rfl rfl rfl rfl rfl rfl rfl (Nat.le_of_ble_eq_true rfl) ?_
          refine c_enc_f (by omega) hT3 hX12 hF12 (fun μ22 hK22 hX22 hF22 => ?_)
          show am_G _ M_X6_readPart _ 168 [some (.ref 44), some (.int (nI tr)), some (.int (nI lc)), some (.int (nI br)), some (.int (nI 36)), some (.int (-1)), some (.int (nI tr)), some (.int (nI (lc + 1))), none, none, none] [.int (-1)] (μ22, τ)
          refine am_run 3 (pc' := 174) (ls' := [some (.ref 44), some (.int (nI tr)), some (.int (nI lc)), some (.int (nI br)), some (.int (nI 36)), some (.int (-1)), some (.int (nI tr)), some (.int (nI (lc + 1))), some (.int (-1)), none, none]) (st' := [.int (nI 63), .int (nI 36)]) (σ' := (μ22, τ)) rfl ?_
          refine am_ic (ty := 177) (tn := 190) rfl (by decide) rfl rfl (fun (h_706 : nI 36 = nI 63) => ?_) (fun (h_706 : ¬ (nI 36 = nI 63)) => ?_)
          · exact absurd h_706 (by decide)
          refine am_run 3 (pc' := 195) (ls' := [some (.ref 44), some (.int (nI tr)), some (.int (nI lc)), some (.int (nI br)), some (.int (nI 36)), some (.int (-1)), some (.int (nI tr)), some (.int (nI (lc + 1))), some (.int (-1)), some (.int (nI 0)), none]) (st' := [.int (nI 0)]) (σ' := (μ22, τ)) rfl ?_
          refine am_if (ty := 212) (tn := 198) rfl (by decide) rfl rfl (fun (h_707 : nI 0 = 0) => ?_) (fun (h_707 : ¬ (nI 0 = 0)) => ?_)
          rotate_left
          · exact absurd (by decide) h_707
          refine am_run 4 (pc' := 219) (ls' := [some (.ref 44), some (.int (nI tr)), some (.int (nI lc)), some (.int (nI br)), some (.int (nI 36)), some (.int (-1)), some (.int (nI tr)), some (.int (nI (lc + 1))), some (.int (-1)), some (.int (nI 0)), some (.int (-1))]) (st' := [.ref (τ 44 1)]) (σ' := (μ22, τ)) rfl ?_
          refine am_stk (st' := [.ref t]) (by rw [ht]) ?_
          refine am_run 3 (pc' := 225) (ls' := [some (.ref 44), some (.int (nI tr)), some (.int (nI lc)), some (.int (nI br)), some (.int (nI 36)), some (.int (-1)), some (.int (nI tr)), some (.int (nI (lc + 1))), some (.int (-1)), some (.int (nI 0)), some (.int (-1))]) (st' := [.int (-1), .int (-1), .int (-1), .ref t]) (σ' := (μ22, τ)) rfl ?_
          refine am_invv (y := 111) (b := t) (as := [.int (-1), .int (-1), .int (-1)]) (rest := []) rfl rfl rfl rfl rfl rfl (t3_kind hT3) (Nat.le_of_ble_eq_true rfl) ?_
          refine c_setOps_f (by omega) hT3 (fun μ32 hK32 h4432 => ?_)
          have hF32 := hF22.of h4432
          have hX32 := hK32.xc hT3 hX22
          show am_G _ M_X6_readPart _ 228 [some (.ref 44), some (.int (nI tr)), some (.int (nI lc)), some (.int (nI br)), some (.int (nI 36)), some (.int (-1)), some (.int (nI tr)), some (.int (nI (lc + 1))), some (.int (-1)), some (.int (nI 0)), some (.int (-1))] [] (μ32, τ)
          refine am_run 1 (pc' := 230) (ls' := [some (.ref 44), some (.int (nI tr)), some (.int (nI lc)), some (.int (nI br)), some (.int (nI 36)), some (.int (-1)), some (.int (nI tr)), some (.int (nI (lc + 1))), some (.int (-1)), some (.int (nI 0)), some (.int (-1))]) (st' := [.int (-1)]) (σ' := (μ32, τ)) rfl ?_
          refine am_reti rfl rfl ?_
          exact hF μ32 _ _ _ (pf_36 e36 hb0) ((((hK1.tr hK2).tr hK12).tr hK22).tr hK32) hX32 hF32
        · have hb : p_beg S 36 lc (lk tx L S.1) = .inr (ps_add S 36 (lk tx L S.1)) := hb0
          have hC2 : CR μ2 t L (ps_add S 36 (lk tx L S.1)) := hC2
          show am_G _ M_X6_readPart _ 82 [some (.ref 44), some (.int (nI tr)), some (.int (nI lc)), some (.int (nI br)), some (.int (nI 36)), none, none, none, none, none, none] [.int (nI S.2.1)] (μ2, τ)
          refine am_run 3 (pc' := 88) (ls' := [some (.ref 44), some (.int (nI tr)), some (.int (nI lc)), some (.int (nI br)), some (.int (nI 36)), some (.int (nI S.2.1)), none, none, none, none, none]) (st' := [.int (nI 120), .int (nI 36)]) (σ' := (μ2, τ)) rfl ?_
          refine am_ic (ty := 91) (tn := 101) rfl (by decide) rfl rfl (fun (h_1001 : nI 36 = nI 120) => ?_) (fun (h_1001 : ¬ (nI 36 = nI 120)) => ?_)
          · exact absurd h_1001 (by decide)
          refine am_run 1 (pc' := 103) (ls' := [some (.ref 44), some (.int (nI tr)), some (.int (nI lc)), some (.int (nI br)), some (.int (nI 36)), some (.int (nI S.2.1)), none, none, none, none, none]) (st' := [.int (nI 36)]) (σ' := (μ2, τ)) rfl ?_
          refine am_invs (y := 91) (as := [.int (nI 36)]) (rest := []) rfl rfl rfl rfl rfl rfl (Nat.le_of_ble_eq_true rfl) ?_
          rw [← tI_n (show 36 < 256 by decide)]
          refine c_hasSignal (by omega) (by decide) (fun _ => ?_) (fun z => absurd z (by decide))
          show am_G _ M_X6_readPart _ 106 [some (.ref 44), some (.int (nI tr)), some (.int (nI lc)), some (.int (nI br)), some (.int (nI 36)), some (.int (nI S.2.1)), none, none, none, none, none] [.int (nI 1)] (μ2, τ)
          refine am_if (ty := 115) (tn := 109) rfl (by decide) rfl rfl (fun (h_1002 : nI 1 = 0) => ?_) (fun (h_1002 : ¬ (nI 1 = 0)) => ?_)
          · exact absurd h_1002 (by decide)
          refine am_run 2 (pc' := 112) (ls' := [some (.ref 44), some (.int (nI tr)), some (.int (nI lc)), some (.int (nI br)), some (.int (nI 36)), some (.int (nI S.2.1)), none, none, none, none, none]) (st' := [.int (nI S.2.1), .ref 44]) (σ' := (μ2, τ)) rfl ?_
          refine am_invv (y := 94) (b := 44) (as := [.int (nI S.2.1)]) (rest := []) rfl rfl rfl rfl rfl rfl rfl (Nat.le_of_ble_eq_true rfl) ?_
          refine c_readSignal (by omega) hT3 hX2 hC2 ht (st := S.2.1) (by show S.2.1 < S.2.1 + 1; omega) (fun μ3 hr hK3 hX3 hF3 => ?_) (fun μ3 hr hK3 hX3 hC3 => ?_)
          · show am_G _ M_X6_readPart _ 115 [some (.ref 44), some (.int (nI tr)), some (.int (nI lc)), some (.int (nI br)), some (.int (nI 36)), some (.int (nI S.2.1)), none, none, none, none, none] [] (μ3, τ)
            refine am_run 1 (pc' := 117) (ls' := [some (.ref 44), some (.int (nI tr)), some (.int (nI lc)), some (.int (nI br)), some (.int (nI 36)), some (.int (nI S.2.1)), none, none, none, none, none]) (st' := [.int (nI 36)]) (σ' := (μ3, τ)) rfl ?_
            refine am_invs (y := 90) (as := [.int (nI 36)]) (rest := []) rfl rfl rfl rfl rfl rfl (Nat.le_of_ble_eq_true rfl) ?_
            rw [← tI_n (show 36 < 256 by decide)]
            refine c_hasBlock (by omega) (by decide) (fun _ => ?_) (fun z => absurd z (by decide))
            show am_G _ M_X6_readPart _ 120 [some (.ref 44), some (.int (nI tr)), some (.int (nI lc)), some (.int (nI br)), some (.int (nI 36)), some (.int (nI S.2.1)), none, none, none, none, none] [.int (nI 1)] (μ3, τ)
            refine am_if (ty := 228) (tn := 123) rfl (by decide) rfl rfl (fun (h_901 : nI 1 = 0) => ?_) (fun (h_901 : ¬ (nI 1 = 0)) => ?_)
            · exact absurd h_901 (by decide)
            refine am_run 2 (pc' := 127) (ls' := [some (.ref 44), some (.int (nI tr)), some (.int (nI lc)), some (.int (nI br)), some (.int (nI 36)), some (.int (nI S.2.1)), none, none, none, none, none]) (st' := [.int (nI 94), .int (nI 36)]) (σ' := (μ3, τ)) rfl ?_
            refine am_ic (ty := 130) (tn := 136) rfl (by decide) rfl rfl (fun (h_902 : nI 36 = nI 94) => ?_) (fun (h_902 : ¬ (nI 36 = nI 94)) => ?_)
            · exact absurd h_902 (by decide)
            refine am_run 4 (pc' := 143) (ls' := [some (.ref 44), some (.int (nI tr)), some (.int (nI lc)), some (.int (nI br)), some (.int (nI 36)), some (.int (nI S.2.1)), some (.int (nI tr)), none, none, none, none]) (st' := [.int (nI 36), .int (nI 36)]) (σ' := (μ3, τ)) rfl ?_
            refine am_ic (ty := 146) (tn := 152) rfl (by decide) rfl rfl (fun (h_903 : nI 36 = nI 36) => ?_) (fun (h_903 : ¬ (nI 36 = nI 36)) => ?_)
            rotate_left
            · exact absurd (by decide) h_903
            refine am_run 3 (pc' := 149) (ls' := [some (.ref 44), some (.int (nI tr)), some (.int (nI lc)), some (.int (nI br)), some (.int (nI 36)), some (.int (nI S.2.1)), some (.int (nI tr)), none, none, none, none]) (st' := [.int (nI lc + nI 1)]) (σ' := (μ3, τ)) rfl ?_
            refine am_top (v' := nI (lc + 1)) (nI_add _ _) ?_
            refine am_run 8 (pc' := 165) (ls' := [some (.ref 44), some (.int (nI tr)), some (.int (nI lc)), some (.int (nI br)), some (.int (nI 36)), some (.int (nI S.2.1)), some (.int (nI tr)), some (.int (nI (lc + 1))), none, none, none]) (st' := [.int (nI br), .int (nI (lc + 1)), .int (nI tr), .int (nI 125), .int (nI 123), .ref 44]) (σ' := (μ3, τ)) rfl ?_
            refine am_invv (y := 92) (b := 44) (as := [.int (nI 123), .int (nI 125), .int (nI tr), .int (nI (lc + 1)), .int (nI br)]) (rest := []) rfl rfl rfl rfl rfl rfl rfl (Nat.le_of_ble_eq_true rfl) ?_
            refine c_enc_f (by omega) hT3 hX3 hF3 (fun μ13 hK13 hX13 hF13 => ?_)
            show am_G _ M_X6_readPart _ 168 [some (.ref 44), some (.int (nI tr)), some (.int (nI lc)), some (.int (nI br)), some (.int (nI 36)), some (.int (nI S.2.1)), some (.int (nI tr)), some (.int (nI (lc + 1))), none, none, none] [.int (-1)] (μ13, τ)
            refine am_run 3 (pc' := 174) (ls' := [some (.ref 44), some (.int (nI tr)), some (.int (nI lc)), some (.int (nI br)), some (.int (nI 36)), some (.int (nI S.2.1)), some (.int (nI tr)), some (.int (nI (lc + 1))), some (.int (-1)), none, none]) (st' := [.int (nI 63), .int (nI 36)]) (σ' := (μ13, τ)) rfl ?_
            refine am_ic (ty := 177) (tn := 190) rfl (by decide) rfl rfl (fun (h_904 : nI 36 = nI 63) => ?_) (fun (h_904 : ¬ (nI 36 = nI 63)) => ?_)
            · exact absurd h_904 (by decide)
            refine am_run 3 (pc' := 195) (ls' := [some (.ref 44), some (.int (nI tr)), some (.int (nI lc)), some (.int (nI br)), some (.int (nI 36)), some (.int (nI S.2.1)), some (.int (nI tr)), some (.int (nI (lc + 1))), some (.int (-1)), some (.int (nI 0)), none]) (st' := [.int (nI 0)]) (σ' := (μ13, τ)) rfl ?_
            refine am_if (ty := 212) (tn := 198) rfl (by decide) rfl rfl (fun (h_905 : nI 0 = 0) => ?_) (fun (h_905 : ¬ (nI 0 = 0)) => ?_)
            rotate_left
            · exact absurd (by decide) h_905
            refine am_run 4 (pc' := 219) (ls' := [some (.ref 44), some (.int (nI tr)), some (.int (nI lc)), some (.int (nI br)), some (.int (nI 36)), some (.int (nI S.2.1)), some (.int (nI tr)), some (.int (nI (lc + 1))), some (.int (-1)), some (.int (nI 0)), some (.int (-1))]) (st' := [.ref (τ 44 1)]) (σ' := (μ13, τ)) rfl ?_
            refine am_stk (st' := [.ref t]) (by rw [ht]) ?_
            refine am_run 3 (pc' := 225) (ls' := [some (.ref 44), some (.int (nI tr)), some (.int (nI lc)), some (.int (nI br)), some (.int (nI 36)), some (.int (nI S.2.1)), some (.int (nI tr)), some (.int (nI (lc + 1))), some (.int (-1)), some (.int (nI 0)), some (.int (-1))]) (st' := [.int (-1), .int (-1), .int (nI S.2.1), .ref t]) (σ' := (μ13, τ)) rfl ?_
            refine am_invv (y := 111) (b := t) (as := [.int (nI S.2.1), .int (-1), .int (-1)]) (rest := []) rfl rfl rfl rfl rfl rfl (t3_kind hT3) (Nat.le_of_ble_eq_true rfl) ?_
            refine c_setOps_f (by omega) hT3 (fun μ23 hK23 h4423 => ?_)
            have hF23 := hF13.of h4423
            have hX23 := hK23.xc hT3 hX13
            show am_G _ M_X6_readPart _ 228 [some (.ref 44), some (.int (nI tr)), some (.int (nI lc)), some (.int (nI br)), some (.int (nI 36)), some (.int (nI S.2.1)), some (.int (nI tr)), some (.int (nI (lc + 1))), some (.int (-1)), some (.int (nI 0)), some (.int (-1))] [] (μ23, τ)
            refine am_run 1 (pc' := 230) (ls' := [some (.ref 44), some (.int (nI tr)), some (.int (nI lc)), some (.int (nI br)), some (.int (nI 36)), some (.int (nI S.2.1)), some (.int (nI tr)), some (.int (nI (lc + 1))), some (.int (-1)), some (.int (nI 0)), some (.int (-1))]) (st' := [.int (nI S.2.1)]) (σ' := (μ23, τ)) rfl ?_
            refine am_reti rfl rfl ?_
            exact hF μ23 _ _ _ (by rw [pp_36 e36 hb, if_pos hr]) ((((hK1.tr hK2).tr hK3).tr hK13).tr hK23) hX23 hF23
          · show am_G _ M_X6_readPart _ 115 [some (.ref 44), some (.int (nI tr)), some (.int (nI lc)), some (.int (nI br)), some (.int (nI 36)), some (.int (nI S.2.1)), none, none, none, none, none] [] (μ3, τ)
            have hl2 : lc ≤ 2 := by
              rcases Nat.lt_or_ge lc 3 with z | z
              · omega
              · exfalso
                unfold p_beg at hb
                split at hb
                · cases hb
                · rw [if_pos ⟨rfl, z⟩] at hb; cases hb
            exact c_blk_36 (by omega) hT3 hX3 hC3 ht hE htr hl2 (by show S.2.1 < S.2.1 + 1; omega) (fun μ4 v4 k4 fp4 e4 hK4 hX4 hF4 => hF μ4 v4 k4 fp4 (by rw [pp_36 e36 hb, if_neg hr]; exact e4) (((hK1.tr hK2).tr hK3).tr hK4) hX4 hF4) (fun μ4 S4 r4 e4 hK4 hX4 hC4 hr4 hr4b => hS μ4 S4 r4 (by rw [pp_36 e36 hb, if_neg hr]; exact e4) (((hK1.tr hK2).tr hK3).tr hK4) hX4 hC4 (by omega) hr4b)

/-! the reference reads a program -/
def KPr (σ σ' : am_M) : Prop := (∀ c, (c = 1 ∨ (17 ≤ c ∧ c ≤ 19) ∨ 41 ≤ c) → σ'.1 c = σ.1 c) ∧ σ'.2 = σ.2 ∧ (∀ c x, 2 ≤ c → c ≤ 4 → x ≠ 2 → σ'.1 c x = σ.1 c x) ∧ (∀ c x, 5 ≤ c → c ≤ 16 → c ≠ 11 → x < 120 → σ'.1 c x = σ.1 c x) ∧ ∀ x, x < 360 → σ'.1 11 x = σ.1 11 x
theorem KPr.tr {σ σ' σ'' : am_M} (h : KPr σ σ') (h' : KPr σ' σ'') : KPr σ σ'' := ⟨fun c a => (h'.1 c a).trans (h.1 c a), h'.2.1.trans h.2.1, fun c x a b e => (h'.2.2.1 c x a b e).trans (h.2.2.1 c x a b e), fun c x a b e f => (h'.2.2.2.1 c x a b e f).trans (h.2.2.2.1 c x a b e f), fun x a => (h'.2.2.2.2 x a).trans (h.2.2.2.2 x a)⟩
theorem KPr.w0 {σ : am_M} (k : Nat) (v : Int32) : KPr σ (am_wr σ 0 k v) := ⟨fun c a => am_wr_ne _ (by omega), rfl, fun c x a b e => by rw [am_wr_ne _ (by omega)], fun c x a b e f => by rw [am_wr_ne _ (by omega)], fun x a => by rw [am_wr_ne _ (by omega)]⟩
theorem KPr.w4 {σ : am_M} (v : Int32) : KPr σ (am_wr σ 4 2 v) := ⟨fun c a => am_wr_ne _ (by omega), rfl, fun c x a b e => by rw [am_ne2 _ (by omega)], fun c x a b e f => by rw [am_wr_ne _ (by omega)], fun x a => by rw [am_wr_ne _ (by omega)]⟩
theorem RF.kpr {σ σ' : am_M} (h : RF σ σ' 0 0 0 0) : KPr σ σ' := by
  obtain ⟨h1, h2, h3, h4, h5, h6, h7, h8, h9⟩ := h
  refine ⟨fun c a => h1 c (by unfold rdc; omega), h2, fun c x a b e => ?_, fun c x a b e f => ?_, fun x a => h6 x (by omega)⟩
  · by_cases z : c = 4
    · rw [h1 c (by unfold rdc; omega)]
    · rcases (show c = 2 ∨ c = 3 by omega) with rfl | rfl
      · exact (h4 x e).1
      · exact (h4 x e).2
  · by_cases z : c = 13 ∨ c = 14 ∨ c = 16
    · rw [h1 c (by unfold rdc; omega)]
    · by_cases z9 : c = 9
      · rw [z9]
        exact h7 x (by omega)
      · exact h5 c x (by omega) (by omega)
theorem KZs.kpr {σ σ' : am_M} (h : KZs σ σ') : KPr σ σ' := ⟨fun c a => h.1 c (by omega) (by omega), h.2.1, fun c x a b e => by rw [h.1 c (by omega) (by omega)], fun c x a b e f => h.2.2 c x f, fun x a => by rw [h.1 11 (by decide) (by decide)]⟩
theorem KAo.kpr {σ σ' : am_M} (h : KAo σ σ') : KPr σ σ' := ⟨fun c a => h.1 c (by omega) (by omega) (by omega) (by omega), h.2.1, fun c x a b e => by rw [h.1 c (by omega) (by omega) (by omega) (by omega)], fun c x a b e f => by
  by_cases z : c = 16
  · rw [z]
    exact h.2.2.2 x f
  · rw [h.1 c (by omega) z (by omega) (by omega)], fun x a => by rw [h.1 11 (by decide) (by decide) (by decide) (by decide)]⟩
theorem TXm.keep {σ σ' : am_M} {L : Nat} {tx : Nat → Nat} (h : TXm σ L tx) (h0 : σ'.1 0 1 = σ.1 0 1) (h1 : σ'.1 1 = σ.1 1) : TXm σ' L tx := ⟨h.1, by rw [h0]; exact h.2.1, fun i hi => by rw [h1]; exact h.2.2 i hi⟩
theorem RDY.keep {σ σ' : am_M} {p g : Nat → Nat → Nat} {n r : Nat} (h : RDY σ p g n r) (hk : ∀ c, (c = 2 ∨ c = 5 ∨ c = 6 ∨ c = 7 ∨ c = 8 ∨ c = 9 ∨ c = 10 ∨ c = 11 ∨ c = 12 ∨ c = 15) → σ'.1 c = σ.1 c) : RDY σ' p g n r := by
  obtain ⟨h1, h2, h3, h4, h5⟩ := h
  refine ⟨by rw [hk 2 (by omega)]; exact h1, h2, fun i i1 i2 => ?_, h4, h5⟩
  obtain ⟨⟨m5, m6, m7, m8, m10, m11, m12⟩, m15, m9⟩ := h3 i i1 i2
  exact ⟨⟨by rw [hk 5 (by omega)]; exact m5, by rw [hk 6 (by omega)]; exact m6, by rw [hk 7 (by omega)]; exact m7, by rw [hk 8 (by omega)]; exact m8, by rw [hk 10 (by omega)]; exact m10, fun y hy => by rw [hk 11 (by omega)]; exact m11 y hy, by rw [hk 12 (by omega)]; exact m12⟩, fun z => by rw [hk 15 (by omega)]; exact m15 z, by rw [hk 9 (by omega)]; exact m9⟩
/-- a sound program has been read into the spare place -/
def SPR (σ : am_M) (p g : Nat → Nat → Nat) (n r kk : Nat) : Prop := RDY σ p g n r ∧ (∀ k, k < n → σ.1 13 (120 + k) = nI (p 4 k) ∧ σ.1 14 (120 + k) = nI (p 7 k - p 6 k)) ∧ (∀ k, k < n → σ.1 16 (120 + k) = nI (an p 61 (k + 1) ST false 0 0).2.2.2) ∧ σ.1 3 2 = nI kk ∧ kk ≤ 20 ∧ σ.1 4 2 = nI r ∧ σ.1 15 (120 + r) = -1
set_option maxRecDepth 10000 in
set_option maxHeartbeats 2000000 in
theorem c_m_program {d : Nat} (hd : 20 ≤ d) {σ : am_M} {L j : Nat} {tx : Nat → Nat} (hT : TXm σ L tx) (hj : j ≤ 1) (hk5 : ∀ k pl, p_rt tx L = .inl (k, pl) → 1 ≤ k ∧ k ≤ 5) {Q : am_Q} (hA : ∀ k pl σ', p_rt tx L = .inl (k, pl) → KPr σ σ' → σ'.1 0 1 = nI 0 → σ'.1 0 2 = nI k → Q (some (.int (Int32.ofInt (-100) - nI pl))) σ') (hB : ∀ S r σ', p_rt tx L = .inr (S, r) → fz S.2.2.2 S.2.1 S.2.1 < S.2.1 → KPr σ σ' → σ'.1 0 1 = nI 0 → σ'.1 0 2 = nI 5 → Q (some (.int (Int32.ofInt (-100) - nI (S.2.2.2 5 (fz S.2.2.2 S.2.1 S.2.1))))) σ') (hC : ∀ S r g σ3 σ', p_rt tx L = .inr (S, r) → fz S.2.2.2 S.2.1 S.2.1 = S.2.1 → KPr σ σ3 → SPR σ3 S.2.2.2 g S.2.1 r S.2.2.1 → σ3.1 0 1 = nI 0 → σ3.1 0 2 = nI 0 → BC σ3 σ' j → Q (some (.int (nI S.2.2.1))) σ') : am_C d 182 [.ref 0, .int (nI j)] σ Q := by
  refine am_enter' (M := M_X10_program) rfl rfl rfl (by omega) (ls := [some (.ref 0), some (.int (nI j)), none, none]) rfl (fun d' hd' => ?_)
  refine am_run 3 (pc' := 3) (ls' := [some (.ref 0), some (.int (nI j)), none, none]) (st' := [.int (nI 1), .int (nI 0), .int (nI j)]) (σ' := σ) rfl ?_
  refine am_invs (y := 148) (as := [.int (nI j), .int (nI 0), .int (nI 1)]) (rest := []) rfl rfl rfl rfl rfl rfl (Nat.le_of_ble_eq_true rfl) ?_
  refine am_enter' rfl rfl rfl (by omega) (ls := [some (.int (nI j)), some (.int (nI 0)), some (.int (nI 1))]) rfl (fun d_1 hd_1 => ?_)
  refine am_run 2 (pc' := 2) (ls' := [some (.int (nI j)), some (.int (nI 0)), some (.int (nI 1))]) (st' := [.int (nI 0), .int (nI j)]) (σ' := σ) rfl ?_
  refine am_ic (ty := 14) (tn := 5) rfl (by decide) rfl rfl (fun (h_2 : nI j < nI 0) => ?_) (fun (h_2 : ¬ (nI j < nI 0)) => ?_)
  · have h_2 : j < 0 := (nI_ltI (by omega) (by omega)).mp h_2
    omega
  have h_2 : ¬ (j < 0) := fun z => h_2 ((nI_ltI (by omega) (by omega)).mpr z)
  refine am_run 2 (pc' := 7) (ls' := [some (.int (nI j)), some (.int (nI 0)), some (.int (nI 1))]) (st' := [.int (nI 1), .int (nI j)]) (σ' := σ) rfl ?_
  refine am_ic (ty := 14) (tn := 10) rfl (by decide) rfl rfl (fun (h_3 : nI 1 < nI j) => ?_) (fun (h_3 : ¬ (nI 1 < nI j)) => ?_)
  · have h_3 : 1 < j := (nI_ltI (by omega) (by omega)).mp h_3
    omega
  have h_3 : ¬ (1 < j) := fun z => h_3 ((nI_ltI (by omega) (by omega)).mpr z)
  refine am_run 2 (pc' := 15) (ls' := [some (.int (nI j)), some (.int (nI 0)), some (.int (nI 1))]) (st' := [.int (nI 1)]) (σ' := σ) rfl ?_
  refine am_retz rfl rfl (by decide) ?_
  show am_G _ M_X10_program _ 6 [some (.ref 0), some (.int (nI j)), none, none] [.int (nI 1)] σ
  refine am_if (ty := 9) (tn := 12) rfl (by decide) rfl rfl (fun (h_4 : nI 1 = 0) => ?_) (fun (h_4 : ¬ (nI 1 = 0)) => ?_)
  · exact absurd h_4 (by decide)
  refine am_run 2 (pc' := 14) (ls' := [some (.ref 0), some (.int (nI j)), none, none]) (st' := [.ref 0, .ref 0]) (σ' := σ) rfl ?_
  refine am_invv (y := 175) (b := 0) (as := []) (rest := [.ref 0]) rfl rfl rfl rfl rfl rfl rfl (Nat.le_of_ble_eq_true rfl) ?_
  refine c_reads (by omega) hT (fun k pl σ1 hx hF h21 => ?_) (fun S r σ1 g hx hF h2 hn h3 hkk hM hS => ?_)
  · have hkb := hk5 k pl hx
    show am_G _ M_X10_program _ 17 [some (.ref 0), some (.int (nI j)), none, none] [.int (nI k), .ref 0] σ1
    refine am_run 3 (pc' := 24) (ls' := [some (.ref 0), some (.int (nI j)), none, none]) (st' := [.int (σ1.1 0 21)]) (σ' := (am_wr σ1 0 2 (nI k))) rfl ?_
    refine am_top (v' := nI pl) h21 ?_
    refine am_run 3 (pc' := 29) (ls' := [some (.ref 0), some (.int (nI j)), some (.int (nI pl)), none]) (st' := [.int (nI k)]) (σ' := (am_wr σ1 0 2 (nI k))) rfl ?_
    refine am_if (ty := 32) (tn := 70) rfl (by decide) rfl rfl (fun (h_5 : nI k = 0) => ?_) (fun (h_5 : ¬ (nI k = 0)) => ?_)
    · have h_5 : k = 0 := (am_n0 (by omega)).mp h_5
      omega
    have h_5 : ¬ (k = 0) := fun z => h_5 ((am_n0 (by omega)).mpr z)
    refine am_run 5 (pc' := 79) (ls' := [some (.ref 0), some (.int (nI j)), some (.int (nI pl)), none]) (st' := [.int (nI k)]) (σ' := (am_wr (am_wr σ1 0 2 (nI k)) 0 1 (nI 0))) rfl ?_
    refine am_if (ty := 87) (tn := 82) rfl (by decide) rfl rfl (fun (h_6 : nI k = 0) => ?_) (fun (h_6 : ¬ (nI k = 0)) => ?_)
    · have h_6 : k = 0 := (am_n0 (by omega)).mp h_6
      omega
    have h_6 : ¬ (k = 0) := fun z => h_6 ((am_n0 (by omega)).mpr z)
    refine am_run 3 (pc' := 86) (ls' := [some (.ref 0), some (.int (nI j)), some (.int (nI pl)), none]) (st' := [.int ((Int32.ofInt (-100)) - nI pl)]) (σ' := (am_wr (am_wr σ1 0 2 (nI k)) 0 1 (nI 0))) rfl ?_
    refine am_reti rfl rfl ?_
    exact hA k pl _ hx ((hF.kpr.tr (KPr.w0 _ _)).tr (KPr.w0 _ _)) (am_same _ _ _ _) (by rw [am_diff _ _ _ _ _ (by decide), am_same])
  · show am_G _ M_X10_program _ 17 [some (.ref 0), some (.int (nI j)), none, none] [.int (nI 0), .ref 0] (am_wr σ1 4 2 (nI r))
    refine am_run 6 (pc' := 29) (ls' := [some (.ref 0), some (.int (nI j)), some (.int (σ1.1 0 21)), none]) (st' := [.int (nI 0)]) (σ' := (am_wr (am_wr σ1 4 2 (nI r)) 0 2 (nI 0))) rfl ?_
    refine am_if (ty := 32) (tn := 70) rfl (by decide) rfl rfl (fun (h_7 : nI 0 = 0) => ?_) (fun (h_7 : ¬ (nI 0 = 0)) => ?_)
    rotate_left
    · exact absurd (by decide) h_7
    refine am_run 1 (pc' := 33) (ls' := [some (.ref 0), some (.int (nI j)), some (.int (σ1.1 0 21)), none]) (st' := [.ref 0]) (σ' := (am_wr (am_wr σ1 4 2 (nI r)) 0 2 (nI 0))) rfl ?_
    refine am_invv (y := 176) (b := 0) (as := []) (rest := []) rfl rfl rfl rfl rfl rfl rfl (Nat.le_of_ble_eq_true rfl) ?_
    have hpk := rt_pk hx
    have hR1 : RDY σ1 S.2.2.2 g S.2.1 r := ⟨h2, hn, hM.1, hS, fun k hk => ⟨(hpk.2.2 k hk).2.2.2.1, (hpk.2.2 k hk).2.2.2.2⟩⟩
    have hR2 : RDY (am_wr (am_wr σ1 4 2 (nI r)) 0 2 (nI 0)) S.2.2.2 g S.2.1 r := hR1.keep (fun c hc => by rw [am_wr_ne _ (by omega), am_wr_ne _ (by omega)])
    refine c_laysSizes (by omega) hR2 (fun σ2 hK2 h1314 => ?_)
    have hR3 : RDY σ2 S.2.2.2 g S.2.1 r := hR2.keep (fun c hc => hK2.1 c (by omega) (by omega))
    show am_G _ M_X10_program _ 36 [some (.ref 0), some (.int (nI j)), some (.int (σ1.1 0 21)), none] [] σ2
    refine am_run 1 (pc' := 37) (ls' := [some (.ref 0), some (.int (nI j)), some (.int (σ1.1 0 21)), none]) (st' := [.ref 0]) (σ' := σ2) rfl ?_
    refine am_invv (y := 177) (b := 0) (as := []) (rest := []) rfl rfl rfl rfl rfl rfl rfl (Nat.le_of_ble_eq_true rfl) ?_
    obtain ⟨f, hf⟩ : ∃ f, f = fz S.2.2.2 S.2.1 S.2.1 := ⟨_, rfl⟩
    refine c_laysAtOnce (by omega) hR3 (fun k hk => (h1314 k hk).1) (fun σ3 hK3 h16 => ?_)
    have hR4 : RDY σ3 S.2.2.2 g S.2.1 r := hR3.keep (fun c hc => hK3.1 c (by omega) (by omega) (by omega) (by omega))
    have kp3 : KPr σ σ3 := (((hF.kpr.tr (KPr.w4 _)).tr (KPr.w0 2 _)).tr hK2.kpr).tr hK3.kpr
    have o1 : σ3.1 0 1 = σ.1 0 1 := by rw [hK3.2.2.1 1 (by decide) (by decide), hK2.1 0 (by decide) (by decide), am_diff _ _ _ _ _ (by decide), am_wr_ne _ (by decide), hF.2.2.1 1 (by decide) (by decide) (by decide) (by decide) (by decide) (by decide) (by decide)]
    have hTX : TXm σ3 L tx := hT.keep o1 (kp3.1 1 (Or.inl rfl))
    rw [← hf]
    have hff := fz_k (p := S.2.2.2) (n := S.2.1) S.2.1 (Nat.le_refl _)
    rw [← hf] at hff
    have hn1 := hS.2.1
    rcases hff with hz | ⟨hz, hl⟩
    · rw [show fI f S.2.1 = -1 from if_pos hz]
      show am_G _ M_X10_program _ 40 [some (.ref 0), some (.int (nI j)), some (.int (σ1.1 0 21)), none] [.int (-1)] σ3
      refine am_run 4 (pc' := 44) (ls' := [some (.ref 0), some (.int (nI j)), some (.int (σ1.1 0 21)), some (.int (-1))]) (st' := [.int (-1), .int (-1), .ref 0]) (σ' := σ3) rfl ?_
      refine am_ic (ty := 47) (tn := 51) rfl (by decide) rfl rfl (fun (h_8 : -1 = -1) => ?_) (fun (h_8 : ¬ (-1 = -1)) => ?_)
      rotate_left
      · exact absurd (by decide) h_8
      refine am_run 5 (pc' := 57) (ls' := [some (.ref 0), some (.int (nI j)), some (.int (σ1.1 0 21)), some (.int (-1))]) (st' := [.int (-1), .int (-1)]) (σ' := (am_wr σ3 0 2 (nI 0))) rfl ?_
      refine am_ic (ty := 60) (tn := 64) rfl (by decide) rfl rfl (fun (h_9 : -1 = -1) => ?_) (fun (h_9 : ¬ (-1 = -1)) => ?_)
      rotate_left
      · exact absurd (by decide) h_9
      refine am_run 8 (pc' := 79) (ls' := [some (.ref 0), some (.int (nI j)), some (.int (nI 0)), some (.int (-1))]) (st' := [.int (nI 0)]) (σ' := (am_wr (am_wr σ3 0 2 (nI 0)) 0 1 (nI 0))) rfl ?_
      refine am_if (ty := 87) (tn := 82) rfl (by decide) rfl rfl (fun (h_10 : nI 0 = 0) => ?_) (fun (h_10 : ¬ (nI 0 = 0)) => ?_)
      rotate_left
      · exact absurd (by decide) h_10
      refine am_run 2 (pc' := 89) (ls' := [some (.ref 0), some (.int (nI j)), some (.int (nI 0)), some (.int (-1))]) (st' := [.int (nI j), .ref 0]) (σ' := (am_wr (am_wr σ3 0 2 (nI 0)) 0 1 (nI 0))) rfl ?_
      refine am_invv (y := 181) (b := 0) (as := [.int (nI j)]) (rest := []) rfl rfl rfl rfl rfl rfl rfl (Nat.le_of_ble_eq_true rfl) ?_
      refine c_becomes (by omega) hj (fun σ4 hb => ?_)
      have c3 : σ4.1 3 j = nI S.2.2.1 := by rw [(hb.2.2.1 3 (by decide) (by decide)).1, am_wr_ne _ (by decide), am_wr_ne _ (by decide), hK3.1 3 (by decide) (by decide) (by decide) (by decide), hK2.1 3 (by decide) (by decide), am_wr_ne _ (by decide), am_wr_ne _ (by decide)]; exact h3
      show am_G _ M_X10_program _ 92 [some (.ref 0), some (.int (nI j)), some (.int (nI 0)), some (.int (-1))] [] σ4
      refine am_run 3 (pc' := 97) (ls' := [some (.ref 0), some (.int (nI j)), some (.int (nI 0)), some (.int (-1))]) (st' := [.int (nI j), .ref 3]) (σ' := σ4) rfl ?_
      refine am_ialdN (n := 3) (v := nI S.2.2.1) rfl rfl rfl (by omega) c3 (by decide) ?_
      refine am_reti rfl rfl ?_
      refine hC S r g _ σ4 hx (by rw [← hf]; exact hz) ((kp3.tr (KPr.w0 _ _)).tr (KPr.w0 _ _)) ⟨hR4.keep (fun c hc => by rw [am_wr_ne _ (by omega), am_wr_ne _ (by omega)]), fun k hk => ?_, fun k hk => ?_, ?_, hkk, ?_, ?_⟩ (am_same _ _ _ _) (by rw [am_diff _ _ _ _ _ (by decide), am_same]) hb
      · rw [am_wr_ne _ (by decide), am_wr_ne _ (by decide), am_wr_ne _ (by decide), am_wr_ne _ (by decide), hK3.1 13 (by decide) (by decide) (by decide) (by decide), hK3.1 14 (by decide) (by decide) (by decide) (by decide)]
        exact h1314 k hk
      · rw [am_wr_ne _ (by decide), am_wr_ne _ (by decide)]
        exact h16 k hk
      · rw [am_wr_ne _ (by decide), am_wr_ne _ (by decide), hK3.1 3 (by decide) (by decide) (by decide) (by decide), hK2.1 3 (by decide) (by decide), am_wr_ne _ (by decide), am_wr_ne _ (by decide)]
        exact h3
      · rw [am_wr_ne _ (by decide), am_wr_ne _ (by decide), hK3.1 4 (by decide) (by decide) (by decide) (by decide), hK2.1 4 (by decide) (by decide), am_wr_ne _ (by decide), am_same]
      · rw [am_wr_ne _ (by decide), am_wr_ne _ (by decide), hK3.1 15 (by decide) (by decide) (by decide) (by decide), hK2.1 15 (by decide) (by decide), am_wr_ne _ (by decide), am_wr_ne _ (by decide)]
        exact hM.2
    · rw [show fI f S.2.1 = nI f from if_neg (by omega)]
      show am_G _ M_X10_program _ 40 [some (.ref 0), some (.int (nI j)), some (.int (σ1.1 0 21)), none] [.int (nI f)] σ3
      refine am_run 4 (pc' := 44) (ls' := [some (.ref 0), some (.int (nI j)), some (.int (σ1.1 0 21)), some (.int (nI f))]) (st' := [.int (-1), .int (nI f), .ref 0]) (σ' := σ3) rfl ?_
      refine am_ic (ty := 47) (tn := 51) rfl (by decide) rfl rfl (fun (h_11 : nI f = -1) => ?_) (fun (h_11 : ¬ (nI f = -1)) => ?_)
      · exact absurd h_11 (am_nm1 (by omega))
      refine am_run 4 (pc' := 57) (ls' := [some (.ref 0), some (.int (nI j)), some (.int (σ1.1 0 21)), some (.int (nI f))]) (st' := [.int (-1), .int (nI f)]) (σ' := (am_wr σ3 0 2 (nI 5))) rfl ?_
      refine am_ic (ty := 60) (tn := 64) rfl (by decide) rfl rfl (fun (h_12 : nI f = -1) => ?_) (fun (h_12 : ¬ (nI f = -1)) => ?_)
      · exact absurd h_12 (am_nm1 (by omega))
      refine am_run 2 (pc' := 66) (ls' := [some (.ref 0), some (.int (nI j)), some (.int (σ1.1 0 21)), some (.int (nI f))]) (st' := [.int (nI f), .ref 0]) (σ' := (am_wr σ3 0 2 (nI 5))) rfl ?_
      refine am_invv (y := 178) (b := 0) (as := [.int (nI f)]) (rest := []) rfl rfl rfl rfl rfl rfl rfl (Nat.le_of_ble_eq_true rfl) ?_
      obtain ⟨q1, q2, q3, -⟩ := hpk.2.2 f hz
      refine c_m_tokenPlace (by omega) (hTX.keep (by rw [am_diff _ _ _ _ _ (by decide)]) (by rw [am_wr_ne _ (by decide)])) (by omega) q1 q2 q3 ?_
      show am_G _ M_X10_program _ 69 [some (.ref 0), some (.int (nI j)), some (.int (σ1.1 0 21)), some (.int (nI f))] [.int (nI (S.2.2.2 5 f))] (am_wr σ3 0 2 (nI 5))
      refine am_run 6 (pc' := 79) (ls' := [some (.ref 0), some (.int (nI j)), some (.int (nI (S.2.2.2 5 f))), some (.int (nI f))]) (st' := [.int (nI 5)]) (σ' := (am_wr (am_wr σ3 0 2 (nI 5)) 0 1 (nI 0))) rfl ?_
      refine am_if (ty := 87) (tn := 82) rfl (by decide) rfl rfl (fun (h_13 : nI 5 = 0) => ?_) (fun (h_13 : ¬ (nI 5 = 0)) => ?_)
      · exact absurd h_13 (by decide)
      refine am_run 3 (pc' := 86) (ls' := [some (.ref 0), some (.int (nI j)), some (.int (nI (S.2.2.2 5 f))), some (.int (nI f))]) (st' := [.int ((Int32.ofInt (-100)) - nI (S.2.2.2 5 f))]) (σ' := (am_wr (am_wr σ3 0 2 (nI 5)) 0 1 (nI 0))) rfl ?_
      refine am_reti rfl rfl ?_
      rw [hf]
      exact hB S r _ hx (by rw [← hf]; exact hz) ((kp3.tr (KPr.w0 _ _)).tr (KPr.w0 _ _)) (am_same _ _ _ _) (by rw [am_diff _ _ _ _ _ (by decide), am_same])

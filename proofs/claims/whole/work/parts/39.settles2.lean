theorem KS.rf (σ : am_M) : KS σ σ := ⟨fun _ _ _ _ _ => rfl, fun _ _ => rfl, rfl⟩
theorem KS.tr {σ σ' σ'' : am_M} (h : KS σ σ') (h' : KS σ' σ'') : KS σ σ'' := ⟨fun c a b e f => (h'.1 c a b e f).trans (h.1 c a b e f), fun k a => (h'.2.1 k a).trans (h.2.1 k a), h'.2.2.trans h.2.2⟩
theorem KS.w0 {σ σ' : am_M} (h : KS σ σ') {k : Nat} (hk : 38 ≤ k ∧ k ≤ 44) (x : Int32) : KS σ (am_wr σ' 0 k x) := ⟨fun c a b e f => by rw [am_wr_ne _ f]; exact h.1 c a b e f, fun k' a => by rw [am_diff _ _ _ _ _ (by omega)]; exact h.2.1 k' a, h.2.2⟩
theorem KS.of29 {σ σ' : am_M} (h : ∀ c, c ≠ 29 → σ'.1 c = σ.1 c) (h2 : σ'.2 = σ.2) : KS σ σ' := ⟨fun c _ b _ _ => h c b, fun k _ => by rw [h 0 (by decide)], h2⟩
theorem KS.of30 {σ σ' : am_M} (h : ∀ c, c ≠ 30 → σ'.1 c = σ.1 c) (h2 : σ'.2 = σ.2) : KS σ σ' := ⟨fun c _ _ b _ => h c b, fun k _ => by rw [h 0 (by decide)], h2⟩
theorem KG.KS {σ σ' : am_M} (h : KG σ σ') : KS σ σ' := ⟨fun c a b _ f => h.1 c a b f, fun k a => h.2.1 k (by omega) (by omega) (by omega), h.2.2⟩
theorem KL.KS {σ σ' : am_M} (h : KL σ σ') : KS σ σ' := ⟨fun c a _ _ f => h.1 c a f, fun k a => h.2.1 k (by omega) (by omega), h.2.2⟩
theorem KS.of42 {σ σ' : am_M} (h : ∀ c, c ≠ 0 → σ'.1 c = σ.1 c) (h' : ∀ k, k ≠ 42 → σ'.1 0 k = σ.1 0 k) (h2 : σ'.2 = σ.2) : KS σ σ' := ⟨fun c _ _ _ b => h c b, fun k a => h' k (by omega), h2⟩
set_option maxRecDepth 10000 in
set_option maxHeartbeats 2000000 in
theorem c_settles_mid {d : Nat} (hd : 17 ≤ d) {σ σ2 : am_M} {j s u n r P A k : Nat} {p : Pg} {rk od dp : Nat → Nat} {ow : Nat → Nat → Nat} (hM : MI σ j p n r rk od dp ow) (hs : s ≤ 1048576) (hs0 : ¬ s = 0) (hv : s = ST ∨ lv p (r + 1) s = true) (hu : u < 256) (hz : stl p (r + 1) s 9 u 0 = (P, A, k)) (hS : KS σ σ2) (h38 : σ2.1 0 38 = nI j) (h39 : σ2.1 0 39 = nI s) (h40 : σ2.1 0 40 = nI k) (h42 : σ2.1 0 42 = nI u) (hI : ∀ g, g < 8 → σ2.1 29 g = nI (sts (P, A) g)) (h28 : σ2.1 28 6480 = nI (eM (r_cd 1))) (hT : ∀ i, i < n → ∀ w', w' < 3 ^ dp i → TB σ2 p dp ow s P A i w') {Q : am_Q} (hq : ∀ σ', SP σ σ' j s (oc p (r + 1) s u) → Q (some (.int (nI (if (oc p (r + 1) s u).2.2.1 = 0 then 1 else 0)))) σ') : am_G d M_X10_settles Q 114 [some (.ref 0), some (.int (nI j)), some (.int (nI s)), some (.int (nI u)), some (.int (nI 0)), none, none] [] σ2 := by
  have hW := hM.1.2.1
  have hrn := hM.2.1.2.1
  have hr0 := hM.2.1.2.2
  have hri := stl_ri hW (show r + 1 ≤ n by omega) 9 u 0 (ri_0 p (r + 1) s u)
  have hlt := stl_lt (s := s) hW (show r + 1 ≤ n by omega) 9 u 0 hu (by decide)
  have hsb := stl_sb (p := p) (x := r + 1) (s := s) 9 u 0
  rw [hz] at hri hlt hsb
  have hdj : dj P A := hri.1
  have hP : P < 256 := hlt.1
  have hA : A < 256 := hlt.2.1
  have hsb : sb u P := hsb
  have hop : dn 255 (P ||| A) < 256 := dn_lt (by decide)
  have hM2 := hM.keep hS.1
  have hj2 := hM.1.1
  have hn60 := hW.1
  refine am_run 2 (pc' := 116) (ls' := [some (.ref 0), some (.int (nI j)), some (.int (nI s)), some (.int (nI u)), some (.int (nI 0)), none, none]) (st' := [.ref 0, .ref 0]) (σ' := σ2) rfl ?_
  refine am_invv (y := 212) (b := 0) (as := []) (rest := [.ref 0]) rfl rfl rfl rfl rfl rfl rfl (Nat.le_of_ble_eq_true rfl) ?_
  refine c_m_openSet (by omega) hI ?_
  show am_G _ M_X10_settles _ 119 [some (.ref 0), some (.int (nI j)), some (.int (nI s)), some (.int (nI u)), some (.int (nI 0)), none, none] [.int (nI (dn 255 (P ||| A))), .ref 0] σ2
  refine am_run 3 (pc' := 126) (ls' := [some (.ref 0), some (.int (nI j)), some (.int (nI s)), some (.int (nI u)), some (.int (nI 0)), none, none]) (st' := [.int (nI (dn 255 (P ||| A)))]) (σ' := (am_wr σ2 0 41 (nI (dn 255 (P ||| A))))) rfl ?_
  refine am_if (ty := 131) (tn := 129) rfl (by decide) rfl rfl (fun (h_1 : nI (dn 255 (P ||| A)) = 0) => ?_) (fun (h_1 : ¬ (nI (dn 255 (P ||| A)) = 0)) => ?_)
  · have h_1 : dn 255 (P ||| A) = 0 := (am_n0 (by omega)).mp h_1
    refine am_run 1 (pc' := 132) (ls' := [some (.ref 0), some (.int (nI j)), some (.int (nI s)), some (.int (nI u)), some (.int (nI 0)), none, none]) (st' := [.ref 0]) (σ' := (am_wr σ2 0 41 (nI (dn 255 (P ||| A))))) rfl ?_
    refine am_invv (y := 228) (b := 0) (as := []) (rest := []) rfl rfl rfl rfl rfl rfl rfl (Nat.le_of_ble_eq_true rfl) ?_
    have hS3 : KS σ (am_wr σ2 0 41 (nI (dn 255 (P ||| A)))) := hS.w0 (by decide) _
    have hM3 : MI (am_wr σ2 0 41 (nI (dn 255 (P ||| A)))) j p n r rk od dp ow := hM.keep hS3.1
    have hB3 : MB (am_wr σ2 0 41 (nI (dn 255 (P ||| A)))) j s P A p n dp ow := ⟨hM3.1.1, ⟨by rw [am_diff _ _ _ _ _ (by decide)]; exact h38, by rw [am_diff _ _ _ _ _ (by decide)]; exact h39, fun g hg => by rw [am_wr_ne _ (by decide)]; exact hI g hg, by rw [am_wr_ne _ (by decide)]; exact h28⟩, hW, hs, fun i hi => ⟨hM3.1.2.2.2.2.2.2 i hi, (hM3.1.2.2.1 i hi).2.2.2.2.2.2.2⟩, hdj, hP, hA⟩
    refine c_does (by omega) hM3.1 hB3 hM3.2.2 (fun i hi w' hw' => (hT i hi w' hw').keep (am_wr_ne _ (by decide))) (fun σ4 g1 g2 hD => ?_)
    have hS4 : KS σ σ4 := hS3.tr (KS.of30 g1 g2)
    have hM4 := hM.keep hS4.1
    have i38 : σ4.1 0 38 = nI j := by rw [g1 0 (by decide), am_diff _ _ _ _ _ (by decide)]; exact h38
    have i39 : σ4.1 0 39 = nI s := by rw [g1 0 (by decide), am_diff _ _ _ _ _ (by decide)]; exact h39
    have i40 : σ4.1 0 40 = nI k := by rw [g1 0 (by decide), am_diff _ _ _ _ _ (by decide)]; exact h40
    have i42 : σ4.1 0 42 = nI u := by rw [g1 0 (by decide), am_diff _ _ _ _ _ (by decide)]; exact h42
    have iI : ∀ g, g < 8 → σ4.1 29 g = nI (sts (P, A) g) := fun g hg => by rw [g1 29 (by decide), am_wr_ne _ (by decide)]; exact hI g hg
    have hSE : SE (P, A) := SE_of hdj hP hA (by assumption)
    have hvx : ∃ v : D3, ok3 v ∧ σ4.1 30 ((r * 27 + 0) * 2 + (if s = ST then 0 else 1)) = nI (eD v) ∧ tE v = ex p 61 (r + 1) s P := by
      have hb := hD r hrn 0 (Nat.pow_pos (by decide))
      unfold DB at hb
      rw [hr0] at hb
      rcases hv with e | e
      · obtain ⟨v, v1, v2, v3⟩ := hb.1
        exact ⟨v, v1, by rw [if_pos e]; exact v2, by rw [e]; exact v3 hSE⟩
      · obtain ⟨v, v1, v2, v3⟩ := hb.2 e
        exact ⟨v, v1, by rw [if_neg (fun z => by rw [z, lv_ST hW (by omega)] at e; cases e)]; exact v2, v3 hSE⟩
    obtain ⟨v, okv, hv1, hv2⟩ := hvx
    show am_G _ M_X10_settles _ 135 [some (.ref 0), some (.int (nI j)), some (.int (nI s)), some (.int (nI u)), some (.int (nI 0)), none, none] [] σ4
    refine am_run 6 (pc' := 147) (ls' := [some (.ref 0), some (.int (nI j)), some (.int (nI s)), some (.int (nI u)), some (.int (nI 0)), none, none]) (st' := [.int (σ4.1 0 38), .ref 4, .ref 30]) (σ' := σ4) rfl ?_
    refine am_top (v' := nI j) i38 ?_
    refine am_ialdN (n := 3) (v := nI r) rfl rfl rfl (by omega) hM4.2.1.1 (by decide) ?_
    refine am_run 3 (pc' := 153) (ls' := [some (.ref 0), some (.int (nI j)), some (.int (nI s)), some (.int (nI u)), some (.int (nI 0)), none, none]) (st' := [.int (σ4.1 0 39), .int (nI 0), .int (nI r), .ref 30]) (σ' := σ4) rfl ?_
    refine am_top (v' := nI s) i39 ?_
    refine am_run 1 (pc' := 155) (ls' := [some (.ref 0), some (.int (nI j)), some (.int (nI s)), some (.int (nI u)), some (.int (nI 0)), none, none]) (st' := [.int (nI 1048576), .int (nI s), .int (nI 0), .int (nI r), .ref 30]) (σ' := σ4) rfl ?_
    refine am_ic (ty := 158) (tn := 162) rfl (by decide) rfl rfl (fun (h_2 : nI s = nI 1048576) => ?_) (fun (h_2 : ¬ (nI s = nI 1048576)) => ?_)
    · have h_2 : s = 1048576 := (nI_eq (by omega) (by omega)).mp h_2
      refine am_run 2 (pc' := 163) (ls' := [some (.ref 0), some (.int (nI j)), some (.int (nI s)), some (.int (nI u)), some (.int (nI 0)), none, none]) (st' := [.int (nI 0), .int (nI 0), .int (nI r), .ref 30]) (σ' := σ4) rfl ?_
      refine am_invs (y := 214) (as := [.int (nI r), .int (nI 0), .int (nI 0)]) (rest := [.ref 30]) rfl rfl rfl rfl rfl rfl (Nat.le_of_ble_eq_true rfl) ?_
      refine c_m_doneOf (by omega) ?_
      show am_G _ M_X10_settles _ 166 [some (.ref 0), some (.int (nI j)), some (.int (nI s)), some (.int (nI u)), some (.int (nI 0)), none, none] [.int (nI ((r * 27 + 0) * 2 + 0)), .ref 30] σ4
      refine am_ialdN (n := 3241) (v := nI (eD v)) rfl rfl rfl (by omega) (by rw [if_pos (by assumption)] at hv1; exact hv1) (by decide) ?_
      refine am_run 3 (pc' := 172) (ls' := [some (.ref 0), some (.int (nI j)), some (.int (nI s)), some (.int (nI u)), some (.int (nI 0)), some (.int (nI (eD v))), some (.int (nI 0))]) (st' := []) (σ' := σ4) rfl ?_
      refine c_settles_or (by omega) hP hu hsb iI (fun σ5 q1 q2 q3 q42 => ?_) 8 0 σ4 rfl (fun _ _ => rfl) (fun _ _ => rfl) rfl (by rw [i42, Nat.pow_zero, Nat.mod_one, Nat.or_zero])
      obtain ⟨v1, v2, v3⟩ := id okv
      refine am_run 2 (pc' := 216) (ls' := [some (.ref 0), some (.int (nI j)), some (.int (nI s)), some (.int (nI u)), some (.int (nI 0)), some (.int (nI (eD v))), some (.int (nI 8))]) (st' := [.int (nI (eD v)), .ref 0]) (σ' := σ5) rfl ?_
      refine am_invs (y := 217) (as := [.int (nI (eD v))]) (rest := [.ref 0]) rfl rfl rfl rfl rfl rfl (Nat.le_of_ble_eq_true rfl) ?_
      refine c_m_isBad (by omega) (v := v) okv (fun hb => ?_) (fun hb => ?_)
      · show am_G _ M_X10_settles _ 219 [some (.ref 0), some (.int (nI j)), some (.int (nI s)), some (.int (nI u)), some (.int (nI 0)), some (.int (nI (eD v))), some (.int (nI 8))] [.int (nI 1), .ref 0] σ5
        refine am_if (ty := 228) (tn := 222) rfl (by decide) rfl rfl (fun (h_51 : nI 1 = 0) => ?_) (fun (h_51 : ¬ (nI 1 = 0)) => ?_)
        · exact absurd h_51 (by decide)
        refine am_run 5 (pc' := 235) (ls' := [some (.ref 0), some (.int (nI j)), some (.int (nI s)), some (.int (nI u)), some (.int (nI 0)), some (.int (nI (eD v))), some (.int (nI 8))]) (st' := [.int (nI (eD v)), .ref 0]) (σ' := (am_wr σ5 0 41 (nI 256))) rfl ?_
        refine am_invs (y := 216) (as := [.int (nI (eD v))]) (rest := [.ref 0]) rfl rfl rfl rfl rfl rfl (Nat.le_of_ble_eq_true rfl) ?_
        refine c_m_codeOf (by omega) (v := v) okv ?_
        show am_G _ M_X10_settles _ 238 [some (.ref 0), some (.int (nI j)), some (.int (nI s)), some (.int (nI u)), some (.int (nI 0)), some (.int (nI (eD v))), some (.int (nI 8))] [.int (nI v.1), .ref 0] (am_wr σ5 0 41 (nI 256))
        refine am_run 5 (pc' := 247) (ls' := [some (.ref 0), some (.int (nI j)), some (.int (nI s)), some (.int (nI u)), some (.int (nI 0)), some (.int (nI (eD v))), some (.int (nI 8))]) (st' := [.int (nI 1), .int (nI v.1), .ref 0]) (σ' := (am_wr (am_wr σ5 0 41 (nI 256)) 0 43 (nI v.1))) rfl ?_
        refine am_ic (ty := 250) (tn := 258) rfl (by decide) rfl rfl (fun (h_52 : nI v.1 = nI 1) => ?_) (fun (h_52 : ¬ (nI v.1 = nI 1)) => ?_)
        · have h_52 : v.1 = 1 := (nI_eq (by omega) (by omega)).mp h_52
          refine am_run 1 (pc' := 252) (ls' := [some (.ref 0), some (.int (nI j)), some (.int (nI s)), some (.int (nI u)), some (.int (nI 0)), some (.int (nI (eD v))), some (.int (nI 8))]) (st' := [.int (nI (eD v)), .ref 0]) (σ' := (am_wr (am_wr σ5 0 41 (nI 256)) 0 43 (nI v.1))) rfl ?_
          refine am_invs (y := 218) (as := [.int (nI (eD v))]) (rest := [.ref 0]) rfl rfl rfl rfl rfl rfl (Nat.le_of_ble_eq_true rfl) ?_
          refine c_m_restsOf (by omega) (v := v) okv ?_
          show am_G _ M_X10_settles _ 255 [some (.ref 0), some (.int (nI j)), some (.int (nI s)), some (.int (nI u)), some (.int (nI 0)), some (.int (nI (eD v))), some (.int (nI 8))] [.int (nI v.2.2), .ref 0] (am_wr (am_wr σ5 0 41 (nI 256)) 0 43 (nI v.1))
          refine am_run 4 (pc' := 266) (ls' := [some (.ref 0), some (.int (nI j)), some (.int (nI s)), some (.int (nI u)), some (.int (nI 0)), some (.int (nI (eD v))), some (.int (nI 8))]) (st' := [.int (nI 256)]) (σ' := (am_wr (am_wr (am_wr σ5 0 41 (nI 256)) 0 43 (nI v.1)) 0 44 (nI v.2.2))) rfl ?_
          refine am_if (ty := 269) (tn := 273) rfl (by decide) rfl rfl (fun (h_53 : nI 256 = 0) => ?_) (fun (h_53 : ¬ (nI 256 = 0)) => ?_)
          · exact absurd h_53 (by decide)
          refine am_run 1 (pc' := 274) (ls' := [some (.ref 0), some (.int (nI j)), some (.int (nI s)), some (.int (nI u)), some (.int (nI 0)), some (.int (nI (eD v))), some (.int (nI 8))]) (st' := [.int (nI 0)]) (σ' := (am_wr (am_wr (am_wr σ5 0 41 (nI 256)) 0 43 (nI v.1)) 0 44 (nI v.2.2))) rfl ?_
          refine am_retz rfl rfl (by decide) ?_
          have hS5 : KS σ (am_wr (am_wr (am_wr σ5 0 41 (nI 256)) 0 43 (nI v.1)) 0 44 (nI v.2.2)) := (((hS4.tr (KS.of42 q1 q2 q3)).w0 (by decide) _).w0 (by decide) _).w0 (by decide) _
          have ez : oc p (r + 1) s u = (P, A, 256, 0, 0, k) := by unfold oc; rw [if_neg hs0, hz, if_pos (by assumption), ← hv2, show tE v = none from if_pos hb]
          rw [ez] at hq
          exact hq _ ⟨hS5, by rw [am_diff _ _ _ _ _ (by decide), am_diff _ _ _ _ _ (by decide), am_diff _ _ _ _ _ (by decide), q2 38 (by decide)]; exact i38, by rw [am_diff _ _ _ _ _ (by decide), am_diff _ _ _ _ _ (by decide), am_diff _ _ _ _ _ (by decide), q2 39 (by decide)]; exact i39, by rw [am_diff _ _ _ _ _ (by decide), am_diff _ _ _ _ _ (by decide), am_diff _ _ _ _ _ (by decide), q2 40 (by decide)]; exact i40, by rw [am_diff _ _ _ _ _ (by decide), am_diff _ _ _ _ _ (by decide), am_same], fun z => absurd (show (256 : Nat) = 0 from z) (by decide), fun g hg => by rw [am_wr_ne _ (by decide), am_wr_ne _ (by decide), am_wr_ne _ (by decide), q1 29 (by decide)]; exact iI g hg⟩
        · have h_52 : ¬ (v.1 = 1) := fun z => h_52 ((nI_eq (by omega) (by omega)).mpr z)
          refine am_run 4 (pc' := 266) (ls' := [some (.ref 0), some (.int (nI j)), some (.int (nI s)), some (.int (nI u)), some (.int (nI 0)), some (.int (nI (eD v))), some (.int (nI 8))]) (st' := [.int (nI 256)]) (σ' := (am_wr (am_wr (am_wr σ5 0 41 (nI 256)) 0 43 (nI v.1)) 0 44 (nI 0))) rfl ?_
          refine am_if (ty := 269) (tn := 273) rfl (by decide) rfl rfl (fun (h_54 : nI 256 = 0) => ?_) (fun (h_54 : ¬ (nI 256 = 0)) => ?_)
          · exact absurd h_54 (by decide)
          refine am_run 1 (pc' := 274) (ls' := [some (.ref 0), some (.int (nI j)), some (.int (nI s)), some (.int (nI u)), some (.int (nI 0)), some (.int (nI (eD v))), some (.int (nI 8))]) (st' := [.int (nI 0)]) (σ' := (am_wr (am_wr (am_wr σ5 0 41 (nI 256)) 0 43 (nI v.1)) 0 44 (nI 0))) rfl ?_
          refine am_retz rfl rfl (by decide) ?_
          have hS5 : KS σ (am_wr (am_wr (am_wr σ5 0 41 (nI 256)) 0 43 (nI v.1)) 0 44 (nI 0)) := (((hS4.tr (KS.of42 q1 q2 q3)).w0 (by decide) _).w0 (by decide) _).w0 (by decide) _
          have ez : oc p (r + 1) s u = (P, A, 256, 0, 0, k) := by unfold oc; rw [if_neg hs0, hz, if_pos (by assumption), ← hv2, show tE v = none from if_pos hb]
          rw [ez] at hq
          exact hq _ ⟨hS5, by rw [am_diff _ _ _ _ _ (by decide), am_diff _ _ _ _ _ (by decide), am_diff _ _ _ _ _ (by decide), q2 38 (by decide)]; exact i38, by rw [am_diff _ _ _ _ _ (by decide), am_diff _ _ _ _ _ (by decide), am_diff _ _ _ _ _ (by decide), q2 39 (by decide)]; exact i39, by rw [am_diff _ _ _ _ _ (by decide), am_diff _ _ _ _ _ (by decide), am_diff _ _ _ _ _ (by decide), q2 40 (by decide)]; exact i40, by rw [am_diff _ _ _ _ _ (by decide), am_diff _ _ _ _ _ (by decide), am_same], fun z => absurd (show (256 : Nat) = 0 from z) (by decide), fun g hg => by rw [am_wr_ne _ (by decide), am_wr_ne _ (by decide), am_wr_ne _ (by decide), q1 29 (by decide)]; exact iI g hg⟩
      · show am_G _ M_X10_settles _ 219 [some (.ref 0), some (.int (nI j)), some (.int (nI s)), some (.int (nI u)), some (.int (nI 0)), some (.int (nI (eD v))), some (.int (nI 8))] [.int (nI 0), .ref 0] σ5
        refine am_if (ty := 228) (tn := 222) rfl (by decide) rfl rfl (fun (h_55 : nI 0 = 0) => ?_) (fun (h_55 : ¬ (nI 0 = 0)) => ?_)
        rotate_left
        · exact absurd (by decide) h_55
        refine am_run 4 (pc' := 235) (ls' := [some (.ref 0), some (.int (nI j)), some (.int (nI s)), some (.int (nI u)), some (.int (nI 0)), some (.int (nI (eD v))), some (.int (nI 8))]) (st' := [.int (nI (eD v)), .ref 0]) (σ' := (am_wr σ5 0 41 (nI 0))) rfl ?_
        refine am_invs (y := 216) (as := [.int (nI (eD v))]) (rest := [.ref 0]) rfl rfl rfl rfl rfl rfl (Nat.le_of_ble_eq_true rfl) ?_
        refine c_m_codeOf (by omega) (v := v) okv ?_
        show am_G _ M_X10_settles _ 238 [some (.ref 0), some (.int (nI j)), some (.int (nI s)), some (.int (nI u)), some (.int (nI 0)), some (.int (nI (eD v))), some (.int (nI 8))] [.int (nI v.1), .ref 0] (am_wr σ5 0 41 (nI 0))
        refine am_run 5 (pc' := 247) (ls' := [some (.ref 0), some (.int (nI j)), some (.int (nI s)), some (.int (nI u)), some (.int (nI 0)), some (.int (nI (eD v))), some (.int (nI 8))]) (st' := [.int (nI 1), .int (nI v.1), .ref 0]) (σ' := (am_wr (am_wr σ5 0 41 (nI 0)) 0 43 (nI v.1))) rfl ?_
        refine am_ic (ty := 250) (tn := 258) rfl (by decide) rfl rfl (fun (h_56 : nI v.1 = nI 1) => ?_) (fun (h_56 : ¬ (nI v.1 = nI 1)) => ?_)
        · have h_56 : v.1 = 1 := (nI_eq (by omega) (by omega)).mp h_56
          refine am_run 1 (pc' := 252) (ls' := [some (.ref 0), some (.int (nI j)), some (.int (nI s)), some (.int (nI u)), some (.int (nI 0)), some (.int (nI (eD v))), some (.int (nI 8))]) (st' := [.int (nI (eD v)), .ref 0]) (σ' := (am_wr (am_wr σ5 0 41 (nI 0)) 0 43 (nI v.1))) rfl ?_
          refine am_invs (y := 218) (as := [.int (nI (eD v))]) (rest := [.ref 0]) rfl rfl rfl rfl rfl rfl (Nat.le_of_ble_eq_true rfl) ?_
          refine c_m_restsOf (by omega) (v := v) okv ?_
          show am_G _ M_X10_settles _ 255 [some (.ref 0), some (.int (nI j)), some (.int (nI s)), some (.int (nI u)), some (.int (nI 0)), some (.int (nI (eD v))), some (.int (nI 8))] [.int (nI v.2.2), .ref 0] (am_wr (am_wr σ5 0 41 (nI 0)) 0 43 (nI v.1))
          refine am_run 4 (pc' := 266) (ls' := [some (.ref 0), some (.int (nI j)), some (.int (nI s)), some (.int (nI u)), some (.int (nI 0)), some (.int (nI (eD v))), some (.int (nI 8))]) (st' := [.int (nI 0)]) (σ' := (am_wr (am_wr (am_wr σ5 0 41 (nI 0)) 0 43 (nI v.1)) 0 44 (nI v.2.2))) rfl ?_
          refine am_if (ty := 269) (tn := 273) rfl (by decide) rfl rfl (fun (h_57 : nI 0 = 0) => ?_) (fun (h_57 : ¬ (nI 0 = 0)) => ?_)
          rotate_left
          · exact absurd (by decide) h_57
          refine am_run 2 (pc' := 274) (ls' := [some (.ref 0), some (.int (nI j)), some (.int (nI s)), some (.int (nI u)), some (.int (nI 0)), some (.int (nI (eD v))), some (.int (nI 8))]) (st' := [.int (nI 1)]) (σ' := (am_wr (am_wr (am_wr σ5 0 41 (nI 0)) 0 43 (nI v.1)) 0 44 (nI v.2.2))) rfl ?_
          refine am_retz rfl rfl (by decide) ?_
          have hS5 : KS σ (am_wr (am_wr (am_wr σ5 0 41 (nI 0)) 0 43 (nI v.1)) 0 44 (nI v.2.2)) := (((hS4.tr (KS.of42 q1 q2 q3)).w0 (by decide) _).w0 (by decide) _).w0 (by decide) _
          have ez : oc p (r + 1) s u = (P, A, 0, v.1, v.2.2, k) := by unfold oc; rw [if_neg hs0, hz, if_pos (by assumption), ← hv2, show tE v = some (v.1, v.2.2) from if_neg (nfl hb)]
          rw [ez] at hq
          exact hq _ ⟨hS5, by rw [am_diff _ _ _ _ _ (by decide), am_diff _ _ _ _ _ (by decide), am_diff _ _ _ _ _ (by decide), q2 38 (by decide)]; exact i38, by rw [am_diff _ _ _ _ _ (by decide), am_diff _ _ _ _ _ (by decide), am_diff _ _ _ _ _ (by decide), q2 39 (by decide)]; exact i39, by rw [am_diff _ _ _ _ _ (by decide), am_diff _ _ _ _ _ (by decide), am_diff _ _ _ _ _ (by decide), q2 40 (by decide)]; exact i40, by rw [am_diff _ _ _ _ _ (by decide), am_diff _ _ _ _ _ (by decide), am_same], fun _ => ⟨by rw [am_diff _ _ _ _ _ (by decide), am_diff _ _ _ _ _ (by decide), am_diff _ _ _ _ _ (by decide)]; exact q42, by rw [am_diff _ _ _ _ _ (by decide), am_same], by rw [am_same]⟩, fun g hg => by rw [am_wr_ne _ (by decide), am_wr_ne _ (by decide), am_wr_ne _ (by decide), q1 29 (by decide)]; exact iI g hg⟩
        · have h_56 : ¬ (v.1 = 1) := fun z => h_56 ((nI_eq (by omega) (by omega)).mpr z)
          refine am_run 4 (pc' := 266) (ls' := [some (.ref 0), some (.int (nI j)), some (.int (nI s)), some (.int (nI u)), some (.int (nI 0)), some (.int (nI (eD v))), some (.int (nI 8))]) (st' := [.int (nI 0)]) (σ' := (am_wr (am_wr (am_wr σ5 0 41 (nI 0)) 0 43 (nI v.1)) 0 44 (nI 0))) rfl ?_
          refine am_if (ty := 269) (tn := 273) rfl (by decide) rfl rfl (fun (h_58 : nI 0 = 0) => ?_) (fun (h_58 : ¬ (nI 0 = 0)) => ?_)
          rotate_left
          · exact absurd (by decide) h_58
          refine am_run 2 (pc' := 274) (ls' := [some (.ref 0), some (.int (nI j)), some (.int (nI s)), some (.int (nI u)), some (.int (nI 0)), some (.int (nI (eD v))), some (.int (nI 8))]) (st' := [.int (nI 1)]) (σ' := (am_wr (am_wr (am_wr σ5 0 41 (nI 0)) 0 43 (nI v.1)) 0 44 (nI 0))) rfl ?_
          refine am_retz rfl rfl (by decide) ?_
          have hS5 : KS σ (am_wr (am_wr (am_wr σ5 0 41 (nI 0)) 0 43 (nI v.1)) 0 44 (nI 0)) := (((hS4.tr (KS.of42 q1 q2 q3)).w0 (by decide) _).w0 (by decide) _).w0 (by decide) _
          have ez : oc p (r + 1) s u = (P, A, 0, v.1, v.2.2, k) := by unfold oc; rw [if_neg hs0, hz, if_pos (by assumption), ← hv2, show tE v = some (v.1, v.2.2) from if_neg (nfl hb)]
          rw [ez] at hq
          exact hq _ ⟨hS5, by rw [am_diff _ _ _ _ _ (by decide), am_diff _ _ _ _ _ (by decide), am_diff _ _ _ _ _ (by decide), q2 38 (by decide)]; exact i38, by rw [am_diff _ _ _ _ _ (by decide), am_diff _ _ _ _ _ (by decide), am_diff _ _ _ _ _ (by decide), q2 39 (by decide)]; exact i39, by rw [am_diff _ _ _ _ _ (by decide), am_diff _ _ _ _ _ (by decide), am_diff _ _ _ _ _ (by decide), q2 40 (by decide)]; exact i40, by rw [am_diff _ _ _ _ _ (by decide), am_diff _ _ _ _ _ (by decide), am_same], fun _ => ⟨by rw [am_diff _ _ _ _ _ (by decide), am_diff _ _ _ _ _ (by decide), am_diff _ _ _ _ _ (by decide)]; exact q42, by rw [am_diff _ _ _ _ _ (by decide), am_same], by rw [am_same, okv.2.2.resolve_left (by assumption)]⟩, fun g hg => by rw [am_wr_ne _ (by decide), am_wr_ne _ (by decide), am_wr_ne _ (by decide), q1 29 (by decide)]; exact iI g hg⟩
    · have h_2 : ¬ (s = 1048576) := fun z => h_2 ((nI_eq (by omega) (by omega)).mpr z)
      refine am_run 1 (pc' := 163) (ls' := [some (.ref 0), some (.int (nI j)), some (.int (nI s)), some (.int (nI u)), some (.int (nI 0)), none, none]) (st' := [.int (nI 1), .int (nI 0), .int (nI r), .ref 30]) (σ' := σ4) rfl ?_
      refine am_invs (y := 214) (as := [.int (nI r), .int (nI 0), .int (nI 1)]) (rest := [.ref 30]) rfl rfl rfl rfl rfl rfl (Nat.le_of_ble_eq_true rfl) ?_
      refine c_m_doneOf (by omega) ?_
      show am_G _ M_X10_settles _ 166 [some (.ref 0), some (.int (nI j)), some (.int (nI s)), some (.int (nI u)), some (.int (nI 0)), none, none] [.int (nI ((r * 27 + 0) * 2 + 1)), .ref 30] σ4
      refine am_ialdN (n := 3241) (v := nI (eD v)) rfl rfl rfl (by omega) (by rw [if_neg (by assumption)] at hv1; exact hv1) (by decide) ?_
      refine am_run 3 (pc' := 172) (ls' := [some (.ref 0), some (.int (nI j)), some (.int (nI s)), some (.int (nI u)), some (.int (nI 0)), some (.int (nI (eD v))), some (.int (nI 0))]) (st' := []) (σ' := σ4) rfl ?_
      refine c_settles_or (by omega) hP hu hsb iI (fun σ5 q1 q2 q3 q42 => ?_) 8 0 σ4 rfl (fun _ _ => rfl) (fun _ _ => rfl) rfl (by rw [i42, Nat.pow_zero, Nat.mod_one, Nat.or_zero])
      obtain ⟨v1, v2, v3⟩ := id okv
      refine am_run 2 (pc' := 216) (ls' := [some (.ref 0), some (.int (nI j)), some (.int (nI s)), some (.int (nI u)), some (.int (nI 0)), some (.int (nI (eD v))), some (.int (nI 8))]) (st' := [.int (nI (eD v)), .ref 0]) (σ' := σ5) rfl ?_
      refine am_invs (y := 217) (as := [.int (nI (eD v))]) (rest := [.ref 0]) rfl rfl rfl rfl rfl rfl (Nat.le_of_ble_eq_true rfl) ?_
      refine c_m_isBad (by omega) (v := v) okv (fun hb => ?_) (fun hb => ?_)
      · show am_G _ M_X10_settles _ 219 [some (.ref 0), some (.int (nI j)), some (.int (nI s)), some (.int (nI u)), some (.int (nI 0)), some (.int (nI (eD v))), some (.int (nI 8))] [.int (nI 1), .ref 0] σ5
        refine am_if (ty := 228) (tn := 222) rfl (by decide) rfl rfl (fun (h_51 : nI 1 = 0) => ?_) (fun (h_51 : ¬ (nI 1 = 0)) => ?_)
        · exact absurd h_51 (by decide)
        refine am_run 5 (pc' := 235) (ls' := [some (.ref 0), some (.int (nI j)), some (.int (nI s)), some (.int (nI u)), some (.int (nI 0)), some (.int (nI (eD v))), some (.int (nI 8))]) (st' := [.int (nI (eD v)), .ref 0]) (σ' := (am_wr σ5 0 41 (nI 256))) rfl ?_
        refine am_invs (y := 216) (as := [.int (nI (eD v))]) (rest := [.ref 0]) rfl rfl rfl rfl rfl rfl (Nat.le_of_ble_eq_true rfl) ?_
        refine c_m_codeOf (by omega) (v := v) okv ?_
        show am_G _ M_X10_settles _ 238 [some (.ref 0), some (.int (nI j)), some (.int (nI s)), some (.int (nI u)), some (.int (nI 0)), some (.int (nI (eD v))), some (.int (nI 8))] [.int (nI v.1), .ref 0] (am_wr σ5 0 41 (nI 256))
        refine am_run 5 (pc' := 247) (ls' := [some (.ref 0), some (.int (nI j)), some (.int (nI s)), some (.int (nI u)), some (.int (nI 0)), some (.int (nI (eD v))), some (.int (nI 8))]) (st' := [.int (nI 1), .int (nI v.1), .ref 0]) (σ' := (am_wr (am_wr σ5 0 41 (nI 256)) 0 43 (nI v.1))) rfl ?_
        refine am_ic (ty := 250) (tn := 258) rfl (by decide) rfl rfl (fun (h_52 : nI v.1 = nI 1) => ?_) (fun (h_52 : ¬ (nI v.1 = nI 1)) => ?_)
        · have h_52 : v.1 = 1 := (nI_eq (by omega) (by omega)).mp h_52
          refine am_run 1 (pc' := 252) (ls' := [some (.ref 0), some (.int (nI j)), some (.int (nI s)), some (.int (nI u)), some (.int (nI 0)), some (.int (nI (eD v))), some (.int (nI 8))]) (st' := [.int (nI (eD v)), .ref 0]) (σ' := (am_wr (am_wr σ5 0 41 (nI 256)) 0 43 (nI v.1))) rfl ?_
          refine am_invs (y := 218) (as := [.int (nI (eD v))]) (rest := [.ref 0]) rfl rfl rfl rfl rfl rfl (Nat.le_of_ble_eq_true rfl) ?_
          refine c_m_restsOf (by omega) (v := v) okv ?_
          show am_G _ M_X10_settles _ 255 [some (.ref 0), some (.int (nI j)), some (.int (nI s)), some (.int (nI u)), some (.int (nI 0)), some (.int (nI (eD v))), some (.int (nI 8))] [.int (nI v.2.2), .ref 0] (am_wr (am_wr σ5 0 41 (nI 256)) 0 43 (nI v.1))
          refine am_run 4 (pc' := 266) (ls' := [some (.ref 0), some (.int (nI j)), some (.int (nI s)), some (.int (nI u)), some (.int (nI 0)), some (.int (nI (eD v))), some (.int (nI 8))]) (st' := [.int (nI 256)]) (σ' := (am_wr (am_wr (am_wr σ5 0 41 (nI 256)) 0 43 (nI v.1)) 0 44 (nI v.2.2))) rfl ?_
          refine am_if (ty := 269) (tn := 273) rfl (by decide) rfl rfl (fun (h_53 : nI 256 = 0) => ?_) (fun (h_53 : ¬ (nI 256 = 0)) => ?_)
          · exact absurd h_53 (by decide)
          refine am_run 1 (pc' := 274) (ls' := [some (.ref 0), some (.int (nI j)), some (.int (nI s)), some (.int (nI u)), some (.int (nI 0)), some (.int (nI (eD v))), some (.int (nI 8))]) (st' := [.int (nI 0)]) (σ' := (am_wr (am_wr (am_wr σ5 0 41 (nI 256)) 0 43 (nI v.1)) 0 44 (nI v.2.2))) rfl ?_
          refine am_retz rfl rfl (by decide) ?_
          have hS5 : KS σ (am_wr (am_wr (am_wr σ5 0 41 (nI 256)) 0 43 (nI v.1)) 0 44 (nI v.2.2)) := (((hS4.tr (KS.of42 q1 q2 q3)).w0 (by decide) _).w0 (by decide) _).w0 (by decide) _
          have ez : oc p (r + 1) s u = (P, A, 256, 0, 0, k) := by unfold oc; rw [if_neg hs0, hz, if_pos (by assumption), ← hv2, show tE v = none from if_pos hb]
          rw [ez] at hq
          exact hq _ ⟨hS5, by rw [am_diff _ _ _ _ _ (by decide), am_diff _ _ _ _ _ (by decide), am_diff _ _ _ _ _ (by decide), q2 38 (by decide)]; exact i38, by rw [am_diff _ _ _ _ _ (by decide), am_diff _ _ _ _ _ (by decide), am_diff _ _ _ _ _ (by decide), q2 39 (by decide)]; exact i39, by rw [am_diff _ _ _ _ _ (by decide), am_diff _ _ _ _ _ (by decide), am_diff _ _ _ _ _ (by decide), q2 40 (by decide)]; exact i40, by rw [am_diff _ _ _ _ _ (by decide), am_diff _ _ _ _ _ (by decide), am_same], fun z => absurd (show (256 : Nat) = 0 from z) (by decide), fun g hg => by rw [am_wr_ne _ (by decide), am_wr_ne _ (by decide), am_wr_ne _ (by decide), q1 29 (by decide)]; exact iI g hg⟩
        · have h_52 : ¬ (v.1 = 1) := fun z => h_52 ((nI_eq (by omega) (by omega)).mpr z)
          refine am_run 4 (pc' := 266) (ls' := [some (.ref 0), some (.int (nI j)), some (.int (nI s)), some (.int (nI u)), some (.int (nI 0)), some (.int (nI (eD v))), some (.int (nI 8))]) (st' := [.int (nI 256)]) (σ' := (am_wr (am_wr (am_wr σ5 0 41 (nI 256)) 0 43 (nI v.1)) 0 44 (nI 0))) rfl ?_
          refine am_if (ty := 269) (tn := 273) rfl (by decide) rfl rfl (fun (h_54 : nI 256 = 0) => ?_) (fun (h_54 : ¬ (nI 256 = 0)) => ?_)
          · exact absurd h_54 (by decide)
          refine am_run 1 (pc' := 274) (ls' := [some (.ref 0), some (.int (nI j)), some (.int (nI s)), some (.int (nI u)), some (.int (nI 0)), some (.int (nI (eD v))), some (.int (nI 8))]) (st' := [.int (nI 0)]) (σ' := (am_wr (am_wr (am_wr σ5 0 41 (nI 256)) 0 43 (nI v.1)) 0 44 (nI 0))) rfl ?_
          refine am_retz rfl rfl (by decide) ?_
          have hS5 : KS σ (am_wr (am_wr (am_wr σ5 0 41 (nI 256)) 0 43 (nI v.1)) 0 44 (nI 0)) := (((hS4.tr (KS.of42 q1 q2 q3)).w0 (by decide) _).w0 (by decide) _).w0 (by decide) _
          have ez : oc p (r + 1) s u = (P, A, 256, 0, 0, k) := by unfold oc; rw [if_neg hs0, hz, if_pos (by assumption), ← hv2, show tE v = none from if_pos hb]
          rw [ez] at hq
          exact hq _ ⟨hS5, by rw [am_diff _ _ _ _ _ (by decide), am_diff _ _ _ _ _ (by decide), am_diff _ _ _ _ _ (by decide), q2 38 (by decide)]; exact i38, by rw [am_diff _ _ _ _ _ (by decide), am_diff _ _ _ _ _ (by decide), am_diff _ _ _ _ _ (by decide), q2 39 (by decide)]; exact i39, by rw [am_diff _ _ _ _ _ (by decide), am_diff _ _ _ _ _ (by decide), am_diff _ _ _ _ _ (by decide), q2 40 (by decide)]; exact i40, by rw [am_diff _ _ _ _ _ (by decide), am_diff _ _ _ _ _ (by decide), am_same], fun z => absurd (show (256 : Nat) = 0 from z) (by decide), fun g hg => by rw [am_wr_ne _ (by decide), am_wr_ne _ (by decide), am_wr_ne _ (by decide), q1 29 (by decide)]; exact iI g hg⟩
      · show am_G _ M_X10_settles _ 219 [some (.ref 0), some (.int (nI j)), some (.int (nI s)), some (.int (nI u)), some (.int (nI 0)), some (.int (nI (eD v))), some (.int (nI 8))] [.int (nI 0), .ref 0] σ5
        refine am_if (ty := 228) (tn := 222) rfl (by decide) rfl rfl (fun (h_55 : nI 0 = 0) => ?_) (fun (h_55 : ¬ (nI 0 = 0)) => ?_)
        rotate_left
        · exact absurd (by decide) h_55
        refine am_run 4 (pc' := 235) (ls' := [some (.ref 0), some (.int (nI j)), some (.int (nI s)), some (.int (nI u)), some (.int (nI 0)), some (.int (nI (eD v))), some (.int (nI 8))]) (st' := [.int (nI (eD v)), .ref 0]) (σ' := (am_wr σ5 0 41 (nI 0))) rfl ?_
        refine am_invs (y := 216) (as := [.int (nI (eD v))]) (rest := [.ref 0]) rfl rfl rfl rfl rfl rfl (Nat.le_of_ble_eq_true rfl) ?_
        refine c_m_codeOf (by omega) (v := v) okv ?_
        show am_G _ M_X10_settles _ 238 [some (.ref 0), some (.int (nI j)), some (.int (nI s)), some (.int (nI u)), some (.int (nI 0)), some (.int (nI (eD v))), some (.int (nI 8))] [.int (nI v.1), .ref 0] (am_wr σ5 0 41 (nI 0))
        refine am_run 5 (pc' := 247) (ls' := [some (.ref 0), some (.int (nI j)), some (.int (nI s)), some (.int (nI u)), some (.int (nI 0)), some (.int (nI (eD v))), some (.int (nI 8))]) (st' := [.int (nI 1), .int (nI v.1), .ref 0]) (σ' := (am_wr (am_wr σ5 0 41 (nI 0)) 0 43 (nI v.1))) rfl ?_
        refine am_ic (ty := 250) (tn := 258) rfl (by decide) rfl rfl (fun (h_56 : nI v.1 = nI 1) => ?_) (fun (h_56 : ¬ (nI v.1 = nI 1)) => ?_)
        · have h_56 : v.1 = 1 := (nI_eq (by omega) (by omega)).mp h_56
          refine am_run 1 (pc' := 252) (ls' := [some (.ref 0), some (.int (nI j)), some (.int (nI s)), some (.int (nI u)), some (.int (nI 0)), some (.int (nI (eD v))), some (.int (nI 8))]) (st' := [.int (nI (eD v)), .ref 0]) (σ' := (am_wr (am_wr σ5 0 41 (nI 0)) 0 43 (nI v.1))) rfl ?_
          refine am_invs (y := 218) (as := [.int (nI (eD v))]) (rest := [.ref 0]) rfl rfl rfl rfl rfl rfl (Nat.le_of_ble_eq_true rfl) ?_
          refine c_m_restsOf (by omega) (v := v) okv ?_
          show am_G _ M_X10_settles _ 255 [some (.ref 0), some (.int (nI j)), some (.int (nI s)), some (.int (nI u)), some (.int (nI 0)), some (.int (nI (eD v))), some (.int (nI 8))] [.int (nI v.2.2), .ref 0] (am_wr (am_wr σ5 0 41 (nI 0)) 0 43 (nI v.1))
          refine am_run 4 (pc' := 266) (ls' := [some (.ref 0), some (.int (nI j)), some (.int (nI s)), some (.int (nI u)), some (.int (nI 0)), some (.int (nI (eD v))), some (.int (nI 8))]) (st' := [.int (nI 0)]) (σ' := (am_wr (am_wr (am_wr σ5 0 41 (nI 0)) 0 43 (nI v.1)) 0 44 (nI v.2.2))) rfl ?_
          refine am_if (ty := 269) (tn := 273) rfl (by decide) rfl rfl (fun (h_57 : nI 0 = 0) => ?_) (fun (h_57 : ¬ (nI 0 = 0)) => ?_)
          rotate_left
          · exact absurd (by decide) h_57
          refine am_run 2 (pc' := 274) (ls' := [some (.ref 0), some (.int (nI j)), some (.int (nI s)), some (.int (nI u)), some (.int (nI 0)), some (.int (nI (eD v))), some (.int (nI 8))]) (st' := [.int (nI 1)]) (σ' := (am_wr (am_wr (am_wr σ5 0 41 (nI 0)) 0 43 (nI v.1)) 0 44 (nI v.2.2))) rfl ?_
          refine am_retz rfl rfl (by decide) ?_
          have hS5 : KS σ (am_wr (am_wr (am_wr σ5 0 41 (nI 0)) 0 43 (nI v.1)) 0 44 (nI v.2.2)) := (((hS4.tr (KS.of42 q1 q2 q3)).w0 (by decide) _).w0 (by decide) _).w0 (by decide) _
          have ez : oc p (r + 1) s u = (P, A, 0, v.1, v.2.2, k) := by unfold oc; rw [if_neg hs0, hz, if_pos (by assumption), ← hv2, show tE v = some (v.1, v.2.2) from if_neg (nfl hb)]
          rw [ez] at hq
          exact hq _ ⟨hS5, by rw [am_diff _ _ _ _ _ (by decide), am_diff _ _ _ _ _ (by decide), am_diff _ _ _ _ _ (by decide), q2 38 (by decide)]; exact i38, by rw [am_diff _ _ _ _ _ (by decide), am_diff _ _ _ _ _ (by decide), am_diff _ _ _ _ _ (by decide), q2 39 (by decide)]; exact i39, by rw [am_diff _ _ _ _ _ (by decide), am_diff _ _ _ _ _ (by decide), am_diff _ _ _ _ _ (by decide), q2 40 (by decide)]; exact i40, by rw [am_diff _ _ _ _ _ (by decide), am_diff _ _ _ _ _ (by decide), am_same], fun _ => ⟨by rw [am_diff _ _ _ _ _ (by decide), am_diff _ _ _ _ _ (by decide), am_diff _ _ _ _ _ (by decide)]; exact q42, by rw [am_diff _ _ _ _ _ (by decide), am_same], by rw [am_same]⟩, fun g hg => by rw [am_wr_ne _ (by decide), am_wr_ne _ (by decide), am_wr_ne _ (by decide), q1 29 (by decide)]; exact iI g hg⟩
        · have h_56 : ¬ (v.1 = 1) := fun z => h_56 ((nI_eq (by omega) (by omega)).mpr z)
          refine am_run 4 (pc' := 266) (ls' := [some (.ref 0), some (.int (nI j)), some (.int (nI s)), some (.int (nI u)), some (.int (nI 0)), some (.int (nI (eD v))), some (.int (nI 8))]) (st' := [.int (nI 0)]) (σ' := (am_wr (am_wr (am_wr σ5 0 41 (nI 0)) 0 43 (nI v.1)) 0 44 (nI 0))) rfl ?_
          refine am_if (ty := 269) (tn := 273) rfl (by decide) rfl rfl (fun (h_58 : nI 0 = 0) => ?_) (fun (h_58 : ¬ (nI 0 = 0)) => ?_)
          rotate_left
          · exact absurd (by decide) h_58
          refine am_run 2 (pc' := 274) (ls' := [some (.ref 0), some (.int (nI j)), some (.int (nI s)), some (.int (nI u)), some (.int (nI 0)), some (.int (nI (eD v))), some (.int (nI 8))]) (st' := [.int (nI 1)]) (σ' := (am_wr (am_wr (am_wr σ5 0 41 (nI 0)) 0 43 (nI v.1)) 0 44 (nI 0))) rfl ?_
          refine am_retz rfl rfl (by decide) ?_
          have hS5 : KS σ (am_wr (am_wr (am_wr σ5 0 41 (nI 0)) 0 43 (nI v.1)) 0 44 (nI 0)) := (((hS4.tr (KS.of42 q1 q2 q3)).w0 (by decide) _).w0 (by decide) _).w0 (by decide) _
          have ez : oc p (r + 1) s u = (P, A, 0, v.1, v.2.2, k) := by unfold oc; rw [if_neg hs0, hz, if_pos (by assumption), ← hv2, show tE v = some (v.1, v.2.2) from if_neg (nfl hb)]
          rw [ez] at hq
          exact hq _ ⟨hS5, by rw [am_diff _ _ _ _ _ (by decide), am_diff _ _ _ _ _ (by decide), am_diff _ _ _ _ _ (by decide), q2 38 (by decide)]; exact i38, by rw [am_diff _ _ _ _ _ (by decide), am_diff _ _ _ _ _ (by decide), am_diff _ _ _ _ _ (by decide), q2 39 (by decide)]; exact i39, by rw [am_diff _ _ _ _ _ (by decide), am_diff _ _ _ _ _ (by decide), am_diff _ _ _ _ _ (by decide), q2 40 (by decide)]; exact i40, by rw [am_diff _ _ _ _ _ (by decide), am_diff _ _ _ _ _ (by decide), am_same], fun _ => ⟨by rw [am_diff _ _ _ _ _ (by decide), am_diff _ _ _ _ _ (by decide), am_diff _ _ _ _ _ (by decide)]; exact q42, by rw [am_diff _ _ _ _ _ (by decide), am_same], by rw [am_same, okv.2.2.resolve_left (by assumption)]⟩, fun g hg => by rw [am_wr_ne _ (by decide), am_wr_ne _ (by decide), am_wr_ne _ (by decide), q1 29 (by decide)]; exact iI g hg⟩
  · have h_1 : ¬ (dn 255 (P ||| A) = 0) := fun z => h_1 ((am_n0 (by omega)).mpr z)
    refine am_run 1 (pc' := 130) (ls' := [some (.ref 0), some (.int (nI j)), some (.int (nI s)), some (.int (nI u)), some (.int (nI 0)), none, none]) (st' := [.int (nI 0)]) (σ' := (am_wr σ2 0 41 (nI (dn 255 (P ||| A))))) rfl ?_
    refine am_retz rfl rfl (by decide) ?_
    have hne : ¬ dn 255 (P ||| A) = 0 := by assumption
    have ez : oc p (r + 1) s u = (P, A, dn 255 (P ||| A), 0, 0, k) := by unfold oc; rw [if_neg hs0, hz, if_neg hne]
    rw [ez] at hq
    have := hq (am_wr σ2 0 41 (nI (dn 255 (P ||| A)))) ⟨hS.w0 (by decide) _, by rw [am_diff _ _ _ _ _ (by decide)]; exact h38, by rw [am_diff _ _ _ _ _ (by decide)]; exact h39, by rw [am_diff _ _ _ _ _ (by decide)]; exact h40, am_same _ _ _ _, fun z => absurd z hne, fun g hg => by rw [am_wr_ne _ (by decide)]; exact hI g hg⟩
    rw [show (if (P, A, dn 255 (P ||| A), 0, 0, k).2.2.1 = 0 then 1 else 0) = 0 from if_neg hne] at this
    exact this
set_option maxRecDepth 10000 in
set_option maxHeartbeats 2000000 in
theorem c_settles {d : Nat} (hd : 18 ≤ d) {σ : am_M} {j s u n r : Nat} {p : Pg} {rk od dp : Nat → Nat} {ow : Nat → Nat → Nat} (hM : MI σ j p n r rk od dp ow) (hs : s ≤ 1048576) (hv : s = 0 ∨ s = ST ∨ lv p (r + 1) s = true) (hu : u < 256) {Q : am_Q} (hq : ∀ σ', SP σ σ' j s (oc p (r + 1) s u) → Q (some (.int (nI (if (oc p (r + 1) s u).2.2.1 = 0 then 1 else 0)))) σ') : am_C d 229 [.ref 0, .int (nI j), .int (nI s), .int (nI u)] σ Q := by
  refine am_enter' (M := M_X10_settles) rfl rfl rfl (by omega) (ls := [some (.ref 0), some (.int (nI j)), some (.int (nI s)), some (.int (nI u)), none, none, none]) rfl (fun d' hd' => ?_)
  refine am_run 2 (pc' := 3) (ls' := [some (.ref 0), some (.int (nI j)), some (.int (nI s)), some (.int (nI u)), some (.int (nI 0)), none, none]) (st' := []) (σ' := σ) rfl ?_
  refine c_settles_init (by omega) hu (fun σ1 g1 g2 hI => ?_) 8 0 σ rfl (fun _ _ => rfl) rfl (fun g z => absurd z (Nat.not_lt_zero _))
  refine am_run 22 (pc' := 73) (ls' := [some (.ref 0), some (.int (nI j)), some (.int (nI s)), some (.int (nI u)), some (.int (nI 8)), none, none]) (st' := [.int (nI s)]) (σ' := (am_wr (am_wr (am_wr (am_wr (am_wr (am_wr (am_wr σ1 0 40 (nI 0)) 0 41 (nI 0)) 0 42 (nI u)) 0 43 (nI 0)) 0 44 (nI 0)) 0 38 (nI j)) 0 39 (nI s))) rfl ?_
  refine am_if (ty := 76) (tn := 78) rfl (by decide) rfl rfl (fun (h_51 : nI s = 0) => ?_) (fun (h_51 : ¬ (nI s = 0)) => ?_)
  · have h_51 : s = 0 := (am_n0 (by omega)).mp h_51
    refine am_run 1 (pc' := 77) (ls' := [some (.ref 0), some (.int (nI j)), some (.int (nI s)), some (.int (nI u)), some (.int (nI 8)), none, none]) (st' := [.int (nI 1)]) (σ' := (am_wr (am_wr (am_wr (am_wr (am_wr (am_wr (am_wr σ1 0 40 (nI 0)) 0 41 (nI 0)) 0 42 (nI u)) 0 43 (nI 0)) 0 44 (nI 0)) 0 38 (nI j)) 0 39 (nI s))) rfl ?_
    refine am_retz rfl rfl (by decide) ?_
    have ez : oc p (r + 1) s u = (u, 0, 0, 0, 0, 0) := if_pos (by assumption)
    rw [ez] at hq
    exact hq _ ⟨((((((((KS.of29 g1 g2).w0 (by decide) _).w0 (by decide) _).w0 (by decide) _).w0 (by decide) _).w0 (by decide) _).w0 (by decide) _).w0 (by decide) _), by rw [am_diff _ _ _ _ _ (by decide), am_same], by rw [am_same], by rw [am_diff _ _ _ _ _ (by decide), am_diff _ _ _ _ _ (by decide), am_diff _ _ _ _ _ (by decide), am_diff _ _ _ _ _ (by decide), am_diff _ _ _ _ _ (by decide), am_diff _ _ _ _ _ (by decide), am_same], by rw [am_diff _ _ _ _ _ (by decide), am_diff _ _ _ _ _ (by decide), am_diff _ _ _ _ _ (by decide), am_diff _ _ _ _ _ (by decide), am_diff _ _ _ _ _ (by decide), am_same], fun _ => ⟨by rw [am_diff _ _ _ _ _ (by decide), am_diff _ _ _ _ _ (by decide), am_diff _ _ _ _ _ (by decide), am_diff _ _ _ _ _ (by decide), am_same], by rw [am_diff _ _ _ _ _ (by decide), am_diff _ _ _ _ _ (by decide), am_diff _ _ _ _ _ (by decide), am_same], by rw [am_diff _ _ _ _ _ (by decide), am_diff _ _ _ _ _ (by decide), am_same]⟩, fun g hg => by rw [am_wr_ne _ (by decide), am_wr_ne _ (by decide), am_wr_ne _ (by decide), am_wr_ne _ (by decide), am_wr_ne _ (by decide), am_wr_ne _ (by decide), am_wr_ne _ (by decide)]; exact hI g hg⟩
  · have h_51 : ¬ (s = 0) := fun z => h_51 ((am_n0 (by omega)).mpr z)
    refine am_run 2 (pc' := 81) (ls' := [some (.ref 0), some (.int (nI j)), some (.int (nI s)), some (.int (nI u)), some (.int (nI 1)), none, none]) (st' := []) (σ' := (am_wr (am_wr (am_wr (am_wr (am_wr (am_wr (am_wr σ1 0 40 (nI 0)) 0 41 (nI 0)) 0 42 (nI u)) 0 43 (nI 0)) 0 44 (nI 0)) 0 38 (nI j)) 0 39 (nI s))) rfl ?_
    have hs0 : ¬ s = 0 := by assumption
    have hS2 : KS σ (am_wr (am_wr (am_wr (am_wr (am_wr (am_wr (am_wr σ1 0 40 (nI 0)) 0 41 (nI 0)) 0 42 (nI u)) 0 43 (nI 0)) 0 44 (nI 0)) 0 38 (nI j)) 0 39 (nI s)) := ((((((((KS.of29 g1 g2).w0 (by decide) _).w0 (by decide) _).w0 (by decide) _).w0 (by decide) _).w0 (by decide) _).w0 (by decide) _).w0 (by decide) _)
    have i38 : (am_wr (am_wr (am_wr (am_wr (am_wr (am_wr (am_wr σ1 0 40 (nI 0)) 0 41 (nI 0)) 0 42 (nI u)) 0 43 (nI 0)) 0 44 (nI 0)) 0 38 (nI j)) 0 39 (nI s)).1 0 38 = nI j := by rw [am_diff _ _ _ _ _ (by decide), am_same]
    have i39 : (am_wr (am_wr (am_wr (am_wr (am_wr (am_wr (am_wr σ1 0 40 (nI 0)) 0 41 (nI 0)) 0 42 (nI u)) 0 43 (nI 0)) 0 44 (nI 0)) 0 38 (nI j)) 0 39 (nI s)).1 0 39 = nI s := by rw [am_same]
    have i40 : (am_wr (am_wr (am_wr (am_wr (am_wr (am_wr (am_wr σ1 0 40 (nI 0)) 0 41 (nI 0)) 0 42 (nI u)) 0 43 (nI 0)) 0 44 (nI 0)) 0 38 (nI j)) 0 39 (nI s)).1 0 40 = nI 0 := by rw [am_diff _ _ _ _ _ (by decide), am_diff _ _ _ _ _ (by decide), am_diff _ _ _ _ _ (by decide), am_diff _ _ _ _ _ (by decide), am_diff _ _ _ _ _ (by decide), am_diff _ _ _ _ _ (by decide), am_same]
    have i42 : (am_wr (am_wr (am_wr (am_wr (am_wr (am_wr (am_wr σ1 0 40 (nI 0)) 0 41 (nI 0)) 0 42 (nI u)) 0 43 (nI 0)) 0 44 (nI 0)) 0 38 (nI j)) 0 39 (nI s)).1 0 42 = nI u := by rw [am_diff _ _ _ _ _ (by decide), am_diff _ _ _ _ _ (by decide), am_diff _ _ _ _ _ (by decide), am_diff _ _ _ _ _ (by decide), am_same]
    have iI : ∀ g, g < 8 → (am_wr (am_wr (am_wr (am_wr (am_wr (am_wr (am_wr σ1 0 40 (nI 0)) 0 41 (nI 0)) 0 42 (nI u)) 0 43 (nI 0)) 0 44 (nI 0)) 0 38 (nI j)) 0 39 (nI s)).1 29 g = nI (sts (u, 0) g) := fun g hg => by rw [am_wr_ne _ (by decide), am_wr_ne _ (by decide), am_wr_ne _ (by decide), am_wr_ne _ (by decide), am_wr_ne _ (by decide), am_wr_ne _ (by decide), am_wr_ne _ (by decide)]; exact hI g hg
    generalize (am_wr (am_wr (am_wr (am_wr (am_wr (am_wr (am_wr σ1 0 40 (nI 0)) 0 41 (nI 0)) 0 42 (nI u)) 0 43 (nI 0)) 0 44 (nI 0)) 0 38 (nI j)) 0 39 (nI s)) = σ2 at hS2 i38 i39 i40 i42 iI ⊢
    have hop := opn_le u 0
    refine c_settles_loop (by omega) (hM.keep hS2.1) hs (hv.resolve_left hs0) (fun σ3 hk3 a38 a39 a40 aI a28 aT => ?_) 9 0 u 0 σ2 rfl (by omega) (ri_0 p (r + 1) s u) hu (by decide) rfl (KG.rf _) i38 i39 i40 iI
    exact c_settles_mid (by omega) hM hs hs0 (hv.resolve_left hs0) hu rfl (hS2.tr hk3.KS) a38 a39 a40 (by rw [hk3.2.1 42 (by decide) (by decide) (by decide)]; exact i42) aI a28 aT hq

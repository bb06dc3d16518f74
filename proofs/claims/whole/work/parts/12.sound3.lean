section Sound3
variable {p : Program} {l : Launch} {e : Env} {R : Room} {s : State} {m : MethodId} {args : Array Value} {below : List Frame} {meth : Method} {c : Code} {D : va_G} {ad : Nat → Nat} {cA cR : ClassId} {A : Nat → Prop} {M : am_I}
def am_met (l : Launch) (D : va_G) (ad : Nat → Nat) (cA cR : ClassId) (d : Nat) : Prop := ∀ (y : Nat) (M : am_I) (as : List Value) (σ : am_M) (Q : am_Q) (sz : Nat), am_C d y as σ Q → am_meth y = some M → Met l (am_y M) (Cond.code (am_y M) (am_b M) (am_ml M) (am_rt M) :: am_ws) (am_room d) (am_Pc D ad cA cR sz as σ) (am_Qc D ad cA cR sz Q) 0 0 (am_A ad sz)
set_option maxHeartbeats 4000000 in
set_option maxRecDepth 100000 in
theorem am_simW {d sz : Nat} {Q : am_Q} (hx : p.tables.exec = Jvm.exec) (hb : c.code = am_b M) (hr : meth.sig.returnType = am_rt M) (hml : c.maxLocals = am_ml M) (hlocks : meth.locks = false) (hts : ∀ w ∈ am_ws, w.before args s = true) (hown : s.vm.findClass (am_cn (am_w M)) = some m.cls) (hK : va_K D vwCl (am_tys cA cR) s) (hN : va_Nw am_nw s) (hA : A = am_A ad sz) (hs : s.heap.size = sz) (hM : am_known M) (hR : R = am_room (d + 1)) (hC : am_met l D ad cA cR d) :
    ∀ pc ls st σ, am_F (am_C d) M Q (am_W p l e R s m args below meth c D ad cA cR A M (MQ below (am_Qc D ad cA cR sz Q) args s 0 0 A)) pc ls st σ → am_W p l e R s m args below meth c D ad cA cR A M (MQ below (am_Qc D ad cA cR sz Q) args s 0 0 A) pc ls st σ := by
  intro pc ls st σ ⟨i, hins, hw⟩
  obtain ⟨n, hdg, hlen⟩ := am_dec hM hins
  have hret : ∀ (v : Option Value) (H : Heap) (locs : List Loc), Q v σ → va_P D vwCl (am_world ad cA cR σ) H → va_D A (am_world ad cA cR σ) → va_S A s.heap H locs → ∀ t : State, t.heap = H → s.WarmedH t.vm → am_Qc D ad cA cR sz Q args s (.returned (v.map (am_cv ad))) t :=
    fun v H locs hq hP hD hS t ht hW => ⟨⟨v, σ, rfl, hq, by rw [ht]; exact hP, va_K.moved hW.alike hK, hA ▸ hD⟩, hA ▸ hS.F ht⟩
  unfold am_wp at hw
  split at hw
  · obtain ⟨j, c, r, rfl, hk, hin, kk⟩ := hw
    obtain rfl : n = 1 := hlen.elim (fun q => by cases q) id
    intro H locs a hP hD hS hL
    have hat := am_at (ad := ad) (cA := cA) (cR := cR) (σ := σ) (am_lt (c := c) (by omega))
    rw [am_cell_arr hk] at hat
    exact va_iald hx hb hK hP c 0 hat rfl hin hdg (kk H locs a hP hD hS hL)
  · obtain ⟨x, j, c, r, rfl, hk, hin, kk⟩ := hw
    obtain rfl : n = 1 := hlen.elim (fun q => by cases q) id
    intro H locs a hP hD hS hL
    have hlt : c < 88 := am_lt (by omega)
    have hat := am_at (ad := ad) (cA := cA) (cR := cR) (σ := σ) hlt
    rw [am_cell_arr hk] at hat
    have hset : (am_world ad cA cR σ).set c (ad c, .inl (cA, am_len c, .inl (upd (σ.1 c) j.toNatClampNeg x))) = am_world ad cA cR (am_wr σ c j.toNatClampNeg x) := by
      refine am_world_set hlt (fun j hj => am_cell_same (am_wr_ne x hj) rfl) ?_
      rw [am_cell_arr hk, am_wr_at]
    refine va_iast hx hb hK hP hD hS c 0 hat rfl hin hdg ?_
    rw [hset]
    exact fun H1 locs1 hP1 hD1 hS1 => kk H1 locs1 a hP1 hD1 hS1 hL
  · obtain ⟨j, c, r, rfl, hk, hin, kk⟩ := hw
    obtain rfl : n = 1 := hlen.elim (fun q => by cases q) id
    intro H locs a hP hD hS hL
    have hat := am_at (ad := ad) (cA := cA) (cR := cR) (σ := σ) (am_lt (c := c) (by omega))
    rw [am_cell_ref hk] at hat
    exact va_aldq hx hb hK hP c 1 hat rfl hin hdg (kk H locs a hP hD hS hL)
  · obtain ⟨y, x, r, rfl, hn, kt, kf⟩ := hw
    obtain rfl : n = 3 := hlen.elim (fun q => by cases q) id
    intro H locs a hP hD hS hL
    exact am_sim_icmp hx hb hn hdg (fun q => kt q H locs a hP hD hS hL) (fun q => kf q H locs a hP hD hS hL)
  · obtain ⟨x, r, rfl, hn, kt, kf⟩ := hw
    obtain rfl : n = 3 := hlen.elim (fun q => by cases q) id
    intro H locs a hP hD hS hL
    exact am_sim_if hx hb hn hdg (fun q => kt q H locs a hP hD hS hL) (fun q => kf q H locs a hP hD hS hL)
  · obtain ⟨hp, x, r, rfl, kk⟩ := hw
    intro H locs a hP hD hS hL
    obtain ⟨k1, k2⟩ := am_sw_off kk
    exact lv_lookup hx hb hdg hp rfl (am_tg_eq k1) (k2 H locs a hP hD hS hL)
  · rename_i df lo hi os
    obtain ⟨hlo, x, r, rfl, kk⟩ := hw
    intro H locs a hP hD hS hL
    obtain ⟨k1, k2⟩ := am_sw_off kk
    have htb := am_tb_off (d := df) (k := x.toInt) (os := os.toList) (lo := lo)
    by_cases h : x.toInt < lo ∨ hi < x.toInt
    · rw [htb.1 (by omega)] at k1 k2
      exact lv_tableOut hx hb hdg h (am_tg_eq k1) (k2 H locs a hP hD hS hL)
    · have h1 : ¬ x.toInt < lo := fun q => h (Or.inl q)
      have h2 : ¬ hi < x.toInt := fun q => h (Or.inr q)
      have hlt : (x.toInt - lo).toNat < os.toList.length := by omega
      have ho : os[(x.toInt - lo).toNat]? = some (os.toList[(x.toInt - lo).toNat]) := by
        rw [← Array.getElem?_toList, List.getElem?_eq_getElem hlt]
      rw [htb.2 (x.toInt - lo).toNat (by omega) _ (List.getElem?_eq_getElem hlt)] at k1 k2
      exact lv_tableIn hx hb hdg h1 h2 ho (am_tg_eq k1) (k2 H locs a hP hD hS hL)
  · obtain ⟨v, ty, rfl, hty, hn, hq⟩ := hw
    obtain rfl : n = 1 := hlen.elim (fun q => by cases q) id
    intro H locs a hP hD hS hL
    exact W.zret hx hb (hr.trans hty) hn (hret (some (.int v)) H locs hq hP hD hS) hS.2.2 hdg hlocks
  · obtain ⟨v, nm, rfl, hty, hv, hq⟩ := hw
    obtain rfl : n = 1 := hlen.elim (fun q => by cases q) id
    intro H locs a hP hD hS hL
    refine W.aret hx hb (hr.trans hty) (Or.inl ⟨nm, rfl⟩) ?_ (hret (some v) H locs hq hP hD hS) hS.2.2 hdg hlocks
    rcases hv with rfl | ⟨a, rfl⟩
    · exact Or.inl rfl
    · exact Or.inr ⟨ad a, rfl⟩
  · obtain ⟨rfl, hty, hq⟩ := hw
    obtain rfl : n = 1 := hlen.elim (fun q => by cases q) id
    intro H locs a hP hD hS hL
    exact W.vret hx hb (hr.trans hty) (hret none H locs hq hP hD hS) hS.2.2 hdg hlocks
  · rename_i idx
    obtain rfl : n = 3 := hlen.elim (fun q => by cases q) id
    intro H locs a hP hD hS hL
    rcases hw with ⟨n, dp, c1, sp, c0, r, hac, rfl, hk0, hk1, h1, h2, h3, h4, h5, h6, kk⟩ | ⟨b, q, y, x, r, hmm, rfl, h6, kk⟩ | ⟨M', as, rest, hmn, hM', rfl, hlen', h6, kk⟩ | ⟨y, M', as, rest, hy, hM', hst, rfl, hlen', h6, kk⟩
    · have hlt : c1 < 88 := am_lt (by omega)
      have hat0 := am_at (ad := ad) (cA := cA) (cR := cR) (σ := σ) (am_lt (c := c0) (by omega))
      have hat1 := am_at (ad := ad) (cA := cA) (cR := cR) (σ := σ) hlt
      rw [am_cell_arr hk0] at hat0
      rw [am_cell_arr hk1] at hat1
      have hset : (am_world ad cA cR σ).set c1 (ad c1, .inl (cA, am_len c1, .inl (va_cpy (σ.1 c0) (σ.1 c1) sp.toNatClampNeg dp.toNatClampNeg n.toNatClampNeg))) = am_world ad cA cR (am_cp σ c0 c1 sp.toNatClampNeg dp.toNatClampNeg n.toNatClampNeg) := by
        refine am_world_set hlt (fun j hj => am_cell_same (by simp [am_cp, hj]) rfl) ?_
        rw [am_cell_arr hk1]
        simp [am_cp]
      unfold am_ac at hac
      simp only [Bool.and_eq_true, beq_iff_eq] at hac
      obtain ⟨hw4, rfl⟩ := hac
      rw [hw4] at hown
      refine va_copyi hx hb (by rw [hml, hL.2.1]) hown (hts _ (am_in (List.mem_of_getElem? am_ac1) rfl)) (hts _ (am_in (List.mem_of_getElem? am_ac2) rfl)) (hts _ (am_in (List.mem_of_getElem? am_ac3) rfl)) (hts _ (am_in (List.mem_of_getElem? am_ac4) rfl)) hK hP hD hS c0 c1 0 0 hat0 hat1 rfl rfl rfl h1 h2 h3 h4 h5 (fun _ _ => rfl) (by rw [hR]; exact Nat.succ_pos d) ?_ hdg ?_
      · rw [am_cat_sum, hR]
        have : nativeFrameWords "java/lang/System" "arraycopy" 5 + 11 ≤ 56 := by decide +kernel
        show _ ≤ 64 * (d + 1)
        omega
      · rw [hset]
        exact fun H1 locs1 hP1 hD1 hS1 => kk H1 locs1 a hP1 hD1 hS1 hL
    · have hlk := hts _ (am_in (am_mem_x hmm) rfl)
      have hfr : 1 ≤ R.frames := by rw [hR]; exact Nat.succ_pos d
      have hlo : ((r.map (am_cv ad)).map fun v => v.category).sum + 13 ≤ R.locals := by
        rw [am_cat_sum, hR]
        show _ ≤ 64 * (d + 1)
        omega
      cases b with
      | true => exact va_mmax hx hb (by rw [hml, hL.2.1]) hown hlk (hts _ (am_in (List.mem_of_getElem? am_mx1) rfl)) (hts _ (am_in (List.mem_of_getElem? am_mi) rfl)) (hts _ (am_in (List.mem_of_getElem? am_mx2) rfl)) hfr hlo (Nat.zero_le _) (Nat.zero_le _) hdg (kk H locs a hP hD hS hL)
      | false => exact va_mmin hx hb (by rw [hml, hL.2.1]) hown hlk (hts _ (am_in (List.mem_of_getElem? am_mn1) rfl)) (hts _ (am_in (List.mem_of_getElem? am_mi) rfl)) (hts _ (am_in (List.mem_of_getElem? am_mn2) rfl)) hfr hlo (Nat.zero_le _) (Nat.zero_le _) hdg (kk H locs a hP hD hS hL)
    · have hkn := am_know hM'
      obtain ⟨hcode, hkind, hini, hsel, hcls, hpl, hmh, hvh, hpd, hml', hna, -, -, -⟩ := hkn
      obtain rfl : M' = M_X0_analyse := (Option.some.inj ((show am_meth 11 = some M_X0_analyse from rfl).symm.trans hM')).symm
      unfold am_mn at hmn
      simp only [Bool.and_eq_true, beq_iff_eq] at hmn
      obtain ⟨hw2, rfl⟩ := hmn
      rw [hw2] at hown
      rw [if_pos (show am_st M_X0_analyse = true from rfl)] at hkind hpd
      have hmet := hC 11 M_X0_analyse as σ _ H.size kk hM'
      refine am_call hK hA hs hS (va_runSN (As := as.map (am_cv ad)) (rest := rest.map (am_cv ad)) (bytes := am_b M_X0_analyse) (maxL := am_ml M_X0_analyse) (ret := am_rt M_X0_analyse) (n := am_na M_X0_analyse) ⟨hx, hb, hml, hown, hts⟩ hmet ⟨va_cnB (am_na M_X0_analyse) hts (am_goodIn (am_know hM')) rfl rfl rfl hN (hts _ (am_in hini rfl)) ⟨hmh, hvh, hpd⟩ ⟨by rw [hR]; exact Nat.le_refl _, by rw [hR]; show 8 + (6 + 11) + 64 * d ≤ 64 * (d + 1); omega⟩, hts _ (am_in hkind rfl), trivial⟩ ⟨am_blind, am_preOf hN hK hP hD⟩ rfl (by rw [List.length_map]; exact hlen') hL.2.1 (by rw [List.map_append, List.map_reverse]) (lv_room (by rw [am_cat_sum]; exact h6)) hdg ⟨Nat.zero_le _, Nat.zero_le _⟩) ?_
      intro v σ' H1 locs1 hq hP1 hD1 hS1
      have := hq H1 locs1 a hP1 hD1 hS1 hL
      rw [List.map_append] at this
      cases v with
      | none => exact this
      | some v => exact this
    · have hkn := am_know hM'
      obtain ⟨hcode, hkind, hini, hsel, hcls, hpl, hmh, hvh, hpd, hml', hna, -, -, -⟩ := hkn
      have hlk := hts _ (am_in (am_mem_l hy hM') rfl)
      rw [if_pos hst] at hkind hpd
      have hmet := hC y.1 M' as σ _ H.size kk hM'
      refine am_call hK hA hs hS (va_runS (As := as.map (am_cv ad)) (rest := rest.map (am_cv ad)) (bytes := am_b M') (maxL := am_ml M') (ret := am_rt M') (n := am_na M') ⟨hx, hb, hml, hown, hts⟩ hmet ⟨callB_of (am_na M') hts (am_goodIn (am_know hM')) rfl rfl rfl (hts _ (am_in hini rfl)) hlk ⟨hmh, hvh, hpd⟩ ⟨by rw [hR]; exact Nat.le_refl _, by rw [hR]; show 8 + (am_ml M' + 11) + 64 * d ≤ 64 * (d + 1); omega⟩, hts _ (am_in hkind rfl)⟩ ⟨am_blind, am_preOf hN hK hP hD⟩ rfl (by rw [List.length_map]; exact hlen') hL.2.1 (by rw [List.map_append, List.map_reverse]) (lv_room (by rw [am_cat_sum]; exact h6)) hdg ⟨Nat.zero_le _, Nat.zero_le _⟩) ?_
      intro v σ' H1 locs1 hq hP1 hD1 hS1
      have := hq H1 locs1 a hP1 hD1 hS1 hL
      rw [List.map_append] at this
      cases v with
      | none => exact this
      | some v => exact this
  · rename_i idx
    obtain rfl : n = 3 := hlen.elim (fun q => by cases q) id
    intro H locs a hP hD hS hL
    obtain ⟨y, M', b, as, rest, hy, hM', hst, rfl, hlen', hkb, h6, kk⟩ := hw
    have hkn := am_know hM'
    obtain ⟨hcode, hkind, hini, hsel, hcls, hpl, hmh, hvh, hpd, hml', hna, h1na, hvc, -⟩ := hkn
    have hlk := hts _ (am_in (am_mem_l hy hM') rfl)
    rw [if_neg (by rw [hst]; decide)] at hkind hpd
    have hsel := hsel.resolve_left (by rw [hst]; decide)
    have hvc := hvc.resolve_left (by rw [hst]; decide)
    have hmet := hC y.1 M' (.ref b :: as) σ _ H.size kk hM'
    cases hq : vwCl[am_ci (am_w M')]? with
    | none => rw [hq] at hvc; cases hvc
    | some q =>
      rw [hq] at hvc
      have hvc : q.1 = (am_y M').cls := Option.some.inj hvc
      have h9 := (am_cls hq).1
      have hat := am_at (ad := ad) (cA := cA) (cR := cR) (σ := σ) (am_lt (c := b) (by omega))
      rw [am_cell_obj (by omega)] at hat
      have hrc := va_recv hK hP (by rw [hkb]; exact hq) hat
      rw [hvc] at hrc
      have hna1 : am_na M' - 1 = as.length := by omega
      rw [hna1] at hpd
      refine am_call hK hA hs hS (va_runV (As := as.map (am_cv ad)) (rest := rest.map (am_cv ad)) (b := ad b) (C := (am_y M').cls) (bytes := am_b M') (maxL := am_ml M') (ret := am_rt M') (n := as.length) ⟨hx, hb, hml, hown, hts⟩ hmet ⟨callB_of as.length hts (am_goodIn (am_know hM')) rfl rfl rfl (hts _ (am_in hini rfl)) hlk ⟨hmh, hvh, hpd⟩ ⟨by rw [hR]; exact Nat.le_refl _, by rw [hR]; show 8 + (am_ml M' + 11) + 64 * d ≤ 64 * (d + 1); omega⟩, hts _ (am_in hkind rfl), hts _ (am_in hsel rfl)⟩ ⟨am_blind, hrc, am_preOf (as := .ref b :: as) hN hK hP hD⟩ rfl (by rw [List.length_map]) hL.2.1 (by rw [List.map_append, List.map_reverse]; rfl) (lv_room (by rw [am_cat_sum]; exact h6)) hdg ⟨Nat.zero_le _, Nat.zero_le _⟩) ?_
      intro v σ' H1 locs1 hq hP1 hD1 hS1
      have := hq H1 locs1 a hP1 hD1 hS1 hL
      rw [List.map_append] at this
      cases v with
      | none => exact this
      | some v => exact this
  · obtain ⟨pc', ls', st', σ', h1, kk⟩ := hw
    refine am_sim1 hx hb hts hown hK ?_ h1 kk
    rcases hlen with hlen | rfl
    · exfalso
      cases i <;> first | (cases hlen; done) | (unfold am_s1 at h1; cases h1; done)
    · exact hdg
end Sound3
theorem am_en_lv {ad : Nat → Nat} {M : am_I} {as : List Value} (h1 : as.length = am_na M) (h2 : am_na M ≤ am_ml M) (h3 : as.all (fun v => v.category == 1) = true) {a : Array Slot} (h : lv_has a (am_ml M) (lv_args 0 (as.map (am_cv ad)))) : am_lv ad (am_ml M) (am_en M as) a := by
  have hcat : ∀ v ∈ as, v.category = 1 := fun v hv => by simpa using List.all_eq_true.mp h3 v hv
  have key : ∀ (L : List Value) (k : Nat), (∀ v ∈ L, v.category = 1) → ∀ (i : Nat) (v : Value), L[i]? = some v → (k + i, am_cv ad v) ∈ lv_args k (L.map (am_cv ad)) := by
    intro L
    induction L with
    | nil => intro k _ i v h; simp at h
    | cons x r ih =>
      intro k hc i v hv
      have hx : (am_cv ad x).category = 1 := by rw [am_cv_cat]; exact hc x List.mem_cons_self
      rw [List.map_cons]
      unfold lv_args
      cases i with
      | zero =>
        obtain rfl : x = v := by simpa using hv
        exact List.mem_cons_self
      | succ i =>
        have := ih (k + 1) (fun v hv => hc v (List.mem_cons_of_mem _ hv)) i v (by simpa using hv)
        rw [show k + (i + 1) = k + 1 + i by omega]
        refine List.mem_cons_of_mem _ ?_
        rw [hx]
        exact this
  refine ⟨?_, h.1, h.2.1, fun i v hv => ?_⟩
  · unfold am_en
    rw [List.length_append, List.length_map, List.length_replicate]
    omega
  · have hi : as[i]? = some v := by
      unfold am_ld am_en at hv
      rw [List.getD_eq_getElem?_getD] at hv
      by_cases hlt : i < as.length
      · rw [List.getElem?_append_left (by rw [List.length_map]; exact hlt), List.getElem?_map] at hv
        rw [List.getElem?_eq_getElem hlt] at hv ⊢
        simpa using hv
      · rw [List.getElem?_append_right (by rw [List.length_map]; omega)] at hv
        rw [List.getElem?_replicate] at hv
        split at hv <;> simp at hv
    have := h.2.2 _ (key as 0 hcat i v hi)
    simp only [Nat.zero_add] at this
    exact ⟨hcat v (List.mem_of_getElem? hi), this⟩
set_option maxHeartbeats 4000000 in
/-- SOUNDNESS: a call of the small machine is a contract of the JVM's method -/
theorem am_sound (l : Launch) (D : va_G) (ad : Nat → Nat) (cA cR : ClassId) : ∀ d, am_met l D ad cA cR d
  | 0 => fun y M as σ Q sz h _ => absurd h (by unfold am_C; exact id)
  | d + 1 => by
    intro y M as σ Q sz h hM
    have ih := am_sound l D ad cA cR d
    obtain ⟨M', hM', hlen, hcat, hT⟩ := h
    obtain rfl : M = M' := Option.some.inj (hM.symm.trans hM')
    have hkn := am_know hM
    obtain ⟨hcode, hkind, hini, hsel, hcls, hpl, hmh, hvh, hpd, hml', hna, h1na, hvc, hdd⟩ := id hkn
    refine Met.ofW (cc := am_b M) (maxL := am_ml M) (ret := am_rt M) hpl rfl ?_
    intro p e s m args below meth c s₁ B hml hv
    obtain ⟨rfl, hsz, hP, hK, hD0, hN⟩ := hv
    have hts0 := atoms_spec (ws := Cond.code (am_y M) (am_b M) (am_ml M) (am_rt M) :: am_ws) B.pre
    have hts : ∀ w ∈ am_ws, w.before (as.map (am_cv ad)).toArray s = true := fun w hw => hts0 w (List.mem_cons_of_mem _ hw)
    have hown : s.vm.findClass (am_cn (am_w M)) = some m.cls := by
      rw [← hcls]
      exact findClass_of_methodNamed B.named
    have hl := lv_entry (as.map (am_cv ad)) (n := am_ml M) (by
      have key : ∀ L : List Value, L.all (fun v => v.category == 1) = true → (lg_sl (L.map (am_cv ad))).length = L.length := by
        intro L
        induction L with
        | nil => intro _; rfl
        | cons x r ih =>
          intro h
          rw [List.all_cons, Bool.and_eq_true] at h
          have hx : (am_cv ad x).category = 1 := by rw [am_cv_cat]; simpa using h.1
          rw [List.map_cons, List.length_cons, ← ih h.2]
          simp [lg_sl, hx]
      rw [key as hcat, hlen]
      exact hna)
    rw [lg_entry_eq]
    generalize (lg_sl (as.map (am_cv ad)) ++ List.replicate (am_ml M - (lg_sl (as.map (am_cv ad))).length) Slot.unset).toArray = a at hl ⊢
    have := hT _ (am_simW (A := am_A ad sz) (Q := Q) (below := below) (e := e) (p := p) B.exec B.bytes B.returns hml B.notSynchronized hts hown hK hN rfl hsz hkn (R := am_room (d + 1)) rfl ih)
    exact this s.heap [] a hP (am_D_A hD0) va_S.rf (am_en_lv hlen hna hcat hl)

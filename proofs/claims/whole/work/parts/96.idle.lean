/-! what is known of a text that is sound: the reference would read it -/
theorem am_sw_K {P : Prop} {pc : Nat} {x : Int32} {d : Int} {ls : am_L} {st : List Value} {σ : am_M} : ∀ {ps : List (Int × Int)}, am_sw (fun _ _ _ _ => P) pc x d ls st σ ps → P
  | [], q => q.2
  | (a, o) :: r, q => by
    by_cases h : x = am_k a
    · exact q.2.2.1 h
    · exact am_sw_K (q.2.2.2 h)
theorem am_C_K {P : Prop} : ∀ {d y : Nat} {as : List Value} {σ : am_M}, am_C d y as σ (fun _ _ => P) → P
  | 0, _, _, _, h => h.elim
  | d + 1, y, as, σ, h => by
    obtain ⟨M, -, -, -, h⟩ := h
    refine h (fun _ _ _ _ => P) (fun pc ls st σ hF => ?_)
    obtain ⟨i, -, hw⟩ := hF
    unfold am_wp at hw
    split at hw
    · obtain ⟨j, c, r, -, -, -, hw⟩ := hw
      exact hw
    · obtain ⟨x, j, c, r, -, -, -, hw⟩ := hw
      exact hw
    · obtain ⟨j, c, r, -, -, -, hw⟩ := hw
      exact hw
    · obtain ⟨y, x, r, -, -, h1, h2⟩ := hw
      exact Classical.byCases h1 h2
    · obtain ⟨x, r, -, -, h1, h2⟩ := hw
      exact Classical.byCases h1 h2
    · obtain ⟨-, x, r, -, hw⟩ := hw
      exact am_sw_K hw
    · obtain ⟨-, x, r, -, hw⟩ := hw
      exact am_sw_K hw
    · obtain ⟨v, ty, -, -, -, hw⟩ := hw
      exact hw
    · obtain ⟨v, n, -, -, -, hw⟩ := hw
      exact hw
    · exact hw.2.2
    · rcases hw with hw | hw | hw | hw
      · obtain ⟨n, dp, c1, sp, c0, r, hw⟩ := hw
        exact hw.2.2.2.2.2.2.2.2.2.2
      · obtain ⟨b, p, y, x, r, -, -, -, hw⟩ := hw
        exact hw
      · obtain ⟨M, as, rest, -, -, -, -, -, hw⟩ := hw
        exact am_C_K hw
      · obtain ⟨y, M, as, rest, -, -, -, -, -, -, hw⟩ := hw
        exact am_C_K hw
    · obtain ⟨y, M, b, as, rest, -, -, -, -, -, -, -, hw⟩ := hw
      exact am_C_K hw
    · obtain ⟨pc', ls', st', σ', -, hw⟩ := hw
      exact hw
theorem rt_sg {tx : Nat → Nat} {L : Nat} (hL : L ≤ 120) (h : ∀ i, i < L → tx i < 256) {S : PS} {r : Nat} (hx : p_rt tx L = .inr (S, r)) : ∃ (σ : am_M) (g : Nat → Nat → Nat), RDY σ S.2.2.2 g S.2.1 r ∧ S.2.2.1 ≤ 20 := by
  have hT : TXm ((fun c k => if c = 0 then (if k = 1 then nI L else 0) else nI (tx k)), fun _ _ => 0) L tx := ⟨hL, rfl, fun i hi => ⟨h i hi, rfl⟩⟩
  refine am_C_K (c_reads (d := 13) (Nat.le_refl _) hT (fun k pl σ' hy hF h21 => ?_) (fun S' r' σ' g hy hF h2 hn h3 hkk hM hS => ?_))
  · rw [hx] at hy
    cases hy
  · rw [hx] at hy
    have e := Sum.inr.inj hy
    have e1 : S = S' := congrArg Prod.fst e
    have e2 : r = r' := congrArg Prod.snd e
    subst e1
    subst e2
    have hpk := rt_pk hx
    exact ⟨σ', g, ⟨h2, hn, hM.1, hS, fun k hk => ⟨(hpk.2.2 k hk).2.2.2.1, (hpk.2.2 k hk).2.2.2.2⟩⟩, hkk⟩
theorem CR.tr {μ : Nat → Nat → Int32} {τ : Nat → Nat → Nat} {t L : Nat} {S : PS} (hT3 : T3 t) (h : CR μ t L S) : TR (μ, τ) t S.2.2.2 S.2.1 := ⟨hT3, h.2.2.2.2.2.1, fun i hi => by
  obtain ⟨r1, r2, r3, r4, r5, r6, r7, r8, -⟩ := h.2.2.2.2.2.2.2 i hi
  exact ⟨r1, r2, r4, r5, r8⟩⟩
set_option maxRecDepth 10000 in
set_option maxHeartbeats 2000000 in
theorem idl_loop {d : Nat} (hd : 314 ≤ d) {τ : Nat → Nat → Nat} {t L : Nat} {tx : Nat → Nat} (hT3 : T3 t) (ht : τ 44 1 = t) {S : PS} (hW : PW S.2.2.2 S.2.1) (h42 : ∀ k, k < S.2.1 → S.2.2.2 0 k = 42 → S.2.2.2 2 k ≠ 0) (h5L : ∀ k, k < S.2.1 → S.2.2.2 5 k ≤ L) {μ : Nat → Nat → Int32} (hX : XC μ L tx) (hC : CR μ t L S) {Q : am_Q} (h0 : fz S.2.2.2 S.2.1 S.2.1 = S.2.1 → Q none (μ, τ)) (h1 : fz S.2.2.2 S.2.1 S.2.1 < S.2.1 → ∀ μ', KC μ μ' t → XC μ' L tx → FR μ' 5 (S.2.2.2 5 (fz S.2.2.2 S.2.1 S.2.1)) → Q none (μ', τ)) : ∀ (m a : Nat), a + m = S.2.1 → fz S.2.2.2 S.2.1 (S.2.1 - a) = fz S.2.2.2 S.2.1 S.2.1 → am_G d M_X6_refuseIdleLoop Q 2 [some (.ref 44), some (.int (nI a))] [] (μ, τ)
  | 0, a, ha, hz => by
    obtain ⟨c1, c2, c3, c4, c5, c6, c7, c8⟩ := id hC
    obtain rfl : a = S.2.1 := by omega
    rw [Nat.sub_self] at hz
    have hq := h0 hz.symm
    refine am_run 2 (pc' := 5) (ls' := [some (.ref 44), some (.int (nI S.2.1))]) (st' := [.int (nI 60), .int (nI S.2.1)]) (σ' := (μ, τ)) rfl ?_
    refine am_ic (ty := 8) (tn := 82) rfl (by decide) rfl rfl (fun (h_301 : nI S.2.1 < nI 60) => ?_) (fun (h_301 : ¬ (nI S.2.1 < nI 60)) => ?_)
    · have h_301 : S.2.1 < 60 := (nI_ltI (by omega) (by omega)).mp h_301
      refine am_run 2 (pc' := 12) (ls' := [some (.ref 44), some (.int (nI S.2.1))]) (st' := [.ref (τ 44 1)]) (σ' := (μ, τ)) rfl ?_
      refine am_stk (st' := [.ref t]) (by rw [ht]) ?_
      refine am_run 1 (pc' := 13) (ls' := [some (.ref 44), some (.int (nI S.2.1))]) (st' := [.int (nI S.2.1), .ref t]) (σ' := (μ, τ)) rfl ?_
      refine am_invv (y := 106) (b := t) (as := [.int (nI S.2.1)]) (rest := []) rfl rfl rfl rfl rfl rfl (t3_kind hT3) (Nat.le_of_ble_eq_true rfl) ?_
      refine am_enter' rfl rfl rfl (by omega) (ls := [some (.ref t), some (.int (nI S.2.1))]) rfl (fun d_302 hd_302 => ?_)
      refine am_run 1 (pc' := 1) (ls' := [some (.ref t), some (.int (nI S.2.1))]) (st' := [.int (nI S.2.1)]) (σ' := (μ, τ)) rfl ?_
      refine am_if (ty := 22) (tn := 4) rfl (by decide) rfl rfl (fun (h_303 : nI S.2.1 < 0) => ?_) (fun (h_303 : ¬ (nI S.2.1 < 0)) => ?_)
      · have h_303 : S.2.1 < 0 := (am_nlt0 (by omega)).mp h_303
        exact absurd h_303 (Nat.not_lt_zero _)
      have h_303 : ¬ (S.2.1 < 0) := fun z => h_303 ((am_nlt0 (by omega)).mpr z)
      refine am_run 2 (pc' := 6) (ls' := [some (.ref t), some (.int (nI S.2.1))]) (st' := [.ref t, .int (nI S.2.1)]) (σ' := (μ, τ)) rfl ?_
      refine am_getI (k := 8) rfl rfl (t3_kind hT3) rfl ?_
      refine am_top (v' := nI S.2.1) c6 ?_
      refine am_ic (ty := 12) (tn := 22) rfl (by decide) rfl rfl (fun (h_304 : nI S.2.1 < nI S.2.1) => ?_) (fun (h_304 : ¬ (nI S.2.1 < nI S.2.1)) => ?_)
      · have h_304 : S.2.1 < S.2.1 := (nI_ltI (by omega) (by omega)).mp h_304
        omega
      have h_304 : ¬ (S.2.1 < S.2.1) := fun z => h_304 ((nI_ltI (by omega) (by omega)).mpr z)
      refine am_run 1 (pc' := 23) (ls' := [some (.ref t), some (.int (nI S.2.1))]) (st' := [.int (nI 0)]) (σ' := (μ, τ)) rfl ?_
      refine am_retz rfl rfl (by decide) ?_
      show am_G _ M_X6_refuseIdleLoop _ 16 [some (.ref 44), some (.int (nI S.2.1))] [.int (nI 0)] (μ, τ)
      refine am_if (ty := 82) (tn := 19) rfl (by decide) rfl rfl (fun (h_305 : nI 0 = 0) => ?_) (fun (h_305 : ¬ (nI 0 = 0)) => ?_)
      rotate_left
      · exact absurd (by decide) h_305
      refine am_retv rfl rfl ?_
      exact hq
    · have h_301 : ¬ (S.2.1 < 60) := fun z => h_301 ((nI_ltI (by omega) (by omega)).mpr z)
      refine am_retv rfl rfl ?_
      exact hq
  | m + 1, a, ha, hz => by
    obtain ⟨c1, c2, c3, c4, c5, c6, c7, c8⟩ := id hC
    have hR := hC.tr (τ := τ) hT3
    have han : a < S.2.1 := by omega
    have p0 := (hW.2 a han).1
    have hfz := fz_s (p := S.2.2.2) han
    have row := c8 a han
    rw [hz] at hfz
    by_cases h420 : S.2.2.2 0 a = 42
    · obtain ⟨x, hx⟩ : ∃ x, S.2.2.2 2 a = x + 1 := ⟨S.2.2.2 2 a - 1, by have := h42 a han h420; omega⟩
      have hv1 : (an S.2.2.2 61 (x + 1) ST false 0 0).2.2.2 &&& 1 ≤ 1 := Nat.and_le_right
      have hxn : x < S.2.1 := by have := (hW.2 a han).2.2.1; omega
      refine am_run 2 (pc' := 5) (ls' := [some (.ref 44), some (.int (nI a))]) (st' := [.int (nI 60), .int (nI a)]) (σ' := (μ, τ)) rfl ?_
      refine am_ic (ty := 8) (tn := 82) rfl (by decide) rfl rfl (fun (h_301 : nI a < nI 60) => ?_) (fun (h_301 : ¬ (nI a < nI 60)) => ?_)
      rotate_left
      · have h_301 : ¬ (a < 60) := fun z => h_301 ((nI_ltI (by omega) (by omega)).mpr z)
        omega
      have h_301 : a < 60 := (nI_ltI (by omega) (by omega)).mp h_301
      refine am_run 2 (pc' := 12) (ls' := [some (.ref 44), some (.int (nI a))]) (st' := [.ref (τ 44 1)]) (σ' := (μ, τ)) rfl ?_
      refine am_stk (st' := [.ref t]) (by rw [ht]) ?_
      refine am_run 1 (pc' := 13) (ls' := [some (.ref 44), some (.int (nI a))]) (st' := [.int (nI a), .ref t]) (σ' := (μ, τ)) rfl ?_
      refine am_invv (y := 106) (b := t) (as := [.int (nI a)]) (rest := []) rfl rfl rfl rfl rfl rfl (t3_kind hT3) (Nat.le_of_ble_eq_true rfl) ?_
      refine c_has (by omega) hW hR han ?_
      show am_G _ M_X6_refuseIdleLoop _ 16 [some (.ref 44), some (.int (nI a))] [.int (nI 1)] (μ, τ)
      refine am_if (ty := 82) (tn := 19) rfl (by decide) rfl rfl (fun (h_302 : nI 1 = 0) => ?_) (fun (h_302 : ¬ (nI 1 = 0)) => ?_)
      · exact absurd h_302 (by decide)
      refine am_run 1 (pc' := 20) (ls' := [some (.ref 44), some (.int (nI a))]) (st' := [.ref 44]) (σ' := (μ, τ)) rfl ?_
      refine am_invv (y := 83) (b := 44) (as := []) (rest := []) rfl rfl rfl rfl rfl rfl rfl (Nat.le_of_ble_eq_true rfl) ?_
      refine am_enter' rfl rfl rfl (by omega) (ls := [some (.ref 44)]) rfl (fun d_303 hd_303 => ?_)
      refine am_run 2 (pc' := 4) (ls' := [some (.ref 44)]) (st' := [.int ((μ, τ).1 44 3)]) (σ' := (μ, τ)) rfl ?_
      refine am_top (v' := nI 0) c5 ?_
      refine am_if (ty := 7) (tn := 11) rfl (by decide) rfl rfl (fun (h_304 : nI 0 = 0) => ?_) (fun (h_304 : ¬ (nI 0 = 0)) => ?_)
      rotate_left
      · exact absurd (by decide) h_304
      refine am_run 2 (pc' := 12) (ls' := [some (.ref 44)]) (st' := [.int (nI 1)]) (σ' := (μ, τ)) rfl ?_
      refine am_retz rfl rfl (by decide) ?_
      show am_G _ M_X6_refuseIdleLoop _ 23 [some (.ref 44), some (.int (nI a))] [.int (nI 1)] (μ, τ)
      refine am_if (ty := 82) (tn := 26) rfl (by decide) rfl rfl (fun (h_305 : nI 1 = 0) => ?_) (fun (h_305 : ¬ (nI 1 = 0)) => ?_)
      · exact absurd h_305 (by decide)
      refine am_run 2 (pc' := 30) (ls' := [some (.ref 44), some (.int (nI a))]) (st' := [.ref (τ 44 1)]) (σ' := (μ, τ)) rfl ?_
      refine am_stk (st' := [.ref t]) (by rw [ht]) ?_
      refine am_run 1 (pc' := 31) (ls' := [some (.ref 44), some (.int (nI a))]) (st' := [.int (nI a), .ref t]) (σ' := (μ, τ)) rfl ?_
      refine am_invv (y := 112) (b := t) (as := [.int (nI a)]) (rest := []) rfl rfl rfl rfl rfl rfl (t3_kind hT3) (Nat.le_of_ble_eq_true rfl) ?_
      refine c_tokenOf (by omega) hW hR han ?_
      show am_G _ M_X6_refuseIdleLoop _ 34 [some (.ref 44), some (.int (nI a))] [.int (nI (S.2.2.2 0 a))] (μ, τ)
      refine am_run 1 (pc' := 36) (ls' := [some (.ref 44), some (.int (nI a))]) (st' := [.int (nI 42), .int (nI (S.2.2.2 0 a))]) (σ' := (μ, τ)) rfl ?_
      refine am_ic (ty := 39) (tn := 76) rfl (by decide) rfl rfl (fun (h_306 : nI (S.2.2.2 0 a) = nI 42) => ?_) (fun (h_306 : ¬ (nI (S.2.2.2 0 a) = nI 42)) => ?_)
      rotate_left
      · have h_306 : ¬ (S.2.2.2 0 a = 42) := fun z => h_306 ((nI_eq (by omega) (by omega)).mpr z)
        omega
      have h_306 : S.2.2.2 0 a = 42 := (nI_eq (by omega) (by omega)).mp h_306
      refine am_run 2 (pc' := 43) (ls' := [some (.ref 44), some (.int (nI a))]) (st' := [.ref (τ 44 1)]) (σ' := (μ, τ)) rfl ?_
      refine am_stk (st' := [.ref t]) (by rw [ht]) ?_
      refine am_run 2 (pc' := 47) (ls' := [some (.ref 44), some (.int (nI a))]) (st' := [.ref (τ 44 1), .ref t]) (σ' := (μ, τ)) rfl ?_
      refine am_stk (st' := [.ref t, .ref t]) (by rw [ht]) ?_
      refine am_run 1 (pc' := 48) (ls' := [some (.ref 44), some (.int (nI a))]) (st' := [.int (nI a), .ref t, .ref t]) (σ' := (μ, τ)) rfl ?_
      refine am_invv (y := 115) (b := t) (as := [.int (nI a)]) (rest := [.ref t]) rfl rfl rfl rfl rfl rfl (t3_kind hT3) (Nat.le_of_ble_eq_true rfl) ?_
      refine c_leftOf (by omega) hW hR han ?_
      rw [hx, oI_s]
      show am_G _ M_X6_refuseIdleLoop _ 51 [some (.ref 44), some (.int (nI a))] [.int (nI x), .ref t] (μ, τ)
      refine am_invs (y := 1) (as := [.ref t, .int (nI x)]) (rest := []) rfl rfl rfl rfl rfl rfl (Nat.le_of_ble_eq_true rfl) ?_
      refine c_a_instN (by omega) hW hR hxn ?_
      show am_G _ M_X6_refuseIdleLoop _ 54 [some (.ref 44), some (.int (nI a))] [.int (nI ((an S.2.2.2 61 (x + 1) ST false 0 0).2.2.2))] (μ, τ)
      refine am_run 2 (pc' := 56) (ls' := [some (.ref 44), some (.int (nI a))]) (st' := [.int (nI ((an S.2.2.2 61 (x + 1) ST false 0 0).2.2.2) &&& nI 1)]) (σ' := (μ, τ)) rfl ?_
      refine am_top (v' := nI ((an S.2.2.2 61 (x + 1) ST false 0 0).2.2.2 &&& 1)) (nx_and _ _) ?_
      refine am_if (ty := 76) (tn := 59) rfl (by decide) rfl rfl (fun (h_307 : nI ((an S.2.2.2 61 (x + 1) ST false 0 0).2.2.2 &&& 1) = 0) => ?_) (fun (h_307 : ¬ (nI ((an S.2.2.2 61 (x + 1) ST false 0 0).2.2.2 &&& 1) = 0)) => ?_)
      · have h_307 : (an S.2.2.2 61 (x + 1) ST false 0 0).2.2.2 &&& 1 = 0 := (am_n0 (by omega)).mp h_307
        refine am_run 1 (pc' := 79) (ls' := [some (.ref 44), some (.int (nI a + nI 1))]) (st' := []) (σ' := (μ, τ)) rfl ?_
        refine am_ls (ls' := [some (.ref 44), some (.int (nI (a + 1)))]) (by rw [nI_add]) ?_
        refine am_run 1 (pc' := 2) (ls' := [some (.ref 44), some (.int (nI (a + 1)))]) (st' := []) (σ' := (μ, τ)) rfl ?_
        have hl : ¬ ldl S.2.2.2 a = true := fun z => by
          unfold ldl at z
          rw [Bool.and_eq_true, hx, nx_bit0.mp (by exact h_307)] at z
          exact absurd z.2 (by decide)
        rw [if_neg hl] at hfz
        exact idl_loop hd hT3 ht hW h42 h5L hX hC h0 h1 m (a + 1) (by omega) hfz.symm
      · have h_307 : ¬ ((an S.2.2.2 61 (x + 1) ST false 0 0).2.2.2 &&& 1 = 0) := fun z => h_307 ((am_n0 (by omega)).mpr z)
        refine am_run 3 (pc' := 64) (ls' := [some (.ref 44), some (.int (nI a))]) (st' := [.ref (τ 44 1), .ref 44]) (σ' := (μ, τ)) rfl ?_
        refine am_stk (st' := [.ref t, .ref 44]) (by rw [ht]) ?_
        refine am_run 1 (pc' := 65) (ls' := [some (.ref 44), some (.int (nI a))]) (st' := [.int (nI a), .ref t, .ref 44]) (σ' := (μ, τ)) rfl ?_
        refine am_invv (y := 114) (b := t) (as := [.int (nI a)]) (rest := [.ref 44]) rfl rfl rfl rfl rfl rfl (t3_kind hT3) (Nat.le_of_ble_eq_true rfl) ?_
        refine am_enter' rfl rfl rfl (by omega) (ls := [some (.ref t), some (.int (nI a))]) rfl (fun d_308 hd_308 => ?_)
        refine am_run 2 (pc' := 2) (ls' := [some (.ref t), some (.int (nI a))]) (st' := [.int (nI a), .ref t]) (σ' := (μ, τ)) rfl ?_
        refine am_invv (y := 106) (b := t) (as := [.int (nI a)]) (rest := []) rfl rfl rfl rfl rfl rfl (t3_kind hT3) (Nat.le_of_ble_eq_true rfl) ?_
        refine c_has (by omega) hW hR han ?_
        show am_G _ M_X8_indexOf _ 5 [some (.ref t), some (.int (nI a))] [.int (nI 1)] (μ, τ)
        refine am_if (ty := 17) (tn := 8) rfl (by decide) rfl rfl (fun (h_309 : nI 1 = 0) => ?_) (fun (h_309 : ¬ (nI 1 = 0)) => ?_)
        · exact absurd h_309 (by decide)
        refine am_run 1 (pc' := 9) (ls' := [some (.ref t), some (.int (nI a))]) (st' := [.ref t]) (σ' := (μ, τ)) rfl ?_
        refine am_getT hT3 (k := 2) (k1 := 3) rfl rfl rfl (by decide) rfl ?_
        refine am_run 1 (pc' := 13) (ls' := [some (.ref t), some (.int (nI a))]) (st' := [.int (nI a), .ref (t + 3)]) (σ' := (μ, τ)) rfl ?_
        refine am_ialdN (n := 60) (v := nI (S.2.2.2 5 a)) rfl (t3_arr hT3 (by decide)).1 (t3_arr hT3 (by decide)).2 (by omega) row.2.2.1 (by decide) ?_
        refine am_run 1 (pc' := 18) (ls' := [some (.ref t), some (.int (nI a))]) (st' := [.int (nI (S.2.2.2 5 a))]) (σ' := (μ, τ)) rfl ?_
        refine am_reti rfl rfl ?_
        show am_G _ M_X6_refuseIdleLoop _ 68 [some (.ref 44), some (.int (nI a))] [.int (nI (S.2.2.2 5 a)), .ref 44] (μ, τ)
        refine am_run 3 (pc' := 73) (ls' := [some (.ref 44), some (.int (nI a))]) (st' := [.int (nI 5), .ref 44]) (σ' := (am_wr (μ, τ) 44 2 (nI (S.2.2.2 5 a)))) rfl ?_
        refine am_invv (y := 84) (b := 44) (as := [.int (nI 5)]) (rest := []) rfl rfl rfl rfl rfl rfl rfl (Nat.le_of_ble_eq_true rfl) ?_
        refine c_refuse (μ := (am_wr (μ, τ) 44 2 (nI (S.2.2.2 5 a))).1) (τ := τ) (by omega) hT3 (((KC.rf μ t).w44 2 (nI (S.2.2.2 5 a))).xc hT3 hX) (hC.w2 hT3 (h5L a han)) (y := 5) (by decide) (fun μ2 hK2 hX2 hF2 _ => ?_)
        show am_G _ M_X6_refuseIdleLoop _ 76 [some (.ref 44), some (.int (nI a))] [] (μ2, τ)
        refine am_run 1 (pc' := 79) (ls' := [some (.ref 44), some (.int (nI a + nI 1))]) (st' := []) (σ' := (μ2, τ)) rfl ?_
        refine am_ls (ls' := [some (.ref 44), some (.int (nI (a + 1)))]) (by rw [nI_add]) ?_
        refine am_run 1 (pc' := 2) (ls' := [some (.ref 44), some (.int (nI (a + 1)))]) (st' := []) (σ' := (μ2, τ)) rfl ?_
        have hl : ldl S.2.2.2 a = true := by
          unfold ldl
          rw [Bool.and_eq_true, beq_iff_eq]
          refine ⟨by omega, ?_⟩
          rw [hx]
          cases hb : (an S.2.2.2 61 (x + 1) ST false 0 0).2.2.2.testBit 0
          · exact absurd (nx_bit0.mpr hb) h_307
          · rfl
        rw [if_pos hl] at hfz
        have hq := h1 (by omega) μ2 (((KC.rf μ t).w44 (τ := τ) 2 (nI (S.2.2.2 5 a))).tr hK2) hX2 (by rw [hfz]; exact hF2)
        refine am_run 2 (pc' := 5) (ls' := [some (.ref 44), some (.int (nI (a + 1)))]) (st' := [.int (nI 60), .int (nI (a + 1))]) (σ' := (μ2, τ)) rfl ?_
        refine am_ic (ty := 8) (tn := 82) rfl (by decide) rfl rfl (fun (h_501 : nI (a + 1) < nI 60) => ?_) (fun (h_501 : ¬ (nI (a + 1) < nI 60)) => ?_)
        · have h_501 : a + 1 < 60 := (nI_ltI (by omega) (by omega)).mp h_501
          refine am_run 2 (pc' := 12) (ls' := [some (.ref 44), some (.int (nI (a + 1)))]) (st' := [.ref (τ 44 1)]) (σ' := (μ2, τ)) rfl ?_
          refine am_stk (st' := [.ref t]) (by rw [ht]) ?_
          refine am_run 1 (pc' := 13) (ls' := [some (.ref 44), some (.int (nI (a + 1)))]) (st' := [.int (nI (a + 1)), .ref t]) (σ' := (μ2, τ)) rfl ?_
          refine am_invv (y := 106) (b := t) (as := [.int (nI (a + 1))]) (rest := []) rfl rfl rfl rfl rfl rfl (t3_kind hT3) (Nat.le_of_ble_eq_true rfl) ?_
          refine am_enter' rfl rfl rfl (by omega) (ls := [some (.ref t), some (.int (nI (a + 1)))]) rfl (fun d_502 hd_502 => ?_)
          refine am_run 1 (pc' := 1) (ls' := [some (.ref t), some (.int (nI (a + 1)))]) (st' := [.int (nI (a + 1))]) (σ' := (μ2, τ)) rfl ?_
          refine am_if (ty := 22) (tn := 4) rfl (by decide) rfl rfl (fun (h_503 : nI (a + 1) < 0) => ?_) (fun (h_503 : ¬ (nI (a + 1) < 0)) => ?_)
          · have h_503 : a + 1 < 0 := (am_nlt0 (by omega)).mp h_503
            exact absurd h_503 (Nat.not_lt_zero _)
          have h_503 : ¬ (a + 1 < 0) := fun z => h_503 ((am_nlt0 (by omega)).mpr z)
          refine am_run 2 (pc' := 6) (ls' := [some (.ref t), some (.int (nI (a + 1)))]) (st' := [.ref t, .int (nI (a + 1))]) (σ' := (μ2, τ)) rfl ?_
          refine am_getI (k := 8) rfl rfl (t3_kind hT3) rfl ?_
          refine am_ic (ty := 12) (tn := 22) rfl (by decide) rfl rfl (fun (h_504 : nI (a + 1) < (μ2, τ).1 t 8) => ?_) (fun (h_504 : ¬ (nI (a + 1) < (μ2, τ).1 t 8)) => ?_)
          · refine am_run 2 (pc' := 15) (ls' := [some (.ref t), some (.int (nI (a + 1)))]) (st' := [.int (nI 60), .int (nI (a + 1))]) (σ' := (μ2, τ)) rfl ?_
            refine am_ic (ty := 18) (tn := 22) rfl (by decide) rfl rfl (fun (h_505 : nI (a + 1) < nI 60) => ?_) (fun (h_505 : ¬ (nI (a + 1) < nI 60)) => ?_)
            · have h_505 : a + 1 < 60 := (nI_ltI (by omega) (by omega)).mp h_505
              refine am_run 2 (pc' := 23) (ls' := [some (.ref t), some (.int (nI (a + 1)))]) (st' := [.int (nI 1)]) (σ' := (μ2, τ)) rfl ?_
              refine am_retz rfl rfl (by decide) ?_
              show am_G _ M_X6_refuseIdleLoop _ 16 [some (.ref 44), some (.int (nI (a + 1)))] [.int (nI 1)] (μ2, τ)
              refine am_if (ty := 82) (tn := 19) rfl (by decide) rfl rfl (fun (h_506 : nI 1 = 0) => ?_) (fun (h_506 : ¬ (nI 1 = 0)) => ?_)
              · exact absurd h_506 (by decide)
              refine am_run 1 (pc' := 20) (ls' := [some (.ref 44), some (.int (nI (a + 1)))]) (st' := [.ref 44]) (σ' := (μ2, τ)) rfl ?_
              refine am_invv (y := 83) (b := 44) (as := []) (rest := []) rfl rfl rfl rfl rfl rfl rfl (Nat.le_of_ble_eq_true rfl) ?_
              refine am_enter' rfl rfl rfl (by omega) (ls := [some (.ref 44)]) rfl (fun d_507 hd_507 => ?_)
              refine am_run 2 (pc' := 4) (ls' := [some (.ref 44)]) (st' := [.int ((μ2, τ).1 44 3)]) (σ' := (μ2, τ)) rfl ?_
              refine am_top (v' := nI 5) hF2.1 ?_
              refine am_if (ty := 7) (tn := 11) rfl (by decide) rfl rfl (fun (h_508 : nI 5 = 0) => ?_) (fun (h_508 : ¬ (nI 5 = 0)) => ?_)
              · exact absurd h_508 (by decide)
              refine am_run 1 (pc' := 12) (ls' := [some (.ref 44)]) (st' := [.int (nI 0)]) (σ' := (μ2, τ)) rfl ?_
              refine am_retz rfl rfl (by decide) ?_
              show am_G _ M_X6_refuseIdleLoop _ 23 [some (.ref 44), some (.int (nI (a + 1)))] [.int (nI 0)] (μ2, τ)
              refine am_if (ty := 82) (tn := 26) rfl (by decide) rfl rfl (fun (h_509 : nI 0 = 0) => ?_) (fun (h_509 : ¬ (nI 0 = 0)) => ?_)
              rotate_left
              · exact absurd (by decide) h_509
              refine am_retv rfl rfl ?_
              exact hq
            · have h_505 : ¬ (a + 1 < 60) := fun z => h_505 ((nI_ltI (by omega) (by omega)).mpr z)
              refine am_run 1 (pc' := 23) (ls' := [some (.ref t), some (.int (nI (a + 1)))]) (st' := [.int (nI 0)]) (σ' := (μ2, τ)) rfl ?_
              refine am_retz rfl rfl (by decide) ?_
              show am_G _ M_X6_refuseIdleLoop _ 16 [some (.ref 44), some (.int (nI (a + 1)))] [.int (nI 0)] (μ2, τ)
              refine am_if (ty := 82) (tn := 19) rfl (by decide) rfl rfl (fun (h_510 : nI 0 = 0) => ?_) (fun (h_510 : ¬ (nI 0 = 0)) => ?_)
              rotate_left
              · exact absurd (by decide) h_510
              refine am_retv rfl rfl ?_
              exact hq
          · refine am_run 1 (pc' := 23) (ls' := [some (.ref t), some (.int (nI (a + 1)))]) (st' := [.int (nI 0)]) (σ' := (μ2, τ)) rfl ?_
            refine am_retz rfl rfl (by decide) ?_
            show am_G _ M_X6_refuseIdleLoop _ 16 [some (.ref 44), some (.int (nI (a + 1)))] [.int (nI 0)] (μ2, τ)
            refine am_if (ty := 82) (tn := 19) rfl (by decide) rfl rfl (fun (h_511 : nI 0 = 0) => ?_) (fun (h_511 : ¬ (nI 0 = 0)) => ?_)
            rotate_left
            · exact absurd (by decide) h_511
            refine am_retv rfl rfl ?_
            exact hq
        · have h_501 : ¬ (a + 1 < 60) := fun z => h_501 ((nI_ltI (by omega) (by omega)).mpr z)
          refine am_retv rfl rfl ?_
          exact hq
    · refine am_run 2 (pc' := 5) (ls' := [some (.ref 44), some (.int (nI a))]) (st' := [.int (nI 60), .int (nI a)]) (σ' := (μ, τ)) rfl ?_
      refine am_ic (ty := 8) (tn := 82) rfl (by decide) rfl rfl (fun (h_301 : nI a < nI 60) => ?_) (fun (h_301 : ¬ (nI a < nI 60)) => ?_)
      rotate_left
      · have h_301 : ¬ (a < 60) := fun z => h_301 ((nI_ltI (by omega) (by omega)).mpr z)
        omega
      have h_301 : a < 60 := (nI_ltI (by omega) (by omega)).mp h_301
      refine am_run 2 (pc' := 12) (ls' := [some (.ref 44), some (.int (nI a))]) (st' := [.ref (τ 44 1)]) (σ' := (μ, τ)) rfl ?_
      refine am_stk (st' := [.ref t]) (by rw [ht]) ?_
      refine am_run 1 (pc' := 13) (ls' := [some (.ref 44), some (.int (nI a))]) (st' := [.int (nI a), .ref t]) (σ' := (μ, τ)) rfl ?_
      refine am_invv (y := 106) (b := t) (as := [.int (nI a)]) (rest := []) rfl rfl rfl rfl rfl rfl (t3_kind hT3) (Nat.le_of_ble_eq_true rfl) ?_
      refine c_has (by omega) hW hR han ?_
      show am_G _ M_X6_refuseIdleLoop _ 16 [some (.ref 44), some (.int (nI a))] [.int (nI 1)] (μ, τ)
      refine am_if (ty := 82) (tn := 19) rfl (by decide) rfl rfl (fun (h_302 : nI 1 = 0) => ?_) (fun (h_302 : ¬ (nI 1 = 0)) => ?_)
      · exact absurd h_302 (by decide)
      refine am_run 1 (pc' := 20) (ls' := [some (.ref 44), some (.int (nI a))]) (st' := [.ref 44]) (σ' := (μ, τ)) rfl ?_
      refine am_invv (y := 83) (b := 44) (as := []) (rest := []) rfl rfl rfl rfl rfl rfl rfl (Nat.le_of_ble_eq_true rfl) ?_
      refine am_enter' rfl rfl rfl (by omega) (ls := [some (.ref 44)]) rfl (fun d_303 hd_303 => ?_)
      refine am_run 2 (pc' := 4) (ls' := [some (.ref 44)]) (st' := [.int ((μ, τ).1 44 3)]) (σ' := (μ, τ)) rfl ?_
      refine am_top (v' := nI 0) c5 ?_
      refine am_if (ty := 7) (tn := 11) rfl (by decide) rfl rfl (fun (h_304 : nI 0 = 0) => ?_) (fun (h_304 : ¬ (nI 0 = 0)) => ?_)
      rotate_left
      · exact absurd (by decide) h_304
      refine am_run 2 (pc' := 12) (ls' := [some (.ref 44)]) (st' := [.int (nI 1)]) (σ' := (μ, τ)) rfl ?_
      refine am_retz rfl rfl (by decide) ?_
      show am_G _ M_X6_refuseIdleLoop _ 23 [some (.ref 44), some (.int (nI a))] [.int (nI 1)] (μ, τ)
      refine am_if (ty := 82) (tn := 26) rfl (by decide) rfl rfl (fun (h_305 : nI 1 = 0) => ?_) (fun (h_305 : ¬ (nI 1 = 0)) => ?_)
      · exact absurd h_305 (by decide)
      refine am_run 2 (pc' := 30) (ls' := [some (.ref 44), some (.int (nI a))]) (st' := [.ref (τ 44 1)]) (σ' := (μ, τ)) rfl ?_
      refine am_stk (st' := [.ref t]) (by rw [ht]) ?_
      refine am_run 1 (pc' := 31) (ls' := [some (.ref 44), some (.int (nI a))]) (st' := [.int (nI a), .ref t]) (σ' := (μ, τ)) rfl ?_
      refine am_invv (y := 112) (b := t) (as := [.int (nI a)]) (rest := []) rfl rfl rfl rfl rfl rfl (t3_kind hT3) (Nat.le_of_ble_eq_true rfl) ?_
      refine c_tokenOf (by omega) hW hR han ?_
      show am_G _ M_X6_refuseIdleLoop _ 34 [some (.ref 44), some (.int (nI a))] [.int (nI (S.2.2.2 0 a))] (μ, τ)
      refine am_run 1 (pc' := 36) (ls' := [some (.ref 44), some (.int (nI a))]) (st' := [.int (nI 42), .int (nI (S.2.2.2 0 a))]) (σ' := (μ, τ)) rfl ?_
      refine am_ic (ty := 39) (tn := 76) rfl (by decide) rfl rfl (fun (h_306 : nI (S.2.2.2 0 a) = nI 42) => ?_) (fun (h_306 : ¬ (nI (S.2.2.2 0 a) = nI 42)) => ?_)
      · have h_306 : S.2.2.2 0 a = 42 := (nI_eq (by omega) (by omega)).mp h_306
        omega
      have h_306 : ¬ (S.2.2.2 0 a = 42) := fun z => h_306 ((nI_eq (by omega) (by omega)).mpr z)
      refine am_run 1 (pc' := 79) (ls' := [some (.ref 44), some (.int (nI a + nI 1))]) (st' := []) (σ' := (μ, τ)) rfl ?_
      refine am_ls (ls' := [some (.ref 44), some (.int (nI (a + 1)))]) (by rw [nI_add]) ?_
      refine am_run 1 (pc' := 2) (ls' := [some (.ref 44), some (.int (nI (a + 1)))]) (st' := []) (σ' := (μ, τ)) rfl ?_
      have hl : ¬ ldl S.2.2.2 a = true := fun z => by
        unfold ldl at z
        rw [Bool.and_eq_true, beq_iff_eq] at z
        omega
      rw [if_neg hl] at hfz
      exact idl_loop hd hT3 ht hW h42 h5L hX hC h0 h1 m (a + 1) (by omega) hfz.symm

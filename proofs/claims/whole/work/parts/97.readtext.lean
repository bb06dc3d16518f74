theorem am_wp_C {C C' : Nat → List Value → am_M → am_Q → Prop} (h : ∀ y as σ Q, C y as σ Q → C' y as σ Q) {w : Nat} {ret : Option FieldType} {Q : am_Q} {X : am_X} {i : Instr} {pc : Nat} {ls : am_L} {st : List Value} {σ : am_M} (q : am_wp C w ret Q X i pc ls st σ) : am_wp C' w ret Q X i pc ls st σ := by
  cases i with
  | invokestatic idx =>
    rcases q with q | q | q | q
    · exact Or.inl q
    · exact Or.inr (Or.inl q)
    · obtain ⟨M, as, rest, a1, a2, a3, a4, a5, q⟩ := q
      exact Or.inr (Or.inr (Or.inl ⟨M, as, rest, a1, a2, a3, a4, a5, h _ _ _ _ q⟩))
    · obtain ⟨y, M, as, rest, a1, a2, a3, a4, a5, a6, q⟩ := q
      exact Or.inr (Or.inr (Or.inr ⟨y, M, as, rest, a1, a2, a3, a4, a5, a6, h _ _ _ _ q⟩))
  | invokevirtual idx =>
    obtain ⟨y, M, b, as, rest, a1, a2, a3, a4, a5, a6, a7, q⟩ := q
    exact ⟨y, M, b, as, rest, a1, a2, a3, a4, a5, a6, a7, h _ _ _ _ q⟩
  | _ => exact q
theorem am_C_s : ∀ (d y : Nat) (as : List Value) (σ : am_M) (Q : am_Q), am_C d y as σ Q → am_C (d + 1) y as σ Q
  | 0, _, _, _, _, h => h.elim
  | d + 1, y, as, σ, Q, h => by
    obtain ⟨M, a, b, c, t⟩ := h
    refine ⟨M, a, b, c, fun X hX => t X (fun pc ls st σ hF => ?_)⟩
    obtain ⟨i, e, w⟩ := hF
    exact hX pc ls st σ ⟨i, e, am_wp_C (am_C_s d) w⟩
theorem am_C_le {d d' y : Nat} {as : List Value} {σ : am_M} {Q : am_Q} (h : d ≤ d') (q : am_C d y as σ Q) : am_C d' y as σ Q := by
  obtain ⟨k, rfl⟩ : ∃ k, d' = d + k := ⟨d' - d, by omega⟩
  induction k with
  | zero => exact q
  | succ k ih => exact am_C_s _ _ _ _ _ (ih (by omega))
theorem tI_m1 {c : Nat} (h : c ≤ 256) : tI c = -1 ↔ c = 256 := by
  unfold tI
  constructor
  · intro z
    split at z
    · assumption
    · exact absurd z (am_nm1 (by omega))
  · intro z
    rw [if_pos z]
set_option maxRecDepth 10000 in
set_option maxHeartbeats 2000000 in
theorem c_idle {d : Nat} (hd : 315 ≤ d) {τ : Nat → Nat → Nat} {t L : Nat} {tx : Nat → Nat} (hT3 : T3 t) (ht : τ 44 1 = t) {S : PS} (hW : PW S.2.2.2 S.2.1) (h42 : ∀ k, k < S.2.1 → S.2.2.2 0 k = 42 → S.2.2.2 2 k ≠ 0) (h5L : ∀ k, k < S.2.1 → S.2.2.2 5 k ≤ L) {μ : Nat → Nat → Int32} (hX : XC μ L tx) (hC : CR μ t L S) {Q : am_Q} (h0 : fz S.2.2.2 S.2.1 S.2.1 = S.2.1 → Q none (μ, τ)) (h1 : fz S.2.2.2 S.2.1 S.2.1 < S.2.1 → ∀ μ', KC μ μ' t → XC μ' L tx → FR μ' 5 (S.2.2.2 5 (fz S.2.2.2 S.2.1 S.2.1)) → Q none (μ', τ)) : am_C d 96 [.ref 44] (μ, τ) Q := by
  refine am_enter' (M := M_X6_refuseIdleLoop) rfl rfl rfl (by omega) (ls := [some (.ref 44), none]) rfl (fun d' hd' => ?_)
  refine am_run 2 (pc' := 2) (ls' := [some (.ref 44), some (.int (nI 0))]) (st' := []) (σ' := (μ, τ)) rfl ?_
  exact idl_loop (by omega) hT3 ht hW h42 h5L hX hC h0 h1 S.2.1 0 (by omega) rfl
/-! the class reads the text -/
theorem FR.wt {μ : Nat → Nat → Int32} {τ : Nat → Nat → Nat} {k fp t f : Nat} (hT : T3 t) (h : FR μ k fp) (x : Int32) : FR (am_wr (μ, τ) t f x).1 k fp := h.of (am_wr_ne _ (by unfold T3 at hT; omega))
theorem CR.root {μ : Nat → Nat → Int32} {τ : Nat → Nat → Nat} {t L : Nat} {S : PS} (hT : T3 t) (h : CR μ t L S) (x : Int32) : CR (am_wr (μ, τ) t 10 x).1 t L S := by
  obtain ⟨c1, c2, c3, c4, c5, c6, c7, c8⟩ := h
  have ne : ∀ c, c ≠ t → (am_wr (μ, τ) t 10 x).1 c = μ c := fun c hc => am_wr_ne _ hc
  have t44 : (44 : Nat) ≠ t := by unfold T3 at hT; omega
  exact ⟨c1, c2, c3, by rw [ne 44 t44]; exact c4, by rw [ne 44 t44]; exact c5, by rw [am_diff _ _ _ _ _ (by decide)]; exact c6, by rw [am_diff _ _ _ _ _ (by decide)]; exact c7, fun i hi => (c8 i hi).old (fun _ => rfl) (fun j hj => by rw [ne _ (by omega)])⟩
set_option maxRecDepth 10000 in
set_option maxHeartbeats 2000000 in
theorem c_readText {d : Nat} (hd : 320 ≤ d) {μ : Nat → Nat → Int32} {τ : Nat → Nat → Nat} {t L : Nat} {tx : Nat → Nat} (hT3 : T3 t) (ht : τ 44 1 = t) (hX : XC μ L tx) {Q : am_Q} (hA : ∀ k fp μ', p_rt tx L = .inl (k, fp) → KC μ μ' t → XC μ' L tx → FR μ' k fp → Q none (μ', τ)) (hB : ∀ S r μ', p_rt tx L = .inr (S, r) → fz S.2.2.2 S.2.1 S.2.1 < S.2.1 → KC μ μ' t → XC μ' L tx → FR μ' 5 (S.2.2.2 5 (fz S.2.2.2 S.2.1 S.2.1)) → Q none (μ', τ)) (hC : ∀ S q r μ', p_rt tx L = .inr (S, r) → fz S.2.2.2 S.2.1 S.2.1 = S.2.1 → KC μ μ' t → XC μ' L tx → CR μ' t L (ps_at S q) → μ' t 10 = nI r → Q none (μ', τ)) : am_C d 82 [.ref 44] (μ, τ) Q := by
  have tne : t ≠ 44 := by unfold T3 at hT3; omega
  have tne' : (44 : Nat) ≠ t := fun z => tne z.symm
  refine am_enter' (M := M_X6_readText) rfl rfl rfl (by omega) (ls := [some (.ref 44)]) rfl (fun d' hd' => ?_)
  refine am_run 11 (pc' := 19) (ls' := [some (.ref 44)]) (st' := [.ref (τ 44 1)]) (σ' := (am_wr (am_wr (am_wr (μ, τ) 44 2 (nI 0)) 44 3 (nI 0)) 44 4 (nI 0))) rfl ?_
  refine am_stk (st' := [.ref t]) (by rw [ht]) ?_
  refine am_invv (y := 101) (b := t) (as := []) (rest := []) rfl rfl rfl rfl rfl rfl (t3_kind hT3) (Nat.le_of_ble_eq_true rfl) ?_
  refine am_enter' rfl rfl rfl (by omega) (ls := [some (.ref t)]) rfl (fun d_1 hd_1 => ?_)
  refine am_run 2 (pc' := 2) (ls' := [some (.ref t)]) (st' := [.int (nI 0), .ref t]) (σ' := (am_wr (am_wr (am_wr (μ, τ) 44 2 (nI 0)) 44 3 (nI 0)) 44 4 (nI 0))) rfl ?_
  refine am_putI (k := 8) rfl rfl (t3_kind hT3) rfl ?_
  refine am_run 2 (pc' := 7) (ls' := [some (.ref t)]) (st' := [.int (nI 0), .ref t]) (σ' := (am_wr (am_wr (am_wr (am_wr (μ, τ) 44 2 (nI 0)) 44 3 (nI 0)) 44 4 (nI 0)) t 8 (nI 0))) rfl ?_
  refine am_putI (k := 9) rfl rfl (t3_kind hT3) rfl ?_
  refine am_run 2 (pc' := 12) (ls' := [some (.ref t)]) (st' := [.int (-1), .ref t]) (σ' := (am_wr (am_wr (am_wr (am_wr (am_wr (μ, τ) 44 2 (nI 0)) 44 3 (nI 0)) 44 4 (nI 0)) t 8 (nI 0)) t 9 (nI 0))) rfl ?_
  refine am_putI (k := 10) rfl rfl (t3_kind hT3) rfl ?_
  refine am_retv rfl rfl ?_
  show am_G _ M_X6_readText _ 22 [some (.ref 44)] [] (am_wr (am_wr (am_wr (am_wr (am_wr (am_wr (μ, τ) 44 2 (nI 0)) 44 3 (nI 0)) 44 4 (nI 0)) t 8 (nI 0)) t 9 (nI 0)) t 10 (-1))
  refine am_run 2 (pc' := 26) (ls' := [some (.ref 44)]) (st' := [.ref (τ 44 1)]) (σ' := (am_wr (am_wr (am_wr (am_wr (am_wr (am_wr (μ, τ) 44 2 (nI 0)) 44 3 (nI 0)) 44 4 (nI 0)) t 8 (nI 0)) t 9 (nI 0)) t 10 (-1))) rfl ?_
  refine am_stk (st' := [.ref t]) (by rw [ht]) ?_
  refine am_run 4 (pc' := 30) (ls' := [some (.ref 44)]) (st' := [.int (nI 0), .int (nI 0), .int (nI 0), .ref 44, .ref t]) (σ' := (am_wr (am_wr (am_wr (am_wr (am_wr (am_wr (μ, τ) 44 2 (nI 0)) 44 3 (nI 0)) 44 4 (nI 0)) t 8 (nI 0)) t 9 (nI 0)) t 10 (-1))) rfl ?_
  refine am_invv (y := 87) (b := 44) (as := [.int (nI 0), .int (nI 0), .int (nI 0)]) (rest := [.ref t]) rfl rfl rfl rfl rfl rfl rfl (Nat.le_of_ble_eq_true rfl) ?_
  have hK1 : KC μ (am_wr (am_wr (am_wr (am_wr (am_wr (am_wr (μ, τ) 44 2 (nI 0)) 44 3 (nI 0)) 44 4 (nI 0)) t 8 (nI 0)) t 9 (nI 0)) t 10 (-1)).1 t := (((((((KC.rf μ t).w44 _ _).w44 _ _).w44 _ _).wt (by omega) _ _).wt (by omega) _ _).wt (by omega) _ _)
  have hX1 : XC (am_wr (am_wr (am_wr (am_wr (am_wr (am_wr (μ, τ) 44 2 (nI 0)) 44 3 (nI 0)) 44 4 (nI 0)) t 8 (nI 0)) t 9 (nI 0)) t 10 (-1)).1 L tx := hK1.xc hT3 hX
  have hC1 : CR (am_wr (am_wr (am_wr (am_wr (am_wr (am_wr (μ, τ) 44 2 (nI 0)) 44 3 (nI 0)) 44 4 (nI 0)) t 8 (nI 0)) t 9 (nI 0)) t 10 (-1)).1 t L (0, 0, 0, fun _ _ => 0) := ⟨Nat.zero_le _, by decide, by decide, by rw [am_ne2 _ (by omega), am_ne2 _ (by omega), am_ne2 _ (by omega), am_ne2 _ (by omega), am_ne2 _ (by omega), am_same], by rw [am_ne2 _ (by omega), am_ne2 _ (by omega), am_ne2 _ (by omega), am_ne2 _ (by omega), am_same], by rw [am_ne2 _ (by omega), am_ne2 _ (by omega), am_same], by rw [am_ne2 _ (by omega), am_same], fun i hi => absurd hi (Nat.not_lt_zero _)⟩
  have hlv := PCt.lv (L := L) (tx := tx) hT3 ht 12 0 rfl
  refine am_C_le (d := 59) (by omega) ?_
  refine hlv (am_wr (am_wr (am_wr (am_wr (am_wr (am_wr (μ, τ) 44 2 (nI 0)) 44 3 (nI 0)) 44 4 (nI 0)) t 8 (nI 0)) t 9 (nI 0)) t 10 (-1)).1 (0, 0, 0, fun _ _ => 0) 0 0 _ hX1 hC1 (by omega) (by omega) (fun μ2 v k fp hx hK2 hX2 hF2 => ?_) (fun μ2 S r hx hK2 hX2 hC2 hr0 hr1 => ?_)
  · have hx := rt_flt hx
    have kk5 := hF2.2.2
    have hX3 : XC (am_wr (μ2, τ) t 10 v).1 L tx := ((KC.rf μ2 t).wt (τ := τ) (c := t) (by omega) 10 v).xc hT3 hX2
    have hF3 : FR (am_wr (μ2, τ) t 10 v).1 k fp := hF2.wt hT3 v
    have hK3 : KC μ (am_wr (μ2, τ) t 10 v).1 t := (hK1.tr hK2).wt (by omega) _ _
    show am_G _ M_X6_readText _ 33 [some (.ref 44)] [.int v, .ref t] (μ2, τ)
    refine am_invv (y := 105) (b := t) (as := [.int v]) (rest := []) rfl rfl rfl rfl rfl rfl (t3_kind hT3) (Nat.le_of_ble_eq_true rfl) ?_
    refine am_enter' rfl rfl rfl (by omega) (ls := [some (.ref t), some (.int v)]) rfl (fun d_2 hd_2 => ?_)
    refine am_run 2 (pc' := 2) (ls' := [some (.ref t), some (.int v)]) (st' := [.int v, .ref t]) (σ' := (μ2, τ)) rfl ?_
    refine am_putI (k := 10) rfl rfl (t3_kind hT3) rfl ?_
    refine am_retv rfl rfl ?_
    show am_G _ M_X6_readText _ 36 [some (.ref 44)] [] (am_wr (μ2, τ) t 10 v)
    refine am_run 1 (pc' := 37) (ls' := [some (.ref 44)]) (st' := [.ref 44]) (σ' := (am_wr (μ2, τ) t 10 v)) rfl ?_
    refine am_invv (y := 85) (b := 44) (as := []) (rest := []) rfl rfl rfl rfl rfl rfl rfl (Nat.le_of_ble_eq_true rfl) ?_
    refine c_look_f (μ := (am_wr (μ2, τ) t 10 v).1) (τ := τ) (t := t) (by omega) hX3 hF3 (fun μ4 v4 hK4 hF4 => ?_)
    have hX4 := hK4.xc hT3 hX3
    have hq := hA k fp μ4 hx (hK3.tr hK4) hX4 hF4
    show am_G _ M_X6_readText _ 40 [some (.ref 44)] [.int v4] (μ4, τ)
    refine am_run 1 (pc' := 41) (ls' := [some (.ref 44)]) (st' := [.int (-1), .int v4]) (σ' := (μ4, τ)) rfl ?_
    refine am_ic (ty := 49) (tn := 44) rfl (by decide) rfl rfl (fun (h_3 : v4 = -1) => ?_) (fun (h_3 : ¬ (v4 = -1)) => ?_)
    · refine am_run 1 (pc' := 50) (ls' := [some (.ref 44)]) (st' := [.ref 44]) (σ' := (μ4, τ)) rfl ?_
      refine am_invv (y := 83) (b := 44) (as := []) (rest := []) rfl rfl rfl rfl rfl rfl rfl (Nat.le_of_ble_eq_true rfl) ?_
      refine am_enter' rfl rfl rfl (by omega) (ls := [some (.ref 44)]) rfl (fun d_4 hd_4 => ?_)
      refine am_run 2 (pc' := 4) (ls' := [some (.ref 44)]) (st' := [.int ((μ4, τ).1 44 3)]) (σ' := (μ4, τ)) rfl ?_
      refine am_top (v' := nI k) hF4.1 ?_
      refine am_if (ty := 7) (tn := 11) rfl (by decide) rfl rfl (fun (h_5 : nI k = 0) => ?_) (fun (h_5 : ¬ (nI k = 0)) => ?_)
      · have h_5 : k = 0 := (am_n0 (by omega)).mp h_5
        omega
      have h_5 : ¬ (k = 0) := fun z => h_5 ((am_n0 (by omega)).mpr z)
      refine am_run 1 (pc' := 12) (ls' := [some (.ref 44)]) (st' := [.int (nI 0)]) (σ' := (μ4, τ)) rfl ?_
      refine am_retz rfl rfl (by decide) ?_
      show am_G _ M_X6_readText _ 53 [some (.ref 44)] [.int (nI 0)] (μ4, τ)
      refine am_if (ty := 60) (tn := 56) rfl (by decide) rfl rfl (fun (h_6 : nI 0 = 0) => ?_) (fun (h_6 : ¬ (nI 0 = 0)) => ?_)
      rotate_left
      · exact absurd (by decide) h_6
      refine am_retv rfl rfl ?_
      exact hq
    · refine am_run 2 (pc' := 46) (ls' := [some (.ref 44)]) (st' := [.int (nI 1), .ref 44]) (σ' := (μ4, τ)) rfl ?_
      refine am_invv (y := 84) (b := 44) (as := [.int (nI 1)]) (rest := []) rfl rfl rfl rfl rfl rfl rfl (Nat.le_of_ble_eq_true rfl) ?_
      refine c_refuse_f (by omega) hT3 hX4 hF4 ?_
      show am_G _ M_X6_readText _ 49 [some (.ref 44)] [] (μ4, τ)
      refine am_run 1 (pc' := 50) (ls' := [some (.ref 44)]) (st' := [.ref 44]) (σ' := (μ4, τ)) rfl ?_
      refine am_invv (y := 83) (b := 44) (as := []) (rest := []) rfl rfl rfl rfl rfl rfl rfl (Nat.le_of_ble_eq_true rfl) ?_
      refine am_enter' rfl rfl rfl (by omega) (ls := [some (.ref 44)]) rfl (fun d_7 hd_7 => ?_)
      refine am_run 2 (pc' := 4) (ls' := [some (.ref 44)]) (st' := [.int ((μ4, τ).1 44 3)]) (σ' := (μ4, τ)) rfl ?_
      refine am_top (v' := nI k) hF4.1 ?_
      refine am_if (ty := 7) (tn := 11) rfl (by decide) rfl rfl (fun (h_8 : nI k = 0) => ?_) (fun (h_8 : ¬ (nI k = 0)) => ?_)
      · have h_8 : k = 0 := (am_n0 (by omega)).mp h_8
        omega
      have h_8 : ¬ (k = 0) := fun z => h_8 ((am_n0 (by omega)).mpr z)
      refine am_run 1 (pc' := 12) (ls' := [some (.ref 44)]) (st' := [.int (nI 0)]) (σ' := (μ4, τ)) rfl ?_
      refine am_retz rfl rfl (by decide) ?_
      show am_G _ M_X6_readText _ 53 [some (.ref 44)] [.int (nI 0)] (μ4, τ)
      refine am_if (ty := 60) (tn := 56) rfl (by decide) rfl rfl (fun (h_9 : nI 0 = 0) => ?_) (fun (h_9 : ¬ (nI 0 = 0)) => ?_)
      rotate_left
      · exact absurd (by decide) h_9
      refine am_retv rfl rfl ?_
      exact hq
  · have hx := rt_go hx
    have hX3 : XC (am_wr (μ2, τ) t 10 (nI r)).1 L tx := ((KC.rf μ2 t).wt (τ := τ) (c := t) (by omega) 10 (nI r)).xc hT3 hX2
    have hC3 := hC2.root (τ := τ) hT3 (nI r)
    have hK3 : KC μ (am_wr (μ2, τ) t 10 (nI r)).1 t := (hK1.tr hK2).wt (by omega) _ _
    show am_G _ M_X6_readText _ 33 [some (.ref 44)] [.int (nI r), .ref t] (μ2, τ)
    refine am_invv (y := 105) (b := t) (as := [.int (nI r)]) (rest := []) rfl rfl rfl rfl rfl rfl (t3_kind hT3) (Nat.le_of_ble_eq_true rfl) ?_
    refine am_enter' rfl rfl rfl (by omega) (ls := [some (.ref t), some (.int (nI r))]) rfl (fun d_10 hd_10 => ?_)
    refine am_run 2 (pc' := 2) (ls' := [some (.ref t), some (.int (nI r))]) (st' := [.int (nI r), .ref t]) (σ' := (μ2, τ)) rfl ?_
    refine am_putI (k := 10) rfl rfl (t3_kind hT3) rfl ?_
    refine am_retv rfl rfl ?_
    show am_G _ M_X6_readText _ 36 [some (.ref 44)] [] (am_wr (μ2, τ) t 10 (nI r))
    refine am_run 1 (pc' := 37) (ls' := [some (.ref 44)]) (st' := [.ref 44]) (σ' := (am_wr (μ2, τ) t 10 (nI r))) rfl ?_
    refine am_invv (y := 85) (b := 44) (as := []) (rest := []) rfl rfl rfl rfl rfl rfl rfl (Nat.le_of_ble_eq_true rfl) ?_
    refine c_look0 (μ := (am_wr (μ2, τ) t 10 (nI r)).1) (τ := τ) (by omega) hX3 hC3.1 hC3.2.2.2.1 (fun μ4 e1 e2 e3 => ?_)
    have hlk := lk_le (tx := tx) hC3.1
    have hC4 : CR μ4 t L (ps_at S (lk tx L S.1)) := hC3.at hT3 e1 (e2 3 (by decide)) e3 hlk.2
    have hK4 : KC μ μ4 t := fun c a b => (e1 c a).trans (hK3 c a b)
    have hX4 : XC μ4 L tx := hK4.xc hT3 hX
    have e10 : μ4 t 10 = nI r := by rw [e1 t tne]; exact am_same _ _ _ _
    show am_G _ M_X6_readText _ 40 [some (.ref 44)] [.int (tI (tk tx L (lk tx L S.1)))] (μ4, τ)
    refine am_run 1 (pc' := 41) (ls' := [some (.ref 44)]) (st' := [.int (-1), .int (tI (tk tx L (lk tx L S.1)))]) (σ' := (μ4, τ)) rfl ?_
    refine am_ic (ty := 49) (tn := 44) rfl (by decide) rfl rfl (fun (h_11 : tI (tk tx L (lk tx L S.1)) = -1) => ?_) (fun (h_11 : ¬ (tI (tk tx L (lk tx L S.1)) = -1)) => ?_)
    · have he : tk tx L (lk tx L S.1) = 256 := (tI_m1 (tk_le hX4 _).1).mp h_11
      refine am_run 1 (pc' := 50) (ls' := [some (.ref 44)]) (st' := [.ref 44]) (σ' := (μ4, τ)) rfl ?_
      refine am_invv (y := 83) (b := 44) (as := []) (rest := []) rfl rfl rfl rfl rfl rfl rfl (Nat.le_of_ble_eq_true rfl) ?_
      refine am_enter' rfl rfl rfl (by omega) (ls := [some (.ref 44)]) rfl (fun d_12 hd_12 => ?_)
      refine am_run 2 (pc' := 4) (ls' := [some (.ref 44)]) (st' := [.int ((μ4, τ).1 44 3)]) (σ' := (μ4, τ)) rfl ?_
      refine am_top (v' := nI 0) hC4.2.2.2.2.1 ?_
      refine am_if (ty := 7) (tn := 11) rfl (by decide) rfl rfl (fun (h_13 : nI 0 = 0) => ?_) (fun (h_13 : ¬ (nI 0 = 0)) => ?_)
      rotate_left
      · exact absurd (by decide) h_13
      refine am_run 2 (pc' := 12) (ls' := [some (.ref 44)]) (st' := [.int (nI 1)]) (σ' := (μ4, τ)) rfl ?_
      refine am_retz rfl rfl (by decide) ?_
      show am_G _ M_X6_readText _ 53 [some (.ref 44)] [.int (nI 1)] (μ4, τ)
      refine am_if (ty := 60) (tn := 56) rfl (by decide) rfl rfl (fun (h_14 : nI 1 = 0) => ?_) (fun (h_14 : ¬ (nI 1 = 0)) => ?_)
      · exact absurd h_14 (by decide)
      refine am_run 1 (pc' := 57) (ls' := [some (.ref 44)]) (st' := [.ref 44]) (σ' := (μ4, τ)) rfl ?_
      refine am_invv (y := 96) (b := 44) (as := []) (rest := []) rfl rfl rfl rfl rfl rfl rfl (Nat.le_of_ble_eq_true rfl) ?_
      rw [if_pos he] at hx
      obtain ⟨σz, gz, hR, hkk⟩ := rt_sg hX.1 (fun i hi => (hX.2.2 i hi).1) hx
      have hpk := rt_pk hx
      refine c_idle (S := ps_at S (lk tx L S.1)) (by omega) hT3 ht hR.pw (fun k hk z => (hR.nd hk).1.1.2.2.2.2.2.2.1 (Or.inl z)) (fun k hk => Nat.le_of_lt (hpk.2.2 k hk).1) hX4 hC4 (fun hz => ?_) (fun hz μ5 hK5 hX5 hF5 => ?_)
      · have hq := hC S _ r μ4 hx hz hK4 hX4 hC4 e10
        show am_G _ M_X6_readText _ 60 [some (.ref 44)] [] (μ4, τ)
        refine am_retv rfl rfl ?_
        exact hq
      · have hq := hB S r μ5 hx hz (hK4.tr hK5) hX5 hF5
        show am_G _ M_X6_readText _ 60 [some (.ref 44)] [] (μ5, τ)
        refine am_retv rfl rfl ?_
        exact hq
    · have hne : ¬ tk tx L (lk tx L S.1) = 256 := fun z => h_11 ((tI_m1 (tk_le hX4 _).1).mpr z)
      refine am_run 2 (pc' := 46) (ls' := [some (.ref 44)]) (st' := [.int (nI 1), .ref 44]) (σ' := (μ4, τ)) rfl ?_
      refine am_invv (y := 84) (b := 44) (as := [.int (nI 1)]) (rest := []) rfl rfl rfl rfl rfl rfl rfl (Nat.le_of_ble_eq_true rfl) ?_
      refine c_refuse (by omega) hT3 hX4 hC4 (y := 1) (by decide) (fun μ5 hK5 hX5 hF5 _ => ?_)
      rw [if_neg hne] at hx
      have hq := hA 1 _ μ5 hx (hK4.tr hK5) hX5 hF5
      show am_G _ M_X6_readText _ 49 [some (.ref 44)] [] (μ5, τ)
      refine am_run 1 (pc' := 50) (ls' := [some (.ref 44)]) (st' := [.ref 44]) (σ' := (μ5, τ)) rfl ?_
      refine am_invv (y := 83) (b := 44) (as := []) (rest := []) rfl rfl rfl rfl rfl rfl rfl (Nat.le_of_ble_eq_true rfl) ?_
      refine am_enter' rfl rfl rfl (by omega) (ls := [some (.ref 44)]) rfl (fun d_15 hd_15 => ?_)
      refine am_run 2 (pc' := 4) (ls' := [some (.ref 44)]) (st' := [.int ((μ5, τ).1 44 3)]) (σ' := (μ5, τ)) rfl ?_
      refine am_top (v' := nI 1) hF5.1 ?_
      refine am_if (ty := 7) (tn := 11) rfl (by decide) rfl rfl (fun (h_16 : nI 1 = 0) => ?_) (fun (h_16 : ¬ (nI 1 = 0)) => ?_)
      · exact absurd h_16 (by decide)
      refine am_run 1 (pc' := 12) (ls' := [some (.ref 44)]) (st' := [.int (nI 0)]) (σ' := (μ5, τ)) rfl ?_
      refine am_retz rfl rfl (by decide) ?_
      show am_G _ M_X6_readText _ 53 [some (.ref 44)] [.int (nI 0)] (μ5, τ)
      refine am_if (ty := 60) (tn := 56) rfl (by decide) rfl rfl (fun (h_17 : nI 0 = 0) => ?_) (fun (h_17 : ¬ (nI 0 = 0)) => ?_)
      rotate_left
      · exact absurd (by decide) h_17
      refine am_retv rfl rfl ?_
      exact hq

theorem FR.w2 {μ : Nat → Nat → Int32} {τ : Nat → Nat → Nat} {k fp : Nat} (h : FR μ k fp) (x : Int32) : FR (am_wr (μ, τ) 44 2 x).1 k fp := by
  unfold FR
  rw [am_diff _ _ _ _ _ (by decide), am_diff _ _ _ _ _ (by decide)]
  exact h
theorem FR.of {μ μ' : Nat → Nat → Int32} {k fp : Nat} (h : FR μ k fp) (e : μ' 44 = μ 44) : FR μ' k fp := by
  unfold FR
  rw [e]
  exact h
theorem CR.w2 {μ : Nat → Nat → Int32} {τ : Nat → Nat → Nat} {t L : Nat} {S : PS} (hT : T3 t) (h : CR μ t L S) {q : Nat} (hq : q ≤ L) : CR (am_wr (μ, τ) 44 2 (nI q)).1 t L (ps_at S q) := h.at hT (fun c hc => am_wr_ne _ hc) (am_diff _ _ _ _ _ (by decide)) (am_same _ _ _ _) hq
set_option maxRecDepth 10000 in
set_option maxHeartbeats 2000000 in
theorem c_readSignal_f {d : Nat} (hd : 4 ≤ d) {μ : Nat → Nat → Int32} {τ : Nat → Nat → Nat} {t L k fp : Nat} {tx : Nat → Nat} (hT3 : T3 t) (hX : XC μ L tx) (hF : FR μ k fp) (ht : τ 44 1 = t) {y : Int32} {Q : am_Q} (hq : ∀ μ', KC μ μ' t → XC μ' L tx → FR μ' k fp → Q none (μ', τ)) : am_C d 94 [.ref 44, .int y] (μ, τ) Q := by
  refine am_enter' (M := M_X6_readSignal) rfl rfl rfl (by omega) (ls := [some (.ref 44), some (.int y), none]) rfl (fun d' hd' => ?_)
  refine am_run 1 (pc' := 1) (ls' := [some (.ref 44), some (.int y), none]) (st' := [.ref 44]) (σ' := (μ, τ)) rfl ?_
  refine am_invv (y := 85) (b := 44) (as := []) (rest := []) rfl rfl rfl rfl rfl rfl rfl (Nat.le_of_ble_eq_true rfl) ?_
  refine c_look_f (t := t) (by omega) hX hF (fun μ1 v1 hK1 hF1 => ?_)
  have hX1 := hK1.xc hT3 hX
  show am_G _ M_X6_readSignal _ 4 [some (.ref 44), some (.int y), none] [.int v1] (μ1, τ)
  refine am_run 3 (pc' := 8) (ls' := [some (.ref 44), some (.int y), some (.int v1)]) (st' := [.int (nI 97), .int v1]) (σ' := (μ1, τ)) rfl ?_
  refine am_ic (ty := 17) (tn := 11) rfl (by decide) rfl rfl (fun (h_1 : v1 < nI 97) => ?_) (fun (h_1 : ¬ (v1 < nI 97)) => ?_)
  · refine am_run 2 (pc' := 19) (ls' := [some (.ref 44), some (.int y), some (.int v1)]) (st' := [.int (nI 1), .ref 44]) (σ' := (μ1, τ)) rfl ?_
    refine am_invv (y := 84) (b := 44) (as := [.int (nI 1)]) (rest := []) rfl rfl rfl rfl rfl rfl rfl (Nat.le_of_ble_eq_true rfl) ?_
    refine c_refuse_f (by omega) hT3 hX1 hF1 ?_
    show am_G _ M_X6_readSignal _ 22 [some (.ref 44), some (.int y), some (.int v1)] [] (μ1, τ)
    refine am_run 2 (pc' := 26) (ls' := [some (.ref 44), some (.int y), some (.int v1)]) (st' := [.ref (τ 44 1)]) (σ' := (μ1, τ)) rfl ?_
    refine am_stk (st' := [.ref t]) (by rw [ht]) ?_
    refine am_run 4 (pc' := 31) (ls' := [some (.ref 44), some (.int y), some (.int v1)]) (st' := [.int (v1 - nI 97), .int y, .ref t]) (σ' := (μ1, τ)) rfl ?_
    refine am_invv (y := 110) (b := t) (as := [.int y, .int (v1 - nI 97)]) (rest := []) rfl rfl rfl rfl rfl rfl (t3_kind hT3) (Nat.le_of_ble_eq_true rfl) ?_
    refine c_setDetail_f (by omega) hT3 (fun μ2 hK2 h442 => ?_)
    have hF2 := hF1.of h442
    show am_G _ M_X6_readSignal _ 34 [some (.ref 44), some (.int y), some (.int v1)] [] (μ2, τ)
    refine am_run 6 (pc' := 44) (ls' := [some (.ref 44), some (.int y), some (.int v1)]) (st' := []) (σ' := (am_wr (μ2, τ) 44 2 (((μ2, τ).1 44 2) + nI 1))) rfl ?_
    refine am_retv rfl rfl ?_
    have hK3 : KC μ (am_wr (μ2, τ) 44 2 (((μ2, τ).1 44 2) + nI 1)).1 t := (hK1.tr hK2).w44 _ _
    exact hq _ hK3 (hK3.xc hT3 hX) (hF2.w2 _)
  · refine am_run 2 (pc' := 14) (ls' := [some (.ref 44), some (.int y), some (.int v1)]) (st' := [.int (nI 104), .int v1]) (σ' := (μ1, τ)) rfl ?_
    refine am_ic (ty := 17) (tn := 22) rfl (by decide) rfl rfl (fun (h_2 : nI 104 < v1) => ?_) (fun (h_2 : ¬ (nI 104 < v1)) => ?_)
    · refine am_run 2 (pc' := 19) (ls' := [some (.ref 44), some (.int y), some (.int v1)]) (st' := [.int (nI 1), .ref 44]) (σ' := (μ1, τ)) rfl ?_
      refine am_invv (y := 84) (b := 44) (as := [.int (nI 1)]) (rest := []) rfl rfl rfl rfl rfl rfl rfl (Nat.le_of_ble_eq_true rfl) ?_
      refine c_refuse_f (by omega) hT3 hX1 hF1 ?_
      show am_G _ M_X6_readSignal _ 22 [some (.ref 44), some (.int y), some (.int v1)] [] (μ1, τ)
      refine am_run 2 (pc' := 26) (ls' := [some (.ref 44), some (.int y), some (.int v1)]) (st' := [.ref (τ 44 1)]) (σ' := (μ1, τ)) rfl ?_
      refine am_stk (st' := [.ref t]) (by rw [ht]) ?_
      refine am_run 4 (pc' := 31) (ls' := [some (.ref 44), some (.int y), some (.int v1)]) (st' := [.int (v1 - nI 97), .int y, .ref t]) (σ' := (μ1, τ)) rfl ?_
      refine am_invv (y := 110) (b := t) (as := [.int y, .int (v1 - nI 97)]) (rest := []) rfl rfl rfl rfl rfl rfl (t3_kind hT3) (Nat.le_of_ble_eq_true rfl) ?_
      refine c_setDetail_f (by omega) hT3 (fun μ2 hK2 h442 => ?_)
      have hF2 := hF1.of h442
      show am_G _ M_X6_readSignal _ 34 [some (.ref 44), some (.int y), some (.int v1)] [] (μ2, τ)
      refine am_run 6 (pc' := 44) (ls' := [some (.ref 44), some (.int y), some (.int v1)]) (st' := []) (σ' := (am_wr (μ2, τ) 44 2 (((μ2, τ).1 44 2) + nI 1))) rfl ?_
      refine am_retv rfl rfl ?_
      have hK3 : KC μ (am_wr (μ2, τ) 44 2 (((μ2, τ).1 44 2) + nI 1)).1 t := (hK1.tr hK2).w44 _ _
      exact hq _ hK3 (hK3.xc hT3 hX) (hF2.w2 _)
    · refine am_run 2 (pc' := 26) (ls' := [some (.ref 44), some (.int y), some (.int v1)]) (st' := [.ref (τ 44 1)]) (σ' := (μ1, τ)) rfl ?_
      refine am_stk (st' := [.ref t]) (by rw [ht]) ?_
      refine am_run 4 (pc' := 31) (ls' := [some (.ref 44), some (.int y), some (.int v1)]) (st' := [.int (v1 - nI 97), .int y, .ref t]) (σ' := (μ1, τ)) rfl ?_
      refine am_invv (y := 110) (b := t) (as := [.int y, .int (v1 - nI 97)]) (rest := []) rfl rfl rfl rfl rfl rfl (t3_kind hT3) (Nat.le_of_ble_eq_true rfl) ?_
      refine c_setDetail_f (by omega) hT3 (fun μ2 hK2 h442 => ?_)
      have hF2 := hF1.of h442
      show am_G _ M_X6_readSignal _ 34 [some (.ref 44), some (.int y), some (.int v1)] [] (μ2, τ)
      refine am_run 6 (pc' := 44) (ls' := [some (.ref 44), some (.int y), some (.int v1)]) (st' := []) (σ' := (am_wr (μ2, τ) 44 2 (((μ2, τ).1 44 2) + nI 1))) rfl ?_
      refine am_retv rfl rfl ?_
      have hK3 : KC μ (am_wr (μ2, τ) 44 2 (((μ2, τ).1 44 2) + nI 1)).1 t := (hK1.tr hK2).w44 _ _
      exact hq _ hK3 (hK3.xc hT3 hX) (hF2.w2 _)
set_option maxRecDepth 10000 in
set_option maxHeartbeats 2000000 in
theorem c_readDigit_f {d : Nat} (hd : 4 ≤ d) {μ : Nat → Nat → Int32} {τ : Nat → Nat → Nat} {t L k fp : Nat} {tx : Nat → Nat} (hT3 : T3 t) (hX : XC μ L tx) (hF : FR μ k fp) (ht : τ 44 1 = t) {y z : Int32} {Q : am_Q} (hq : ∀ μ', KC μ μ' t → XC μ' L tx → FR μ' k fp → Q none (μ', τ)) : am_C d 95 [.ref 44, .int y, .int z] (μ, τ) Q := by
  refine am_enter' (M := M_X6_readDigit) rfl rfl rfl (by omega) (ls := [some (.ref 44), some (.int y), some (.int z), none]) rfl (fun d' hd' => ?_)
  refine am_run 1 (pc' := 1) (ls' := [some (.ref 44), some (.int y), some (.int z), none]) (st' := [.ref 44]) (σ' := (μ, τ)) rfl ?_
  refine am_invv (y := 85) (b := 44) (as := []) (rest := []) rfl rfl rfl rfl rfl rfl rfl (Nat.le_of_ble_eq_true rfl) ?_
  refine c_look_f (t := t) (by omega) hX hF (fun μ1 v1 hK1 hF1 => ?_)
  have hX1 := hK1.xc hT3 hX
  show am_G _ M_X6_readDigit _ 4 [some (.ref 44), some (.int y), some (.int z), none] [.int v1] (μ1, τ)
  refine am_run 3 (pc' := 8) (ls' := [some (.ref 44), some (.int y), some (.int z), some (.int v1)]) (st' := [.int (nI 48), .int v1]) (σ' := (μ1, τ)) rfl ?_
  refine am_ic (ty := 17) (tn := 11) rfl (by decide) rfl rfl (fun (h_1 : v1 < nI 48) => ?_) (fun (h_1 : ¬ (v1 < nI 48)) => ?_)
  · refine am_run 2 (pc' := 19) (ls' := [some (.ref 44), some (.int y), some (.int z), some (.int v1)]) (st' := [.int (nI 1), .ref 44]) (σ' := (μ1, τ)) rfl ?_
    refine am_invv (y := 84) (b := 44) (as := [.int (nI 1)]) (rest := []) rfl rfl rfl rfl rfl rfl rfl (Nat.le_of_ble_eq_true rfl) ?_
    refine c_refuse_f (by omega) hT3 hX1 hF1 ?_
    show am_G _ M_X6_readDigit _ 22 [some (.ref 44), some (.int y), some (.int z), some (.int v1)] [] (μ1, τ)
    refine am_run 3 (pc' := 42) (ls' := [some (.ref 44), some (.int y), some (.int z), some (.int v1)]) (st' := [.ref (τ 44 1)]) (σ' := (μ1, τ)) rfl ?_
    refine am_stk (st' := [.ref t]) (by rw [ht]) ?_
    refine am_run 4 (pc' := 47) (ls' := [some (.ref 44), some (.int y), some (.int z), some (.int v1)]) (st' := [.int (v1 - nI 48), .int y, .ref t]) (σ' := (μ1, τ)) rfl ?_
    refine am_invv (y := 110) (b := t) (as := [.int y, .int (v1 - nI 48)]) (rest := []) rfl rfl rfl rfl rfl rfl (t3_kind hT3) (Nat.le_of_ble_eq_true rfl) ?_
    refine c_setDetail_f (by omega) hT3 (fun μ2 hK2 h442 => ?_)
    have hF2 := hF1.of h442
    show am_G _ M_X6_readDigit _ 50 [some (.ref 44), some (.int y), some (.int z), some (.int v1)] [] (μ2, τ)
    refine am_run 6 (pc' := 60) (ls' := [some (.ref 44), some (.int y), some (.int z), some (.int v1)]) (st' := []) (σ' := (am_wr (μ2, τ) 44 2 (((μ2, τ).1 44 2) + nI 1))) rfl ?_
    refine am_retv rfl rfl ?_
    have hK3 : KC μ (am_wr (μ2, τ) 44 2 (((μ2, τ).1 44 2) + nI 1)).1 t := (hK1.tr hK2).w44 _ _
    exact hq _ hK3 (hK3.xc hT3 hX) (hF2.w2 _)
  · refine am_run 2 (pc' := 14) (ls' := [some (.ref 44), some (.int y), some (.int z), some (.int v1)]) (st' := [.int (nI 52), .int v1]) (σ' := (μ1, τ)) rfl ?_
    refine am_ic (ty := 17) (tn := 25) rfl (by decide) rfl rfl (fun (h_2 : nI 52 < v1) => ?_) (fun (h_2 : ¬ (nI 52 < v1)) => ?_)
    · refine am_run 2 (pc' := 19) (ls' := [some (.ref 44), some (.int y), some (.int z), some (.int v1)]) (st' := [.int (nI 1), .ref 44]) (σ' := (μ1, τ)) rfl ?_
      refine am_invv (y := 84) (b := 44) (as := [.int (nI 1)]) (rest := []) rfl rfl rfl rfl rfl rfl rfl (Nat.le_of_ble_eq_true rfl) ?_
      refine c_refuse_f (by omega) hT3 hX1 hF1 ?_
      show am_G _ M_X6_readDigit _ 22 [some (.ref 44), some (.int y), some (.int z), some (.int v1)] [] (μ1, τ)
      refine am_run 3 (pc' := 42) (ls' := [some (.ref 44), some (.int y), some (.int z), some (.int v1)]) (st' := [.ref (τ 44 1)]) (σ' := (μ1, τ)) rfl ?_
      refine am_stk (st' := [.ref t]) (by rw [ht]) ?_
      refine am_run 4 (pc' := 47) (ls' := [some (.ref 44), some (.int y), some (.int z), some (.int v1)]) (st' := [.int (v1 - nI 48), .int y, .ref t]) (σ' := (μ1, τ)) rfl ?_
      refine am_invv (y := 110) (b := t) (as := [.int y, .int (v1 - nI 48)]) (rest := []) rfl rfl rfl rfl rfl rfl (t3_kind hT3) (Nat.le_of_ble_eq_true rfl) ?_
      refine c_setDetail_f (by omega) hT3 (fun μ2 hK2 h442 => ?_)
      have hF2 := hF1.of h442
      show am_G _ M_X6_readDigit _ 50 [some (.ref 44), some (.int y), some (.int z), some (.int v1)] [] (μ2, τ)
      refine am_run 6 (pc' := 60) (ls' := [some (.ref 44), some (.int y), some (.int z), some (.int v1)]) (st' := []) (σ' := (am_wr (μ2, τ) 44 2 (((μ2, τ).1 44 2) + nI 1))) rfl ?_
      refine am_retv rfl rfl ?_
      have hK3 : KC μ (am_wr (μ2, τ) 44 2 (((μ2, τ).1 44 2) + nI 1)).1 t := (hK1.tr hK2).w44 _ _
      exact hq _ hK3 (hK3.xc hT3 hX) (hF2.w2 _)
    · refine am_run 4 (pc' := 30) (ls' := [some (.ref 44), some (.int y), some (.int z), some (.int v1)]) (st' := [.int (v1 - nI 48), .int z]) (σ' := (μ1, τ)) rfl ?_
      refine am_ic (ty := 38) (tn := 33) rfl (by decide) rfl rfl (fun (h_3 : v1 - nI 48 < z) => ?_) (fun (h_3 : ¬ (v1 - nI 48 < z)) => ?_)
      · refine am_run 2 (pc' := 42) (ls' := [some (.ref 44), some (.int y), some (.int z), some (.int v1)]) (st' := [.ref (τ 44 1)]) (σ' := (μ1, τ)) rfl ?_
        refine am_stk (st' := [.ref t]) (by rw [ht]) ?_
        refine am_run 4 (pc' := 47) (ls' := [some (.ref 44), some (.int y), some (.int z), some (.int v1)]) (st' := [.int (v1 - nI 48), .int y, .ref t]) (σ' := (μ1, τ)) rfl ?_
        refine am_invv (y := 110) (b := t) (as := [.int y, .int (v1 - nI 48)]) (rest := []) rfl rfl rfl rfl rfl rfl (t3_kind hT3) (Nat.le_of_ble_eq_true rfl) ?_
        refine c_setDetail_f (by omega) hT3 (fun μ2 hK2 h442 => ?_)
        have hF2 := hF1.of h442
        show am_G _ M_X6_readDigit _ 50 [some (.ref 44), some (.int y), some (.int z), some (.int v1)] [] (μ2, τ)
        refine am_run 6 (pc' := 60) (ls' := [some (.ref 44), some (.int y), some (.int z), some (.int v1)]) (st' := []) (σ' := (am_wr (μ2, τ) 44 2 (((μ2, τ).1 44 2) + nI 1))) rfl ?_
        refine am_retv rfl rfl ?_
        have hK3 : KC μ (am_wr (μ2, τ) 44 2 (((μ2, τ).1 44 2) + nI 1)).1 t := (hK1.tr hK2).w44 _ _
        exact hq _ hK3 (hK3.xc hT3 hX) (hF2.w2 _)
      · refine am_run 2 (pc' := 35) (ls' := [some (.ref 44), some (.int y), some (.int z), some (.int v1)]) (st' := [.int (nI 2), .ref 44]) (σ' := (μ1, τ)) rfl ?_
        refine am_invv (y := 84) (b := 44) (as := [.int (nI 2)]) (rest := []) rfl rfl rfl rfl rfl rfl rfl (Nat.le_of_ble_eq_true rfl) ?_
        refine c_refuse_f (by omega) hT3 hX1 hF1 ?_
        show am_G _ M_X6_readDigit _ 38 [some (.ref 44), some (.int y), some (.int z), some (.int v1)] [] (μ1, τ)
        refine am_run 2 (pc' := 42) (ls' := [some (.ref 44), some (.int y), some (.int z), some (.int v1)]) (st' := [.ref (τ 44 1)]) (σ' := (μ1, τ)) rfl ?_
        refine am_stk (st' := [.ref t]) (by rw [ht]) ?_
        refine am_run 4 (pc' := 47) (ls' := [some (.ref 44), some (.int y), some (.int z), some (.int v1)]) (st' := [.int (v1 - nI 48), .int y, .ref t]) (σ' := (μ1, τ)) rfl ?_
        refine am_invv (y := 110) (b := t) (as := [.int y, .int (v1 - nI 48)]) (rest := []) rfl rfl rfl rfl rfl rfl (t3_kind hT3) (Nat.le_of_ble_eq_true rfl) ?_
        refine c_setDetail_f (by omega) hT3 (fun μ2 hK2 h442 => ?_)
        have hF2 := hF1.of h442
        show am_G _ M_X6_readDigit _ 50 [some (.ref 44), some (.int y), some (.int z), some (.int v1)] [] (μ2, τ)
        refine am_run 6 (pc' := 60) (ls' := [some (.ref 44), some (.int y), some (.int z), some (.int v1)]) (st' := []) (σ' := (am_wr (μ2, τ) 44 2 (((μ2, τ).1 44 2) + nI 1))) rfl ?_
        refine am_retv rfl rfl ?_
        have hK3 : KC μ (am_wr (μ2, τ) 44 2 (((μ2, τ).1 44 2) + nI 1)).1 t := (hK1.tr hK2).w44 _ _
        exact hq _ hK3 (hK3.xc hT3 hX) (hF2.w2 _)
set_option maxRecDepth 10000 in
set_option maxHeartbeats 2000000 in
theorem c_readSignal {d : Nat} (hd : 4 ≤ d) {μ : Nat → Nat → Int32} {τ : Nat → Nat → Nat} {t L : Nat} {tx : Nat → Nat} {S : PS} (hT3 : T3 t) (hX : XC μ L tx) (hC : CR μ t L S) (ht : τ 44 1 = t) {st : Nat} (hst : st < S.2.1) {Q : am_Q} (hF : ∀ μ', tk tx L (lk tx L S.1) < 97 ∨ 104 < tk tx L (lk tx L S.1) → KC μ μ' t → XC μ' L tx → FR μ' 1 (lk tx L S.1) → Q none (μ', τ)) (hS : ∀ μ', ¬ (tk tx L (lk tx L S.1) < 97 ∨ 104 < tk tx L (lk tx L S.1)) → KC μ μ' t → XC μ' L tx → CR μ' t L (ps_at (ps_det S st (tk tx L (lk tx L S.1) - 97)) (lk tx L S.1 + 1)) → Q none (μ', τ)) : am_C d 94 [.ref 44, .int (nI st)] (μ, τ) Q := by
  obtain ⟨k1, k2, k3⟩ := tk_le hX (lk tx L S.1)
  have hlk := lk_le (tx := tx) hC.1
  by_cases hr : tk tx L (lk tx L S.1) < 97 ∨ 104 < tk tx L (lk tx L S.1)
  · skip
    refine am_enter' (M := M_X6_readSignal) rfl rfl rfl (by omega) (ls := [some (.ref 44), some (.int (nI st)), none]) rfl (fun d' hd' => ?_)
    refine am_run 1 (pc' := 1) (ls' := [some (.ref 44), some (.int (nI st)), none]) (st' := [.ref 44]) (σ' := (μ, τ)) rfl ?_
    refine am_invv (y := 85) (b := 44) (as := []) (rest := []) rfl rfl rfl rfl rfl rfl rfl (Nat.le_of_ble_eq_true rfl) ?_
    refine c_look (by omega) hT3 hX hC (fun μ1 hK1 hX1 hC1 => ?_)
    show am_G _ M_X6_readSignal _ 4 [some (.ref 44), some (.int (nI st)), none] [.int (tI (tk tx L (lk tx L S.1)))] (μ1, τ)
    refine am_run 3 (pc' := 8) (ls' := [some (.ref 44), some (.int (nI st)), some (.int (tI (tk tx L (lk tx L S.1))))]) (st' := [.int (nI 97), .int (tI (tk tx L (lk tx L S.1)))]) (σ' := (μ1, τ)) rfl ?_
    refine am_ic (ty := 17) (tn := 11) rfl (by decide) rfl rfl (fun (h_1 : tI (tk tx L (lk tx L S.1)) < nI 97) => ?_) (fun (h_1 : ¬ (tI (tk tx L (lk tx L S.1)) < nI 97)) => ?_)
    · refine am_run 2 (pc' := 19) (ls' := [some (.ref 44), some (.int (nI st)), some (.int (tI (tk tx L (lk tx L S.1))))]) (st' := [.int (nI 1), .ref 44]) (σ' := (μ1, τ)) rfl ?_
      refine am_invv (y := 84) (b := 44) (as := [.int (nI 1)]) (rest := []) rfl rfl rfl rfl rfl rfl rfl (Nat.le_of_ble_eq_true rfl) ?_
      refine c_refuse (by omega) hT3 hX1 hC1 (y := 1) (by decide) (fun μ2 hK2 hX2 hF2 _ => ?_)
      show am_G _ M_X6_readSignal _ 22 [some (.ref 44), some (.int (nI st)), some (.int (tI (tk tx L (lk tx L S.1))))] [] (μ2, τ)
      refine am_run 2 (pc' := 26) (ls' := [some (.ref 44), some (.int (nI st)), some (.int (tI (tk tx L (lk tx L S.1))))]) (st' := [.ref (τ 44 1)]) (σ' := (μ2, τ)) rfl ?_
      refine am_stk (st' := [.ref t]) (by rw [ht]) ?_
      refine am_run 4 (pc' := 31) (ls' := [some (.ref 44), some (.int (nI st)), some (.int (tI (tk tx L (lk tx L S.1))))]) (st' := [.int ((tI (tk tx L (lk tx L S.1))) - nI 97), .int (nI st), .ref t]) (σ' := (μ2, τ)) rfl ?_
      refine am_invv (y := 110) (b := t) (as := [.int (nI st), .int ((tI (tk tx L (lk tx L S.1))) - nI 97)]) (rest := []) rfl rfl rfl rfl rfl rfl (t3_kind hT3) (Nat.le_of_ble_eq_true rfl) ?_
      refine c_setDetail_f (by omega) hT3 (fun μ3 hK3 h443 => ?_)
      have hF3 := hF2.of h443
      show am_G _ M_X6_readSignal _ 34 [some (.ref 44), some (.int (nI st)), some (.int (tI (tk tx L (lk tx L S.1))))] [] (μ3, τ)
      refine am_run 6 (pc' := 44) (ls' := [some (.ref 44), some (.int (nI st)), some (.int (tI (tk tx L (lk tx L S.1))))]) (st' := []) (σ' := (am_wr (μ3, τ) 44 2 (((μ3, τ).1 44 2) + nI 1))) rfl ?_
      refine am_retv rfl rfl ?_
      have hK4 : KC μ (am_wr (μ3, τ) 44 2 (((μ3, τ).1 44 2) + nI 1)).1 t := ((hK1.tr hK2).tr hK3).w44 _ _
      exact hF _ hr hK4 (hK4.xc hT3 hX) (hF3.w2 _)
    · refine am_run 2 (pc' := 14) (ls' := [some (.ref 44), some (.int (nI st)), some (.int (tI (tk tx L (lk tx L S.1))))]) (st' := [.int (nI 104), .int (tI (tk tx L (lk tx L S.1)))]) (σ' := (μ1, τ)) rfl ?_
      refine am_ic (ty := 17) (tn := 22) rfl (by decide) rfl rfl (fun (h_2 : nI 104 < tI (tk tx L (lk tx L S.1))) => ?_) (fun (h_2 : ¬ (nI 104 < tI (tk tx L (lk tx L S.1)))) => ?_)
      rotate_left
      · exact hr.elim (fun z => absurd ((tI_lt (k := 97) k1 (by decide)).mpr (Or.inr z)) h_1) (fun z => by rcases Nat.lt_or_ge (tk tx L (lk tx L S.1)) 256 with y | y; exact absurd ((tI_gt (k := 104) k1 (by decide)).mpr ⟨y, z⟩) h_2; exact absurd ((tI_lt (k := 97) k1 (by decide)).mpr (Or.inl (by omega))) h_1)
      refine am_run 2 (pc' := 19) (ls' := [some (.ref 44), some (.int (nI st)), some (.int (tI (tk tx L (lk tx L S.1))))]) (st' := [.int (nI 1), .ref 44]) (σ' := (μ1, τ)) rfl ?_
      refine am_invv (y := 84) (b := 44) (as := [.int (nI 1)]) (rest := []) rfl rfl rfl rfl rfl rfl rfl (Nat.le_of_ble_eq_true rfl) ?_
      refine c_refuse (by omega) hT3 hX1 hC1 (y := 1) (by decide) (fun μ2 hK2 hX2 hF2 _ => ?_)
      show am_G _ M_X6_readSignal _ 22 [some (.ref 44), some (.int (nI st)), some (.int (tI (tk tx L (lk tx L S.1))))] [] (μ2, τ)
      refine am_run 2 (pc' := 26) (ls' := [some (.ref 44), some (.int (nI st)), some (.int (tI (tk tx L (lk tx L S.1))))]) (st' := [.ref (τ 44 1)]) (σ' := (μ2, τ)) rfl ?_
      refine am_stk (st' := [.ref t]) (by rw [ht]) ?_
      refine am_run 4 (pc' := 31) (ls' := [some (.ref 44), some (.int (nI st)), some (.int (tI (tk tx L (lk tx L S.1))))]) (st' := [.int ((tI (tk tx L (lk tx L S.1))) - nI 97), .int (nI st), .ref t]) (σ' := (μ2, τ)) rfl ?_
      refine am_invv (y := 110) (b := t) (as := [.int (nI st), .int ((tI (tk tx L (lk tx L S.1))) - nI 97)]) (rest := []) rfl rfl rfl rfl rfl rfl (t3_kind hT3) (Nat.le_of_ble_eq_true rfl) ?_
      refine c_setDetail_f (by omega) hT3 (fun μ3 hK3 h443 => ?_)
      have hF3 := hF2.of h443
      show am_G _ M_X6_readSignal _ 34 [some (.ref 44), some (.int (nI st)), some (.int (tI (tk tx L (lk tx L S.1))))] [] (μ3, τ)
      refine am_run 6 (pc' := 44) (ls' := [some (.ref 44), some (.int (nI st)), some (.int (tI (tk tx L (lk tx L S.1))))]) (st' := []) (σ' := (am_wr (μ3, τ) 44 2 (((μ3, τ).1 44 2) + nI 1))) rfl ?_
      refine am_retv rfl rfl ?_
      have hK4 : KC μ (am_wr (μ3, τ) 44 2 (((μ3, τ).1 44 2) + nI 1)).1 t := ((hK1.tr hK2).tr hK3).w44 _ _
      exact hF _ hr hK4 (hK4.xc hT3 hX) (hF3.w2 _)
  · skip
    refine am_enter' (M := M_X6_readSignal) rfl rfl rfl (by omega) (ls := [some (.ref 44), some (.int (nI st)), none]) rfl (fun d' hd' => ?_)
    refine am_run 1 (pc' := 1) (ls' := [some (.ref 44), some (.int (nI st)), none]) (st' := [.ref 44]) (σ' := (μ, τ)) rfl ?_
    refine am_invv (y := 85) (b := 44) (as := []) (rest := []) rfl rfl rfl rfl rfl rfl rfl (Nat.le_of_ble_eq_true rfl) ?_
    refine c_look (by omega) hT3 hX hC (fun μ1 hK1 hX1 hC1 => ?_)
    rw [tI_n (show tk tx L (lk tx L S.1) < 256 by omega)]
    show am_G _ M_X6_readSignal _ 4 [some (.ref 44), some (.int (nI st)), none] [.int (nI (tk tx L (lk tx L S.1)))] (μ1, τ)
    refine am_run 3 (pc' := 8) (ls' := [some (.ref 44), some (.int (nI st)), some (.int (nI (tk tx L (lk tx L S.1))))]) (st' := [.int (nI 97), .int (nI (tk tx L (lk tx L S.1)))]) (σ' := (μ1, τ)) rfl ?_
    refine am_ic (ty := 17) (tn := 11) rfl (by decide) rfl rfl (fun (h_1 : nI (tk tx L (lk tx L S.1)) < nI 97) => ?_) (fun (h_1 : ¬ (nI (tk tx L (lk tx L S.1)) < nI 97)) => ?_)
    · have h_1 : tk tx L (lk tx L S.1) < 97 := (nI_ltI (by omega) (by omega)).mp h_1
      omega
    have h_1 : ¬ (tk tx L (lk tx L S.1) < 97) := fun z => h_1 ((nI_ltI (by omega) (by omega)).mpr z)
    refine am_run 2 (pc' := 14) (ls' := [some (.ref 44), some (.int (nI st)), some (.int (nI (tk tx L (lk tx L S.1))))]) (st' := [.int (nI 104), .int (nI (tk tx L (lk tx L S.1)))]) (σ' := (μ1, τ)) rfl ?_
    refine am_ic (ty := 17) (tn := 22) rfl (by decide) rfl rfl (fun (h_2 : nI 104 < nI (tk tx L (lk tx L S.1))) => ?_) (fun (h_2 : ¬ (nI 104 < nI (tk tx L (lk tx L S.1)))) => ?_)
    · have h_2 : 104 < tk tx L (lk tx L S.1) := (nI_ltI (by omega) (by omega)).mp h_2
      omega
    have h_2 : ¬ (104 < tk tx L (lk tx L S.1)) := fun z => h_2 ((nI_ltI (by omega) (by omega)).mpr z)
    refine am_run 2 (pc' := 26) (ls' := [some (.ref 44), some (.int (nI st)), some (.int (nI (tk tx L (lk tx L S.1))))]) (st' := [.ref (τ 44 1)]) (σ' := (μ1, τ)) rfl ?_
    refine am_stk (st' := [.ref t]) (by rw [ht]) ?_
    refine am_run 4 (pc' := 31) (ls' := [some (.ref 44), some (.int (nI st)), some (.int (nI (tk tx L (lk tx L S.1))))]) (st' := [.int (nI (tk tx L (lk tx L S.1)) - nI 97), .int (nI st), .ref t]) (σ' := (μ1, τ)) rfl ?_
    refine am_top (v' := nI (tk tx L (lk tx L S.1) - 97)) (nx_sub (by omega)) ?_
    refine am_invv (y := 110) (b := t) (as := [.int (nI st), .int (nI (tk tx L (lk tx L S.1) - 97))]) (rest := []) rfl rfl rfl rfl rfl rfl (t3_kind hT3) (Nat.le_of_ble_eq_true rfl) ?_
    refine c_setDetail (by omega) hT3 hC1 (st := st) (v := tk tx L (lk tx L S.1) - 97) hst (fun μ3 hK3 h443 hC3 => ?_)
    show am_G _ M_X6_readSignal _ 34 [some (.ref 44), some (.int (nI st)), some (.int (nI (tk tx L (lk tx L S.1))))] [] (μ3, τ)
    refine am_run 3 (pc' := 39) (ls' := [some (.ref 44), some (.int (nI st)), some (.int (nI (tk tx L (lk tx L S.1))))]) (st' := [.int ((μ3, τ).1 44 2), .ref 44]) (σ' := (μ3, τ)) rfl ?_
    refine am_top (v' := nI (lk tx L S.1)) hC3.2.2.2.1 ?_
    refine am_run 2 (pc' := 41) (ls' := [some (.ref 44), some (.int (nI st)), some (.int (nI (tk tx L (lk tx L S.1))))]) (st' := [.int (nI (lk tx L S.1) + nI 1), .ref 44]) (σ' := (μ3, τ)) rfl ?_
    refine am_top (v' := nI (lk tx L S.1 + 1)) (nI_add _ _) ?_
    refine am_run 1 (pc' := 44) (ls' := [some (.ref 44), some (.int (nI st)), some (.int (nI (tk tx L (lk tx L S.1))))]) (st' := []) (σ' := (am_wr (μ3, τ) 44 2 (nI (lk tx L S.1 + 1)))) rfl ?_
    refine am_retv rfl rfl ?_
    have hK4 : KC μ (am_wr (μ3, τ) 44 2 (nI (lk tx L S.1 + 1))).1 t := (hK1.tr hK3).w44 _ _
    exact hS _ hr hK4 (hK4.xc hT3 hX) (hC3.w2 hT3 (by omega))
set_option maxRecDepth 10000 in
set_option maxHeartbeats 2000000 in
theorem c_readDigit {d : Nat} (hd : 4 ≤ d) {μ : Nat → Nat → Int32} {τ : Nat → Nat → Nat} {t L : Nat} {tx : Nat → Nat} {S : PS} (hT3 : T3 t) (hX : XC μ L tx) (hC : CR μ t L S) (ht : τ 44 1 = t) {st : Nat} (hst : st < S.2.1) {tr : Nat} (htr : tr ≤ 50) {Q : am_Q} (hF : ∀ μ', tk tx L (lk tx L S.1) < 48 ∨ 52 < tk tx L (lk tx L S.1) → KC μ μ' t → XC μ' L tx → FR μ' 1 (lk tx L S.1) → Q none (μ', τ)) (hG : ∀ μ', ¬ (tk tx L (lk tx L S.1) < 48 ∨ 52 < tk tx L (lk tx L S.1)) → tr ≤ tk tx L (lk tx L S.1) - 48 → KC μ μ' t → XC μ' L tx → FR μ' 2 (lk tx L S.1) → Q none (μ', τ)) (hS : ∀ μ', ¬ (tk tx L (lk tx L S.1) < 48 ∨ 52 < tk tx L (lk tx L S.1)) → ¬ tr ≤ tk tx L (lk tx L S.1) - 48 → KC μ μ' t → XC μ' L tx → CR μ' t L (ps_at (ps_det S st (tk tx L (lk tx L S.1) - 48)) (lk tx L S.1 + 1)) → Q none (μ', τ)) : am_C d 95 [.ref 44, .int (nI st), .int (nI tr)] (μ, τ) Q := by
  obtain ⟨k1, k2, k3⟩ := tk_le hX (lk tx L S.1)
  have hlk := lk_le (tx := tx) hC.1
  by_cases hr : tk tx L (lk tx L S.1) < 48 ∨ 52 < tk tx L (lk tx L S.1)
  · skip
    refine am_enter' (M := M_X6_readDigit) rfl rfl rfl (by omega) (ls := [some (.ref 44), some (.int (nI st)), some (.int (nI tr)), none]) rfl (fun d' hd' => ?_)
    refine am_run 1 (pc' := 1) (ls' := [some (.ref 44), some (.int (nI st)), some (.int (nI tr)), none]) (st' := [.ref 44]) (σ' := (μ, τ)) rfl ?_
    refine am_invv (y := 85) (b := 44) (as := []) (rest := []) rfl rfl rfl rfl rfl rfl rfl (Nat.le_of_ble_eq_true rfl) ?_
    refine c_look (by omega) hT3 hX hC (fun μ1 hK1 hX1 hC1 => ?_)
    show am_G _ M_X6_readDigit _ 4 [some (.ref 44), some (.int (nI st)), some (.int (nI tr)), none] [.int (tI (tk tx L (lk tx L S.1)))] (μ1, τ)
    refine am_run 3 (pc' := 8) (ls' := [some (.ref 44), some (.int (nI st)), some (.int (nI tr)), some (.int (tI (tk tx L (lk tx L S.1))))]) (st' := [.int (nI 48), .int (tI (tk tx L (lk tx L S.1)))]) (σ' := (μ1, τ)) rfl ?_
    refine am_ic (ty := 17) (tn := 11) rfl (by decide) rfl rfl (fun (h_1 : tI (tk tx L (lk tx L S.1)) < nI 48) => ?_) (fun (h_1 : ¬ (tI (tk tx L (lk tx L S.1)) < nI 48)) => ?_)
    · refine am_run 2 (pc' := 19) (ls' := [some (.ref 44), some (.int (nI st)), some (.int (nI tr)), some (.int (tI (tk tx L (lk tx L S.1))))]) (st' := [.int (nI 1), .ref 44]) (σ' := (μ1, τ)) rfl ?_
      refine am_invv (y := 84) (b := 44) (as := [.int (nI 1)]) (rest := []) rfl rfl rfl rfl rfl rfl rfl (Nat.le_of_ble_eq_true rfl) ?_
      refine c_refuse (by omega) hT3 hX1 hC1 (y := 1) (by decide) (fun μ2 hK2 hX2 hF2 _ => ?_)
      show am_G _ M_X6_readDigit _ 22 [some (.ref 44), some (.int (nI st)), some (.int (nI tr)), some (.int (tI (tk tx L (lk tx L S.1))))] [] (μ2, τ)
      refine am_run 3 (pc' := 42) (ls' := [some (.ref 44), some (.int (nI st)), some (.int (nI tr)), some (.int (tI (tk tx L (lk tx L S.1))))]) (st' := [.ref (τ 44 1)]) (σ' := (μ2, τ)) rfl ?_
      refine am_stk (st' := [.ref t]) (by rw [ht]) ?_
      refine am_run 4 (pc' := 47) (ls' := [some (.ref 44), some (.int (nI st)), some (.int (nI tr)), some (.int (tI (tk tx L (lk tx L S.1))))]) (st' := [.int ((tI (tk tx L (lk tx L S.1))) - nI 48), .int (nI st), .ref t]) (σ' := (μ2, τ)) rfl ?_
      refine am_invv (y := 110) (b := t) (as := [.int (nI st), .int ((tI (tk tx L (lk tx L S.1))) - nI 48)]) (rest := []) rfl rfl rfl rfl rfl rfl (t3_kind hT3) (Nat.le_of_ble_eq_true rfl) ?_
      refine c_setDetail_f (by omega) hT3 (fun μ3 hK3 h443 => ?_)
      have hF3 := hF2.of h443
      show am_G _ M_X6_readDigit _ 50 [some (.ref 44), some (.int (nI st)), some (.int (nI tr)), some (.int (tI (tk tx L (lk tx L S.1))))] [] (μ3, τ)
      refine am_run 6 (pc' := 60) (ls' := [some (.ref 44), some (.int (nI st)), some (.int (nI tr)), some (.int (tI (tk tx L (lk tx L S.1))))]) (st' := []) (σ' := (am_wr (μ3, τ) 44 2 (((μ3, τ).1 44 2) + nI 1))) rfl ?_
      refine am_retv rfl rfl ?_
      have hK4 : KC μ (am_wr (μ3, τ) 44 2 (((μ3, τ).1 44 2) + nI 1)).1 t := ((hK1.tr hK2).tr hK3).w44 _ _
      exact hF _ hr hK4 (hK4.xc hT3 hX) (hF3.w2 _)
    · refine am_run 2 (pc' := 14) (ls' := [some (.ref 44), some (.int (nI st)), some (.int (nI tr)), some (.int (tI (tk tx L (lk tx L S.1))))]) (st' := [.int (nI 52), .int (tI (tk tx L (lk tx L S.1)))]) (σ' := (μ1, τ)) rfl ?_
      refine am_ic (ty := 17) (tn := 25) rfl (by decide) rfl rfl (fun (h_2 : nI 52 < tI (tk tx L (lk tx L S.1))) => ?_) (fun (h_2 : ¬ (nI 52 < tI (tk tx L (lk tx L S.1)))) => ?_)
      rotate_left
      · exact hr.elim (fun z => absurd ((tI_lt (k := 48) k1 (by decide)).mpr (Or.inr z)) h_1) (fun z => by rcases Nat.lt_or_ge (tk tx L (lk tx L S.1)) 256 with y | y; exact absurd ((tI_gt (k := 52) k1 (by decide)).mpr ⟨y, z⟩) h_2; exact absurd ((tI_lt (k := 48) k1 (by decide)).mpr (Or.inl (by omega))) h_1)
      refine am_run 2 (pc' := 19) (ls' := [some (.ref 44), some (.int (nI st)), some (.int (nI tr)), some (.int (tI (tk tx L (lk tx L S.1))))]) (st' := [.int (nI 1), .ref 44]) (σ' := (μ1, τ)) rfl ?_
      refine am_invv (y := 84) (b := 44) (as := [.int (nI 1)]) (rest := []) rfl rfl rfl rfl rfl rfl rfl (Nat.le_of_ble_eq_true rfl) ?_
      refine c_refuse (by omega) hT3 hX1 hC1 (y := 1) (by decide) (fun μ2 hK2 hX2 hF2 _ => ?_)
      show am_G _ M_X6_readDigit _ 22 [some (.ref 44), some (.int (nI st)), some (.int (nI tr)), some (.int (tI (tk tx L (lk tx L S.1))))] [] (μ2, τ)
      refine am_run 3 (pc' := 42) (ls' := [some (.ref 44), some (.int (nI st)), some (.int (nI tr)), some (.int (tI (tk tx L (lk tx L S.1))))]) (st' := [.ref (τ 44 1)]) (σ' := (μ2, τ)) rfl ?_
      refine am_stk (st' := [.ref t]) (by rw [ht]) ?_
      refine am_run 4 (pc' := 47) (ls' := [some (.ref 44), some (.int (nI st)), some (.int (nI tr)), some (.int (tI (tk tx L (lk tx L S.1))))]) (st' := [.int ((tI (tk tx L (lk tx L S.1))) - nI 48), .int (nI st), .ref t]) (σ' := (μ2, τ)) rfl ?_
      refine am_invv (y := 110) (b := t) (as := [.int (nI st), .int ((tI (tk tx L (lk tx L S.1))) - nI 48)]) (rest := []) rfl rfl rfl rfl rfl rfl (t3_kind hT3) (Nat.le_of_ble_eq_true rfl) ?_
      refine c_setDetail_f (by omega) hT3 (fun μ3 hK3 h443 => ?_)
      have hF3 := hF2.of h443
      show am_G _ M_X6_readDigit _ 50 [some (.ref 44), some (.int (nI st)), some (.int (nI tr)), some (.int (tI (tk tx L (lk tx L S.1))))] [] (μ3, τ)
      refine am_run 6 (pc' := 60) (ls' := [some (.ref 44), some (.int (nI st)), some (.int (nI tr)), some (.int (tI (tk tx L (lk tx L S.1))))]) (st' := []) (σ' := (am_wr (μ3, τ) 44 2 (((μ3, τ).1 44 2) + nI 1))) rfl ?_
      refine am_retv rfl rfl ?_
      have hK4 : KC μ (am_wr (μ3, τ) 44 2 (((μ3, τ).1 44 2) + nI 1)).1 t := ((hK1.tr hK2).tr hK3).w44 _ _
      exact hF _ hr hK4 (hK4.xc hT3 hX) (hF3.w2 _)
  · by_cases h2 : tr ≤ tk tx L (lk tx L S.1) - 48
    · skip
      refine am_enter' (M := M_X6_readDigit) rfl rfl rfl (by omega) (ls := [some (.ref 44), some (.int (nI st)), some (.int (nI tr)), none]) rfl (fun d' hd' => ?_)
      refine am_run 1 (pc' := 1) (ls' := [some (.ref 44), some (.int (nI st)), some (.int (nI tr)), none]) (st' := [.ref 44]) (σ' := (μ, τ)) rfl ?_
      refine am_invv (y := 85) (b := 44) (as := []) (rest := []) rfl rfl rfl rfl rfl rfl rfl (Nat.le_of_ble_eq_true rfl) ?_
      refine c_look (by omega) hT3 hX hC (fun μ1 hK1 hX1 hC1 => ?_)
      rw [tI_n (show tk tx L (lk tx L S.1) < 256 by omega)]
      show am_G _ M_X6_readDigit _ 4 [some (.ref 44), some (.int (nI st)), some (.int (nI tr)), none] [.int (nI (tk tx L (lk tx L S.1)))] (μ1, τ)
      refine am_run 3 (pc' := 8) (ls' := [some (.ref 44), some (.int (nI st)), some (.int (nI tr)), some (.int (nI (tk tx L (lk tx L S.1))))]) (st' := [.int (nI 48), .int (nI (tk tx L (lk tx L S.1)))]) (σ' := (μ1, τ)) rfl ?_
      refine am_ic (ty := 17) (tn := 11) rfl (by decide) rfl rfl (fun (h_1 : nI (tk tx L (lk tx L S.1)) < nI 48) => ?_) (fun (h_1 : ¬ (nI (tk tx L (lk tx L S.1)) < nI 48)) => ?_)
      · have h_1 : tk tx L (lk tx L S.1) < 48 := (nI_ltI (by omega) (by omega)).mp h_1
        omega
      have h_1 : ¬ (tk tx L (lk tx L S.1) < 48) := fun z => h_1 ((nI_ltI (by omega) (by omega)).mpr z)
      refine am_run 2 (pc' := 14) (ls' := [some (.ref 44), some (.int (nI st)), some (.int (nI tr)), some (.int (nI (tk tx L (lk tx L S.1))))]) (st' := [.int (nI 52), .int (nI (tk tx L (lk tx L S.1)))]) (σ' := (μ1, τ)) rfl ?_
      refine am_ic (ty := 17) (tn := 25) rfl (by decide) rfl rfl (fun (h_2 : nI 52 < nI (tk tx L (lk tx L S.1))) => ?_) (fun (h_2 : ¬ (nI 52 < nI (tk tx L (lk tx L S.1)))) => ?_)
      · have h_2 : 52 < tk tx L (lk tx L S.1) := (nI_ltI (by omega) (by omega)).mp h_2
        omega
      have h_2 : ¬ (52 < tk tx L (lk tx L S.1)) := fun z => h_2 ((nI_ltI (by omega) (by omega)).mpr z)
      refine am_run 4 (pc' := 30) (ls' := [some (.ref 44), some (.int (nI st)), some (.int (nI tr)), some (.int (nI (tk tx L (lk tx L S.1))))]) (st' := [.int (nI (tk tx L (lk tx L S.1)) - nI 48), .int (nI tr)]) (σ' := (μ1, τ)) rfl ?_
      refine am_top (v' := nI (tk tx L (lk tx L S.1) - 48)) (nx_sub (by omega)) ?_
      refine am_ic (ty := 38) (tn := 33) rfl (by decide) rfl rfl (fun (h_3 : nI (tk tx L (lk tx L S.1) - 48) < nI tr) => ?_) (fun (h_3 : ¬ (nI (tk tx L (lk tx L S.1) - 48) < nI tr)) => ?_)
      · have h_3 : tk tx L (lk tx L S.1) - 48 < tr := (nI_ltI (by omega) (by omega)).mp h_3
        omega
      have h_3 : ¬ (tk tx L (lk tx L S.1) - 48 < tr) := fun z => h_3 ((nI_ltI (by omega) (by omega)).mpr z)
      refine am_run 2 (pc' := 35) (ls' := [some (.ref 44), some (.int (nI st)), some (.int (nI tr)), some (.int (nI (tk tx L (lk tx L S.1))))]) (st' := [.int (nI 2), .ref 44]) (σ' := (μ1, τ)) rfl ?_
      refine am_invv (y := 84) (b := 44) (as := [.int (nI 2)]) (rest := []) rfl rfl rfl rfl rfl rfl rfl (Nat.le_of_ble_eq_true rfl) ?_
      refine c_refuse (by omega) hT3 hX1 hC1 (y := 2) (by decide) (fun μ2 hK2 hX2 hF2 _ => ?_)
      show am_G _ M_X6_readDigit _ 38 [some (.ref 44), some (.int (nI st)), some (.int (nI tr)), some (.int (nI (tk tx L (lk tx L S.1))))] [] (μ2, τ)
      refine am_run 2 (pc' := 42) (ls' := [some (.ref 44), some (.int (nI st)), some (.int (nI tr)), some (.int (nI (tk tx L (lk tx L S.1))))]) (st' := [.ref (τ 44 1)]) (σ' := (μ2, τ)) rfl ?_
      refine am_stk (st' := [.ref t]) (by rw [ht]) ?_
      refine am_run 4 (pc' := 47) (ls' := [some (.ref 44), some (.int (nI st)), some (.int (nI tr)), some (.int (nI (tk tx L (lk tx L S.1))))]) (st' := [.int (nI (tk tx L (lk tx L S.1)) - nI 48), .int (nI st), .ref t]) (σ' := (μ2, τ)) rfl ?_
      refine am_top (v' := nI (tk tx L (lk tx L S.1) - 48)) (nx_sub (by omega)) ?_
      refine am_invv (y := 110) (b := t) (as := [.int (nI st), .int (nI (tk tx L (lk tx L S.1) - 48))]) (rest := []) rfl rfl rfl rfl rfl rfl (t3_kind hT3) (Nat.le_of_ble_eq_true rfl) ?_
      refine c_setDetail_f (by omega) hT3 (fun μ3 hK3 h443 => ?_)
      have hF3 := hF2.of h443
      show am_G _ M_X6_readDigit _ 50 [some (.ref 44), some (.int (nI st)), some (.int (nI tr)), some (.int (nI (tk tx L (lk tx L S.1))))] [] (μ3, τ)
      refine am_run 6 (pc' := 60) (ls' := [some (.ref 44), some (.int (nI st)), some (.int (nI tr)), some (.int (nI (tk tx L (lk tx L S.1))))]) (st' := []) (σ' := (am_wr (μ3, τ) 44 2 (((μ3, τ).1 44 2) + nI 1))) rfl ?_
      refine am_retv rfl rfl ?_
      have hK4 : KC μ (am_wr (μ3, τ) 44 2 (((μ3, τ).1 44 2) + nI 1)).1 t := ((hK1.tr hK2).tr hK3).w44 _ _
      exact hG _ hr h2 hK4 (hK4.xc hT3 hX) (hF3.w2 _)
    · skip
      refine am_enter' (M := M_X6_readDigit) rfl rfl rfl (by omega) (ls := [some (.ref 44), some (.int (nI st)), some (.int (nI tr)), none]) rfl (fun d' hd' => ?_)
      refine am_run 1 (pc' := 1) (ls' := [some (.ref 44), some (.int (nI st)), some (.int (nI tr)), none]) (st' := [.ref 44]) (σ' := (μ, τ)) rfl ?_
      refine am_invv (y := 85) (b := 44) (as := []) (rest := []) rfl rfl rfl rfl rfl rfl rfl (Nat.le_of_ble_eq_true rfl) ?_
      refine c_look (by omega) hT3 hX hC (fun μ1 hK1 hX1 hC1 => ?_)
      rw [tI_n (show tk tx L (lk tx L S.1) < 256 by omega)]
      show am_G _ M_X6_readDigit _ 4 [some (.ref 44), some (.int (nI st)), some (.int (nI tr)), none] [.int (nI (tk tx L (lk tx L S.1)))] (μ1, τ)
      refine am_run 3 (pc' := 8) (ls' := [some (.ref 44), some (.int (nI st)), some (.int (nI tr)), some (.int (nI (tk tx L (lk tx L S.1))))]) (st' := [.int (nI 48), .int (nI (tk tx L (lk tx L S.1)))]) (σ' := (μ1, τ)) rfl ?_
      refine am_ic (ty := 17) (tn := 11) rfl (by decide) rfl rfl (fun (h_1 : nI (tk tx L (lk tx L S.1)) < nI 48) => ?_) (fun (h_1 : ¬ (nI (tk tx L (lk tx L S.1)) < nI 48)) => ?_)
      · have h_1 : tk tx L (lk tx L S.1) < 48 := (nI_ltI (by omega) (by omega)).mp h_1
        omega
      have h_1 : ¬ (tk tx L (lk tx L S.1) < 48) := fun z => h_1 ((nI_ltI (by omega) (by omega)).mpr z)
      refine am_run 2 (pc' := 14) (ls' := [some (.ref 44), some (.int (nI st)), some (.int (nI tr)), some (.int (nI (tk tx L (lk tx L S.1))))]) (st' := [.int (nI 52), .int (nI (tk tx L (lk tx L S.1)))]) (σ' := (μ1, τ)) rfl ?_
      refine am_ic (ty := 17) (tn := 25) rfl (by decide) rfl rfl (fun (h_2 : nI 52 < nI (tk tx L (lk tx L S.1))) => ?_) (fun (h_2 : ¬ (nI 52 < nI (tk tx L (lk tx L S.1)))) => ?_)
      · have h_2 : 52 < tk tx L (lk tx L S.1) := (nI_ltI (by omega) (by omega)).mp h_2
        omega
      have h_2 : ¬ (52 < tk tx L (lk tx L S.1)) := fun z => h_2 ((nI_ltI (by omega) (by omega)).mpr z)
      refine am_run 4 (pc' := 30) (ls' := [some (.ref 44), some (.int (nI st)), some (.int (nI tr)), some (.int (nI (tk tx L (lk tx L S.1))))]) (st' := [.int (nI (tk tx L (lk tx L S.1)) - nI 48), .int (nI tr)]) (σ' := (μ1, τ)) rfl ?_
      refine am_top (v' := nI (tk tx L (lk tx L S.1) - 48)) (nx_sub (by omega)) ?_
      refine am_ic (ty := 38) (tn := 33) rfl (by decide) rfl rfl (fun (h_3 : nI (tk tx L (lk tx L S.1) - 48) < nI tr) => ?_) (fun (h_3 : ¬ (nI (tk tx L (lk tx L S.1) - 48) < nI tr)) => ?_)
      rotate_left
      · have h_3 : ¬ (tk tx L (lk tx L S.1) - 48 < tr) := fun z => h_3 ((nI_ltI (by omega) (by omega)).mpr z)
        omega
      have h_3 : tk tx L (lk tx L S.1) - 48 < tr := (nI_ltI (by omega) (by omega)).mp h_3
      refine am_run 2 (pc' := 42) (ls' := [some (.ref 44), some (.int (nI st)), some (.int (nI tr)), some (.int (nI (tk tx L (lk tx L S.1))))]) (st' := [.ref (τ 44 1)]) (σ' := (μ1, τ)) rfl ?_
      refine am_stk (st' := [.ref t]) (by rw [ht]) ?_
      refine am_run 4 (pc' := 47) (ls' := [some (.ref 44), some (.int (nI st)), some (.int (nI tr)), some (.int (nI (tk tx L (lk tx L S.1))))]) (st' := [.int (nI (tk tx L (lk tx L S.1)) - nI 48), .int (nI st), .ref t]) (σ' := (μ1, τ)) rfl ?_
      refine am_top (v' := nI (tk tx L (lk tx L S.1) - 48)) (nx_sub (by omega)) ?_
      refine am_invv (y := 110) (b := t) (as := [.int (nI st), .int (nI (tk tx L (lk tx L S.1) - 48))]) (rest := []) rfl rfl rfl rfl rfl rfl (t3_kind hT3) (Nat.le_of_ble_eq_true rfl) ?_
      refine c_setDetail (by omega) hT3 hC1 (st := st) (v := tk tx L (lk tx L S.1) - 48) hst (fun μ3 hK3 h443 hC3 => ?_)
      show am_G _ M_X6_readDigit _ 50 [some (.ref 44), some (.int (nI st)), some (.int (nI tr)), some (.int (nI (tk tx L (lk tx L S.1))))] [] (μ3, τ)
      refine am_run 3 (pc' := 55) (ls' := [some (.ref 44), some (.int (nI st)), some (.int (nI tr)), some (.int (nI (tk tx L (lk tx L S.1))))]) (st' := [.int ((μ3, τ).1 44 2), .ref 44]) (σ' := (μ3, τ)) rfl ?_
      refine am_top (v' := nI (lk tx L S.1)) hC3.2.2.2.1 ?_
      refine am_run 2 (pc' := 57) (ls' := [some (.ref 44), some (.int (nI st)), some (.int (nI tr)), some (.int (nI (tk tx L (lk tx L S.1))))]) (st' := [.int (nI (lk tx L S.1) + nI 1), .ref 44]) (σ' := (μ3, τ)) rfl ?_
      refine am_top (v' := nI (lk tx L S.1 + 1)) (nI_add _ _) ?_
      refine am_run 1 (pc' := 60) (ls' := [some (.ref 44), some (.int (nI st)), some (.int (nI tr)), some (.int (nI (tk tx L (lk tx L S.1))))]) (st' := []) (σ' := (am_wr (μ3, τ) 44 2 (nI (lk tx L S.1 + 1)))) rfl ?_
      refine am_retv rfl rfl ?_
      have hK4 : KC μ (am_wr (μ3, τ) 44 2 (nI (lk tx L S.1 + 1))).1 t := (hK1.tr hK3).w44 _ _
      exact hS _ hr h2 hK4 (hK4.xc hT3 hX) (hC3.w2 hT3 (by omega))
set_option maxRecDepth 10000 in
set_option maxHeartbeats 2000000 in
theorem c_hasBlock {d : Nat} (hd : 1 ≤ d) {σ : am_M} {c : Nat} (hc : c ≤ 256) {Q : am_Q} (h1 : isB c = true → Q (some (.int (nI 1))) σ) (h0 : isB c = false → Q (some (.int (nI 0))) σ) : am_C d 90 [.int (tI c)] σ Q := by
  refine am_enter' (M := M_X6_hasBlock) rfl rfl rfl (by omega) (ls := [some (.int (tI c))]) rfl (fun d' hd' => ?_)
  refine am_run 2 (pc' := 3) (ls' := [some (.int (tI c))]) (st' := [.int (nI 63), .int (tI c)]) (σ' := σ) rfl ?_
  refine am_ic (ty := 36) (tn := 6) rfl (by decide) rfl rfl (fun (h_1 : tI c = nI 63) => ?_) (fun (h_1 : ¬ (tI c = nI 63)) => ?_)
  · have h_1 : c = 63 := (tI_eq hc (by decide)).mp h_1
    refine am_run 2 (pc' := 41) (ls' := [some (.int (tI c))]) (st' := [.int (nI 1)]) (σ' := σ) rfl ?_
    refine am_retz rfl rfl (by decide) ?_
    exact h1 (by unfold isB; simp [*])
  · have h_1 : ¬ c = 63 := fun z => h_1 ((tI_eq hc (by decide)).mpr z)
    refine am_run 2 (pc' := 9) (ls' := [some (.int (tI c))]) (st' := [.int (nI 42), .int (tI c)]) (σ' := σ) rfl ?_
    refine am_ic (ty := 36) (tn := 12) rfl (by decide) rfl rfl (fun (h_2 : tI c = nI 42) => ?_) (fun (h_2 : ¬ (tI c = nI 42)) => ?_)
    · have h_2 : c = 42 := (tI_eq hc (by decide)).mp h_2
      refine am_run 2 (pc' := 41) (ls' := [some (.int (tI c))]) (st' := [.int (nI 1)]) (σ' := σ) rfl ?_
      refine am_retz rfl rfl (by decide) ?_
      exact h1 (by unfold isB; simp [*])
    · have h_2 : ¬ c = 42 := fun z => h_2 ((tI_eq hc (by decide)).mpr z)
      refine am_run 2 (pc' := 15) (ls' := [some (.int (tI c))]) (st' := [.int (nI 94), .int (tI c)]) (σ' := σ) rfl ?_
      refine am_ic (ty := 36) (tn := 18) rfl (by decide) rfl rfl (fun (h_3 : tI c = nI 94) => ?_) (fun (h_3 : ¬ (tI c = nI 94)) => ?_)
      · have h_3 : c = 94 := (tI_eq hc (by decide)).mp h_3
        refine am_run 2 (pc' := 41) (ls' := [some (.int (tI c))]) (st' := [.int (nI 1)]) (σ' := σ) rfl ?_
        refine am_retz rfl rfl (by decide) ?_
        exact h1 (by unfold isB; simp [*])
      · have h_3 : ¬ c = 94 := fun z => h_3 ((tI_eq hc (by decide)).mpr z)
        refine am_run 2 (pc' := 21) (ls' := [some (.int (tI c))]) (st' := [.int (nI 64), .int (tI c)]) (σ' := σ) rfl ?_
        refine am_ic (ty := 36) (tn := 24) rfl (by decide) rfl rfl (fun (h_4 : tI c = nI 64) => ?_) (fun (h_4 : ¬ (tI c = nI 64)) => ?_)
        · have h_4 : c = 64 := (tI_eq hc (by decide)).mp h_4
          refine am_run 2 (pc' := 41) (ls' := [some (.int (tI c))]) (st' := [.int (nI 1)]) (σ' := σ) rfl ?_
          refine am_retz rfl rfl (by decide) ?_
          exact h1 (by unfold isB; simp [*])
        · have h_4 : ¬ c = 64 := fun z => h_4 ((tI_eq hc (by decide)).mpr z)
          refine am_run 2 (pc' := 27) (ls' := [some (.int (tI c))]) (st' := [.int (nI 126), .int (tI c)]) (σ' := σ) rfl ?_
          refine am_ic (ty := 36) (tn := 30) rfl (by decide) rfl rfl (fun (h_5 : tI c = nI 126) => ?_) (fun (h_5 : ¬ (tI c = nI 126)) => ?_)
          · have h_5 : c = 126 := (tI_eq hc (by decide)).mp h_5
            refine am_run 2 (pc' := 41) (ls' := [some (.int (tI c))]) (st' := [.int (nI 1)]) (σ' := σ) rfl ?_
            refine am_retz rfl rfl (by decide) ?_
            exact h1 (by unfold isB; simp [*])
          · have h_5 : ¬ c = 126 := fun z => h_5 ((tI_eq hc (by decide)).mpr z)
            refine am_run 2 (pc' := 33) (ls' := [some (.int (tI c))]) (st' := [.int (nI 36), .int (tI c)]) (σ' := σ) rfl ?_
            refine am_ic (ty := 36) (tn := 40) rfl (by decide) rfl rfl (fun (h_6 : tI c = nI 36) => ?_) (fun (h_6 : ¬ (tI c = nI 36)) => ?_)
            · have h_6 : c = 36 := (tI_eq hc (by decide)).mp h_6
              refine am_run 2 (pc' := 41) (ls' := [some (.int (tI c))]) (st' := [.int (nI 1)]) (σ' := σ) rfl ?_
              refine am_retz rfl rfl (by decide) ?_
              exact h1 (by unfold isB; simp [*])
            · have h_6 : ¬ c = 36 := fun z => h_6 ((tI_eq hc (by decide)).mpr z)
              refine am_run 1 (pc' := 41) (ls' := [some (.int (tI c))]) (st' := [.int (nI 0)]) (σ' := σ) rfl ?_
              refine am_retz rfl rfl (by decide) ?_
              exact h0 (by unfold isB; simp [*])
set_option maxRecDepth 10000 in
set_option maxHeartbeats 2000000 in
theorem c_hasSignal {d : Nat} (hd : 1 ≤ d) {σ : am_M} {c : Nat} (hc : c ≤ 256) {Q : am_Q} (h1 : isS c = true → Q (some (.int (nI 1))) σ) (h0 : isS c = false → Q (some (.int (nI 0))) σ) : am_C d 91 [.int (tI c)] σ Q := by
  refine am_enter' (M := M_X6_hasSignal) rfl rfl rfl (by omega) (ls := [some (.int (tI c))]) rfl (fun d' hd' => ?_)
  refine am_run 2 (pc' := 3) (ls' := [some (.int (tI c))]) (st' := [.int (nI 33), .int (tI c)]) (σ' := σ) rfl ?_
  refine am_ic (ty := 36) (tn := 6) rfl (by decide) rfl rfl (fun (h_1 : tI c = nI 33) => ?_) (fun (h_1 : ¬ (tI c = nI 33)) => ?_)
  · have h_1 : c = 33 := (tI_eq hc (by decide)).mp h_1
    refine am_run 2 (pc' := 41) (ls' := [some (.int (tI c))]) (st' := [.int (nI 1)]) (σ' := σ) rfl ?_
    refine am_retz rfl rfl (by decide) ?_
    exact h1 (by unfold isS; simp [*])
  · have h_1 : ¬ c = 33 := fun z => h_1 ((tI_eq hc (by decide)).mpr z)
    refine am_run 2 (pc' := 9) (ls' := [some (.int (tI c))]) (st' := [.int (nI 38), .int (tI c)]) (σ' := σ) rfl ?_
    refine am_ic (ty := 36) (tn := 12) rfl (by decide) rfl rfl (fun (h_2 : tI c = nI 38) => ?_) (fun (h_2 : ¬ (tI c = nI 38)) => ?_)
    · have h_2 : c = 38 := (tI_eq hc (by decide)).mp h_2
      refine am_run 2 (pc' := 41) (ls' := [some (.int (tI c))]) (st' := [.int (nI 1)]) (σ' := σ) rfl ?_
      refine am_retz rfl rfl (by decide) ?_
      exact h1 (by unfold isS; simp [*])
    · have h_2 : ¬ c = 38 := fun z => h_2 ((tI_eq hc (by decide)).mpr z)
      refine am_run 2 (pc' := 15) (ls' := [some (.int (tI c))]) (st' := [.int (nI 63), .int (tI c)]) (σ' := σ) rfl ?_
      refine am_ic (ty := 36) (tn := 18) rfl (by decide) rfl rfl (fun (h_3 : tI c = nI 63) => ?_) (fun (h_3 : ¬ (tI c = nI 63)) => ?_)
      · have h_3 : c = 63 := (tI_eq hc (by decide)).mp h_3
        refine am_run 2 (pc' := 41) (ls' := [some (.int (tI c))]) (st' := [.int (nI 1)]) (σ' := σ) rfl ?_
        refine am_retz rfl rfl (by decide) ?_
        exact h1 (by unfold isS; simp [*])
      · have h_3 : ¬ c = 63 := fun z => h_3 ((tI_eq hc (by decide)).mpr z)
        refine am_run 2 (pc' := 21) (ls' := [some (.int (tI c))]) (st' := [.int (nI 64), .int (tI c)]) (σ' := σ) rfl ?_
        refine am_ic (ty := 36) (tn := 24) rfl (by decide) rfl rfl (fun (h_4 : tI c = nI 64) => ?_) (fun (h_4 : ¬ (tI c = nI 64)) => ?_)
        · have h_4 : c = 64 := (tI_eq hc (by decide)).mp h_4
          refine am_run 2 (pc' := 41) (ls' := [some (.int (tI c))]) (st' := [.int (nI 1)]) (σ' := σ) rfl ?_
          refine am_retz rfl rfl (by decide) ?_
          exact h1 (by unfold isS; simp [*])
        · have h_4 : ¬ c = 64 := fun z => h_4 ((tI_eq hc (by decide)).mpr z)
          refine am_run 2 (pc' := 27) (ls' := [some (.int (tI c))]) (st' := [.int (nI 126), .int (tI c)]) (σ' := σ) rfl ?_
          refine am_ic (ty := 36) (tn := 30) rfl (by decide) rfl rfl (fun (h_5 : tI c = nI 126) => ?_) (fun (h_5 : ¬ (tI c = nI 126)) => ?_)
          · have h_5 : c = 126 := (tI_eq hc (by decide)).mp h_5
            refine am_run 2 (pc' := 41) (ls' := [some (.int (tI c))]) (st' := [.int (nI 1)]) (σ' := σ) rfl ?_
            refine am_retz rfl rfl (by decide) ?_
            exact h1 (by unfold isS; simp [*])
          · have h_5 : ¬ c = 126 := fun z => h_5 ((tI_eq hc (by decide)).mpr z)
            refine am_run 2 (pc' := 33) (ls' := [some (.int (tI c))]) (st' := [.int (nI 36), .int (tI c)]) (σ' := σ) rfl ?_
            refine am_ic (ty := 36) (tn := 40) rfl (by decide) rfl rfl (fun (h_6 : tI c = nI 36) => ?_) (fun (h_6 : ¬ (tI c = nI 36)) => ?_)
            · have h_6 : c = 36 := (tI_eq hc (by decide)).mp h_6
              refine am_run 2 (pc' := 41) (ls' := [some (.int (tI c))]) (st' := [.int (nI 1)]) (σ' := σ) rfl ?_
              refine am_retz rfl rfl (by decide) ?_
              exact h1 (by unfold isS; simp [*])
            · have h_6 : ¬ c = 36 := fun z => h_6 ((tI_eq hc (by decide)).mpr z)
              refine am_run 1 (pc' := 41) (ls' := [some (.int (tI c))]) (st' := [.int (nI 0)]) (σ' := σ) rfl ?_
              refine am_retz rfl rfl (by decide) ?_
              exact h0 (by unfold isS; simp [*])
set_option maxRecDepth 10000 in
set_option maxHeartbeats 2000000 in
theorem c_enc_f {d : Nat} (hd : 4 ≤ d) {μ : Nat → Nat → Int32} {τ : Nat → Nat → Nat} {t L k fp : Nat} {tx : Nat → Nat} (hT3 : T3 t) (hX : XC μ L tx) (hF : FR μ k fp) {op cl a b c : Int32} {Q : am_Q} (hq : ∀ μ', KC μ μ' t → XC μ' L tx → FR μ' k fp → Q (some (.int (-1))) (μ', τ)) : am_C d 92 [.ref 44, .int op, .int cl, .int a, .int b, .int c] (μ, τ) Q := by
  refine am_enter' (M := M_X6_readEnclosed) rfl rfl rfl (by omega) (ls := [some (.ref 44), some (.int op), some (.int cl), some (.int a), some (.int b), some (.int c), none]) rfl (fun d' hd' => ?_)
  refine am_run 1 (pc' := 1) (ls' := [some (.ref 44), some (.int op), some (.int cl), some (.int a), some (.int b), some (.int c), none]) (st' := [.ref 44]) (σ' := (μ, τ)) rfl ?_
  refine am_invv (y := 85) (b := 44) (as := []) (rest := []) rfl rfl rfl rfl rfl rfl rfl (Nat.le_of_ble_eq_true rfl) ?_
  refine c_look_f (t := t) (by omega) hX hF (fun μ1 v1 hK1 hF1 => ?_)
  have hX1 := hK1.xc hT3 hX
  have hk1 := hF1.2.2
  show am_G _ M_X6_readEnclosed _ 4 [some (.ref 44), some (.int op), some (.int cl), some (.int a), some (.int b), some (.int c), none] [.int v1] (μ1, τ)
  refine am_run 1 (pc' := 5) (ls' := [some (.ref 44), some (.int op), some (.int cl), some (.int a), some (.int b), some (.int c), none]) (st' := [.int op, .int v1]) (σ' := (μ1, τ)) rfl ?_
  refine am_ic (ty := 16) (tn := 8) rfl (by decide) rfl rfl (fun (h_1 : v1 = op) => ?_) (fun (h_1 : ¬ (v1 = op)) => ?_)
  · refine am_run 2 (pc' := 20) (ls' := [some (.ref 44), some (.int op), some (.int cl), some (.int a), some (.int b), some (.int c), none]) (st' := [.int (nI 12), .int c]) (σ' := (μ1, τ)) rfl ?_
    refine am_ic (ty := 28) (tn := 23) rfl (by decide) rfl rfl (fun (h_2 : c < nI 12) => ?_) (fun (h_2 : ¬ (c < nI 12)) => ?_)
    · refine am_run 1 (pc' := 29) (ls' := [some (.ref 44), some (.int op), some (.int cl), some (.int a), some (.int b), some (.int c), none]) (st' := [.ref 44]) (σ' := (μ1, τ)) rfl ?_
      refine am_invv (y := 83) (b := 44) (as := []) (rest := []) rfl rfl rfl rfl rfl rfl rfl (Nat.le_of_ble_eq_true rfl) ?_
      refine am_enter' rfl rfl rfl (by omega) (ls := [some (.ref 44)]) rfl (fun d_3 hd_3 => ?_)
      refine am_run 2 (pc' := 4) (ls' := [some (.ref 44)]) (st' := [.int ((μ1, τ).1 44 3)]) (σ' := (μ1, τ)) rfl ?_
      refine am_top (v' := nI k) hF1.1 ?_
      refine am_if (ty := 7) (tn := 11) rfl (by decide) rfl rfl (fun (h_4 : nI k = 0) => ?_) (fun (h_4 : ¬ (nI k = 0)) => ?_)
      · have h_4 : k = 0 := (am_n0 (by omega)).mp h_4
        omega
      have h_4 : ¬ (k = 0) := fun z => h_4 ((am_n0 (by omega)).mpr z)
      refine am_run 1 (pc' := 12) (ls' := [some (.ref 44)]) (st' := [.int (nI 0)]) (σ' := (μ1, τ)) rfl ?_
      refine am_retz rfl rfl (by decide) ?_
      show am_G _ M_X6_readEnclosed _ 32 [some (.ref 44), some (.int op), some (.int cl), some (.int a), some (.int b), some (.int c), none] [.int (nI 0)] (μ1, τ)
      refine am_if (ty := 35) (tn := 37) rfl (by decide) rfl rfl (fun (h_5 : nI 0 = 0) => ?_) (fun (h_5 : ¬ (nI 0 = 0)) => ?_)
      rotate_left
      · exact absurd (by decide) h_5
      refine am_run 1 (pc' := 36) (ls' := [some (.ref 44), some (.int op), some (.int cl), some (.int a), some (.int b), some (.int c), none]) (st' := [.int (-1)]) (σ' := (μ1, τ)) rfl ?_
      refine am_reti rfl rfl ?_
      exact hq μ1 hK1 hX1 hF1
    · refine am_run 2 (pc' := 25) (ls' := [some (.ref 44), some (.int op), some (.int cl), some (.int a), some (.int b), some (.int c), none]) (st' := [.int (nI 4), .ref 44]) (σ' := (μ1, τ)) rfl ?_
      refine am_invv (y := 84) (b := 44) (as := [.int (nI 4)]) (rest := []) rfl rfl rfl rfl rfl rfl rfl (Nat.le_of_ble_eq_true rfl) ?_
      refine c_refuse_f (by omega) hT3 hX1 hF1 ?_
      show am_G _ M_X6_readEnclosed _ 28 [some (.ref 44), some (.int op), some (.int cl), some (.int a), some (.int b), some (.int c), none] [] (μ1, τ)
      refine am_run 1 (pc' := 29) (ls' := [some (.ref 44), some (.int op), some (.int cl), some (.int a), some (.int b), some (.int c), none]) (st' := [.ref 44]) (σ' := (μ1, τ)) rfl ?_
      refine am_invv (y := 83) (b := 44) (as := []) (rest := []) rfl rfl rfl rfl rfl rfl rfl (Nat.le_of_ble_eq_true rfl) ?_
      refine am_enter' rfl rfl rfl (by omega) (ls := [some (.ref 44)]) rfl (fun d_6 hd_6 => ?_)
      refine am_run 2 (pc' := 4) (ls' := [some (.ref 44)]) (st' := [.int ((μ1, τ).1 44 3)]) (σ' := (μ1, τ)) rfl ?_
      refine am_top (v' := nI k) hF1.1 ?_
      refine am_if (ty := 7) (tn := 11) rfl (by decide) rfl rfl (fun (h_7 : nI k = 0) => ?_) (fun (h_7 : ¬ (nI k = 0)) => ?_)
      · have h_7 : k = 0 := (am_n0 (by omega)).mp h_7
        omega
      have h_7 : ¬ (k = 0) := fun z => h_7 ((am_n0 (by omega)).mpr z)
      refine am_run 1 (pc' := 12) (ls' := [some (.ref 44)]) (st' := [.int (nI 0)]) (σ' := (μ1, τ)) rfl ?_
      refine am_retz rfl rfl (by decide) ?_
      show am_G _ M_X6_readEnclosed _ 32 [some (.ref 44), some (.int op), some (.int cl), some (.int a), some (.int b), some (.int c), none] [.int (nI 0)] (μ1, τ)
      refine am_if (ty := 35) (tn := 37) rfl (by decide) rfl rfl (fun (h_8 : nI 0 = 0) => ?_) (fun (h_8 : ¬ (nI 0 = 0)) => ?_)
      rotate_left
      · exact absurd (by decide) h_8
      refine am_run 1 (pc' := 36) (ls' := [some (.ref 44), some (.int op), some (.int cl), some (.int a), some (.int b), some (.int c), none]) (st' := [.int (-1)]) (σ' := (μ1, τ)) rfl ?_
      refine am_reti rfl rfl ?_
      exact hq μ1 hK1 hX1 hF1
  · refine am_run 2 (pc' := 10) (ls' := [some (.ref 44), some (.int op), some (.int cl), some (.int a), some (.int b), some (.int c), none]) (st' := [.int (nI 1), .ref 44]) (σ' := (μ1, τ)) rfl ?_
    refine am_invv (y := 84) (b := 44) (as := [.int (nI 1)]) (rest := []) rfl rfl rfl rfl rfl rfl rfl (Nat.le_of_ble_eq_true rfl) ?_
    refine c_refuse_f (by omega) hT3 hX1 hF1 ?_
    show am_G _ M_X6_readEnclosed _ 13 [some (.ref 44), some (.int op), some (.int cl), some (.int a), some (.int b), some (.int c), none] [] (μ1, τ)
    refine am_run 2 (pc' := 29) (ls' := [some (.ref 44), some (.int op), some (.int cl), some (.int a), some (.int b), some (.int c), none]) (st' := [.ref 44]) (σ' := (μ1, τ)) rfl ?_
    refine am_invv (y := 83) (b := 44) (as := []) (rest := []) rfl rfl rfl rfl rfl rfl rfl (Nat.le_of_ble_eq_true rfl) ?_
    refine am_enter' rfl rfl rfl (by omega) (ls := [some (.ref 44)]) rfl (fun d_9 hd_9 => ?_)
    refine am_run 2 (pc' := 4) (ls' := [some (.ref 44)]) (st' := [.int ((μ1, τ).1 44 3)]) (σ' := (μ1, τ)) rfl ?_
    refine am_top (v' := nI k) hF1.1 ?_
    refine am_if (ty := 7) (tn := 11) rfl (by decide) rfl rfl (fun (h_10 : nI k = 0) => ?_) (fun (h_10 : ¬ (nI k = 0)) => ?_)
    · have h_10 : k = 0 := (am_n0 (by omega)).mp h_10
      omega
    have h_10 : ¬ (k = 0) := fun z => h_10 ((am_n0 (by omega)).mpr z)
    refine am_run 1 (pc' := 12) (ls' := [some (.ref 44)]) (st' := [.int (nI 0)]) (σ' := (μ1, τ)) rfl ?_
    refine am_retz rfl rfl (by decide) ?_
    show am_G _ M_X6_readEnclosed _ 32 [some (.ref 44), some (.int op), some (.int cl), some (.int a), some (.int b), some (.int c), none] [.int (nI 0)] (μ1, τ)
    refine am_if (ty := 35) (tn := 37) rfl (by decide) rfl rfl (fun (h_11 : nI 0 = 0) => ?_) (fun (h_11 : ¬ (nI 0 = 0)) => ?_)
    rotate_left
    · exact absurd (by decide) h_11
    refine am_run 1 (pc' := 36) (ls' := [some (.ref 44), some (.int op), some (.int cl), some (.int a), some (.int b), some (.int c), none]) (st' := [.int (-1)]) (σ' := (μ1, τ)) rfl ?_
    refine am_reti rfl rfl ?_
    exact hq μ1 hK1 hX1 hF1
/-- what a reading method (y: which) does: as f says -/
def PCt (d : Nat) (τ : Nat → Nat → Nat) (t L : Nat) (tx : Nat → Nat) (y : Nat) (f : Nat → Nat → PS → RS) (br m : Nat) : Prop := ∀ (μ : Nat → Nat → Int32) (S : PS) (tr lc : Nat) (Q : am_Q), XC μ L tx → CR μ t L S → lc ≤ 3 → tr + m ≤ 40 →
  (∀ μ' v k fp, f tr lc S = .inl (k, fp) → KC μ μ' t → XC μ' L tx → FR μ' k fp → Q (some (.int v)) (μ', τ)) →
  (∀ μ' S' r, f tr lc S = .inr (S', r) → KC μ μ' t → XC μ' L tx → CR μ' t L S' → S.2.1 ≤ r → r < S'.2.1 → Q (some (.int (nI r))) (μ', τ)) →
  am_C d y [.ref 44, .int (nI tr), .int (nI lc), .int (nI br)] (μ, τ) Q
set_option maxRecDepth 10000 in
set_option maxHeartbeats 2000000 in
theorem c_enc_n {d : Nat} (hd : 5 ≤ d) {μ : Nat → Nat → Int32} {τ : Nat → Nat → Nat} {t L : Nat} {tx : Nat → Nat} {S : PS} (hT3 : T3 t) (hX : XC μ L tx) (hC : CR μ t L S) {op cl tr lc br : Nat} (hop : op < 256) (hcl : cl < 256) (hlc : lc ≤ 3) (hbr : br = 12) {Q : am_Q} (hF : ∀ μ' v k fp, p_enc tx L none op cl tr lc S = .inl (k, fp) → KC μ μ' t → XC μ' L tx → FR μ' k fp → Q (some (.int v)) (μ', τ)) (hS : ∀ μ' S' r, p_enc tx L none op cl tr lc S = .inr (S', r) → KC μ μ' t → XC μ' L tx → CR μ' t L S' → S.2.1 ≤ r → r < S'.2.1 → Q (some (.int (nI r))) (μ', τ)) : am_C d 92 [.ref 44, .int (nI op), .int (nI cl), .int (nI tr), .int (nI lc), .int (nI br)] (μ, τ) Q := by
  obtain ⟨k1, k2, k3⟩ := tk_le hX (lk tx L S.1)
  have hlk := lk_le (tx := tx) hC.1
  by_cases eo : tk tx L (lk tx L S.1) = op
  · have := k2 (by omega)
    refine am_enter' (M := M_X6_readEnclosed) rfl rfl rfl (by omega) (ls := [some (.ref 44), some (.int (nI op)), some (.int (nI cl)), some (.int (nI tr)), some (.int (nI lc)), some (.int (nI br)), none]) rfl (fun d' hd' => ?_)
    refine am_run 1 (pc' := 1) (ls' := [some (.ref 44), some (.int (nI op)), some (.int (nI cl)), some (.int (nI tr)), some (.int (nI lc)), some (.int (nI br)), none]) (st' := [.ref 44]) (σ' := (μ, τ)) rfl ?_
    refine am_invv (y := 85) (b := 44) (as := []) (rest := []) rfl rfl rfl rfl rfl rfl rfl (Nat.le_of_ble_eq_true rfl) ?_
    refine c_look (by omega) hT3 hX hC (fun μ1 hK1 hX1 hC1 => ?_)
    rw [eo, tI_n hop]
    show am_G _ M_X6_readEnclosed _ 4 [some (.ref 44), some (.int (nI op)), some (.int (nI cl)), some (.int (nI tr)), some (.int (nI lc)), some (.int (nI br)), none] [.int (nI op)] (μ1, τ)
    refine am_run 1 (pc' := 5) (ls' := [some (.ref 44), some (.int (nI op)), some (.int (nI cl)), some (.int (nI tr)), some (.int (nI lc)), some (.int (nI br)), none]) (st' := [.int (nI op), .int (nI op)]) (σ' := (μ1, τ)) rfl ?_
    refine am_ic (ty := 16) (tn := 8) rfl (by decide) rfl rfl (fun (h_1 : nI op = nI op) => ?_) (fun (h_1 : ¬ (nI op = nI op)) => ?_)
    rotate_left
    · have h_1 : ¬ (op = op) := fun z => h_1 ((nI_eq (by omega) (by omega)).mpr z)
      omega
    have h_1 : op = op := (nI_eq (by omega) (by omega)).mp h_1
    refine am_run 2 (pc' := 20) (ls' := [some (.ref 44), some (.int (nI op)), some (.int (nI cl)), some (.int (nI tr)), some (.int (nI lc)), some (.int (nI br)), none]) (st' := [.int (nI 12), .int (nI br)]) (σ' := (μ1, τ)) rfl ?_
    refine am_ic (ty := 28) (tn := 23) rfl (by decide) rfl rfl (fun (h_2 : nI br < nI 12) => ?_) (fun (h_2 : ¬ (nI br < nI 12)) => ?_)
    · have h_2 : br < 12 := (nI_ltI (by omega) (by omega)).mp h_2
      omega
    have h_2 : ¬ (br < 12) := fun z => h_2 ((nI_ltI (by omega) (by omega)).mpr z)
    refine am_run 2 (pc' := 25) (ls' := [some (.ref 44), some (.int (nI op)), some (.int (nI cl)), some (.int (nI tr)), some (.int (nI lc)), some (.int (nI br)), none]) (st' := [.int (nI 4), .ref 44]) (σ' := (μ1, τ)) rfl ?_
    refine am_invv (y := 84) (b := 44) (as := [.int (nI 4)]) (rest := []) rfl rfl rfl rfl rfl rfl rfl (Nat.le_of_ble_eq_true rfl) ?_
    refine c_refuse (by omega) hT3 hX1 hC1 (y := 4) (by decide) (fun μ2 hK2 hX2 hF2 _ => ?_)
    show am_G _ M_X6_readEnclosed _ 28 [some (.ref 44), some (.int (nI op)), some (.int (nI cl)), some (.int (nI tr)), some (.int (nI lc)), some (.int (nI br)), none] [] (μ2, τ)
    refine am_run 1 (pc' := 29) (ls' := [some (.ref 44), some (.int (nI op)), some (.int (nI cl)), some (.int (nI tr)), some (.int (nI lc)), some (.int (nI br)), none]) (st' := [.ref 44]) (σ' := (μ2, τ)) rfl ?_
    refine am_invv (y := 83) (b := 44) (as := []) (rest := []) rfl rfl rfl rfl rfl rfl rfl (Nat.le_of_ble_eq_true rfl) ?_
    refine am_enter' rfl rfl rfl (by omega) (ls := [some (.ref 44)]) rfl (fun d_3 hd_3 => ?_)
    refine am_run 2 (pc' := 4) (ls' := [some (.ref 44)]) (st' := [.int ((μ2, τ).1 44 3)]) (σ' := (μ2, τ)) rfl ?_
    refine am_top (v' := nI 4) hF2.1 ?_
    refine am_if (ty := 7) (tn := 11) rfl (by decide) rfl rfl (fun (h_4 : nI 4 = 0) => ?_) (fun (h_4 : ¬ (nI 4 = 0)) => ?_)
    · exact absurd h_4 (by decide)
    refine am_run 1 (pc' := 12) (ls' := [some (.ref 44)]) (st' := [.int (nI 0)]) (σ' := (μ2, τ)) rfl ?_
    refine am_retz rfl rfl (by decide) ?_
    show am_G _ M_X6_readEnclosed _ 32 [some (.ref 44), some (.int (nI op)), some (.int (nI cl)), some (.int (nI tr)), some (.int (nI lc)), some (.int (nI br)), none] [.int (nI 0)] (μ2, τ)
    refine am_if (ty := 35) (tn := 37) rfl (by decide) rfl rfl (fun (h_5 : nI 0 = 0) => ?_) (fun (h_5 : ¬ (nI 0 = 0)) => ?_)
    rotate_left
    · exact absurd (by decide) h_5
    refine am_run 1 (pc' := 36) (ls' := [some (.ref 44), some (.int (nI op)), some (.int (nI cl)), some (.int (nI tr)), some (.int (nI lc)), some (.int (nI br)), none]) (st' := [.int (-1)]) (σ' := (μ2, τ)) rfl ?_
    refine am_reti rfl rfl ?_
    exact hF μ2 _ 4 _ (by unfold p_enc; rw [if_neg (fun z => z eo)]; rfl) (hK1.tr hK2) hX2 hF2
  · skip
    refine am_enter' (M := M_X6_readEnclosed) rfl rfl rfl (by omega) (ls := [some (.ref 44), some (.int (nI op)), some (.int (nI cl)), some (.int (nI tr)), some (.int (nI lc)), some (.int (nI br)), none]) rfl (fun d' hd' => ?_)
    refine am_run 1 (pc' := 1) (ls' := [some (.ref 44), some (.int (nI op)), some (.int (nI cl)), some (.int (nI tr)), some (.int (nI lc)), some (.int (nI br)), none]) (st' := [.ref 44]) (σ' := (μ, τ)) rfl ?_
    refine am_invv (y := 85) (b := 44) (as := []) (rest := []) rfl rfl rfl rfl rfl rfl rfl (Nat.le_of_ble_eq_true rfl) ?_
    refine c_look (by omega) hT3 hX hC (fun μ1 hK1 hX1 hC1 => ?_)
    show am_G _ M_X6_readEnclosed _ 4 [some (.ref 44), some (.int (nI op)), some (.int (nI cl)), some (.int (nI tr)), some (.int (nI lc)), some (.int (nI br)), none] [.int (tI (tk tx L (lk tx L S.1)))] (μ1, τ)
    refine am_run 1 (pc' := 5) (ls' := [some (.ref 44), some (.int (nI op)), some (.int (nI cl)), some (.int (nI tr)), some (.int (nI lc)), some (.int (nI br)), none]) (st' := [.int (nI op), .int (tI (tk tx L (lk tx L S.1)))]) (σ' := (μ1, τ)) rfl ?_
    refine am_ic (ty := 16) (tn := 8) rfl (by decide) rfl rfl (fun (h_1 : tI (tk tx L (lk tx L S.1)) = nI op) => ?_) (fun (h_1 : ¬ (tI (tk tx L (lk tx L S.1)) = nI op)) => ?_)
    · exact absurd ((tI_eq k1 hop).mp h_1) eo
    refine am_run 2 (pc' := 10) (ls' := [some (.ref 44), some (.int (nI op)), some (.int (nI cl)), some (.int (nI tr)), some (.int (nI lc)), some (.int (nI br)), none]) (st' := [.int (nI 1), .ref 44]) (σ' := (μ1, τ)) rfl ?_
    refine am_invv (y := 84) (b := 44) (as := [.int (nI 1)]) (rest := []) rfl rfl rfl rfl rfl rfl rfl (Nat.le_of_ble_eq_true rfl) ?_
    refine c_refuse (by omega) hT3 hX1 hC1 (y := 1) (by decide) (fun μ2 hK2 hX2 hF2 _ => ?_)
    show am_G _ M_X6_readEnclosed _ 13 [some (.ref 44), some (.int (nI op)), some (.int (nI cl)), some (.int (nI tr)), some (.int (nI lc)), some (.int (nI br)), none] [] (μ2, τ)
    refine am_run 2 (pc' := 29) (ls' := [some (.ref 44), some (.int (nI op)), some (.int (nI cl)), some (.int (nI tr)), some (.int (nI lc)), some (.int (nI br)), none]) (st' := [.ref 44]) (σ' := (μ2, τ)) rfl ?_
    refine am_invv (y := 83) (b := 44) (as := []) (rest := []) rfl rfl rfl rfl rfl rfl rfl (Nat.le_of_ble_eq_true rfl) ?_
    refine am_enter' rfl rfl rfl (by omega) (ls := [some (.ref 44)]) rfl (fun d_2 hd_2 => ?_)
    refine am_run 2 (pc' := 4) (ls' := [some (.ref 44)]) (st' := [.int ((μ2, τ).1 44 3)]) (σ' := (μ2, τ)) rfl ?_
    refine am_top (v' := nI 1) hF2.1 ?_
    refine am_if (ty := 7) (tn := 11) rfl (by decide) rfl rfl (fun (h_3 : nI 1 = 0) => ?_) (fun (h_3 : ¬ (nI 1 = 0)) => ?_)
    · exact absurd h_3 (by decide)
    refine am_run 1 (pc' := 12) (ls' := [some (.ref 44)]) (st' := [.int (nI 0)]) (σ' := (μ2, τ)) rfl ?_
    refine am_retz rfl rfl (by decide) ?_
    show am_G _ M_X6_readEnclosed _ 32 [some (.ref 44), some (.int (nI op)), some (.int (nI cl)), some (.int (nI tr)), some (.int (nI lc)), some (.int (nI br)), none] [.int (nI 0)] (μ2, τ)
    refine am_if (ty := 35) (tn := 37) rfl (by decide) rfl rfl (fun (h_4 : nI 0 = 0) => ?_) (fun (h_4 : ¬ (nI 0 = 0)) => ?_)
    rotate_left
    · exact absurd (by decide) h_4
    refine am_run 1 (pc' := 36) (ls' := [some (.ref 44), some (.int (nI op)), some (.int (nI cl)), some (.int (nI tr)), some (.int (nI lc)), some (.int (nI br)), none]) (st' := [.int (-1)]) (σ' := (μ2, τ)) rfl ?_
    refine am_reti rfl rfl ?_
    exact hF μ2 _ 1 _ (by unfold p_enc; rw [if_pos eo]; rfl) (hK1.tr hK2) hX2 hF2
set_option maxRecDepth 10000 in
set_option maxHeartbeats 2000000 in
theorem c_enc_s {d : Nat} (hd : 5 ≤ d) {μ : Nat → Nat → Int32} {τ : Nat → Nat → Nat} {t L : Nat} {tx : Nat → Nat} {S : PS} (hT3 : T3 t) (hX : XC μ L tx) (hC : CR μ t L S) {op cl tr lc br m : Nat} (hop : op < 256) (hcl : cl < 256) (hlc : lc ≤ 3) {f : Nat → Nat → PS → RS} (hbr : br < 12) (htr : tr + m ≤ 40) (hB : PCt d τ t L tx 87 f (br + 1) m) {Q : am_Q} (hF : ∀ μ' v k fp, p_enc tx L (some f) op cl tr lc S = .inl (k, fp) → KC μ μ' t → XC μ' L tx → FR μ' k fp → Q (some (.int v)) (μ', τ)) (hS : ∀ μ' S' r, p_enc tx L (some f) op cl tr lc S = .inr (S', r) → KC μ μ' t → XC μ' L tx → CR μ' t L S' → S.2.1 ≤ r → r < S'.2.1 → Q (some (.int (nI r))) (μ', τ)) : am_C (d + 1) 92 [.ref 44, .int (nI op), .int (nI cl), .int (nI tr), .int (nI lc), .int (nI br)] (μ, τ) Q := by
  obtain ⟨k1, k2, k3⟩ := tk_le hX (lk tx L S.1)
  have hlk := lk_le (tx := tx) hC.1
  by_cases eo : tk tx L (lk tx L S.1) = op
  · have := k2 (by omega)
    refine am_enter' (M := M_X6_readEnclosed) rfl rfl rfl (by omega) (ls := [some (.ref 44), some (.int (nI op)), some (.int (nI cl)), some (.int (nI tr)), some (.int (nI lc)), some (.int (nI br)), none]) rfl (fun d' hd' => ?_)
    refine am_run 1 (pc' := 1) (ls' := [some (.ref 44), some (.int (nI op)), some (.int (nI cl)), some (.int (nI tr)), some (.int (nI lc)), some (.int (nI br)), none]) (st' := [.ref 44]) (σ' := (μ, τ)) rfl ?_
    refine am_invv (y := 85) (b := 44) (as := []) (rest := []) rfl rfl rfl rfl rfl rfl rfl (Nat.le_of_ble_eq_true rfl) ?_
    refine c_look (by omega) hT3 hX hC (fun μ1 hK1 hX1 hC1 => ?_)
    rw [eo, tI_n hop]
    show am_G _ M_X6_readEnclosed _ 4 [some (.ref 44), some (.int (nI op)), some (.int (nI cl)), some (.int (nI tr)), some (.int (nI lc)), some (.int (nI br)), none] [.int (nI op)] (μ1, τ)
    refine am_run 1 (pc' := 5) (ls' := [some (.ref 44), some (.int (nI op)), some (.int (nI cl)), some (.int (nI tr)), some (.int (nI lc)), some (.int (nI br)), none]) (st' := [.int (nI op), .int (nI op)]) (σ' := (μ1, τ)) rfl ?_
    refine am_ic (ty := 16) (tn := 8) rfl (by decide) rfl rfl (fun (h_1 : nI op = nI op) => ?_) (fun (h_1 : ¬ (nI op = nI op)) => ?_)
    rotate_left
    · have h_1 : ¬ (op = op) := fun z => h_1 ((nI_eq (by omega) (by omega)).mpr z)
      omega
    have h_1 : op = op := (nI_eq (by omega) (by omega)).mp h_1
    refine am_run 2 (pc' := 20) (ls' := [some (.ref 44), some (.int (nI op)), some (.int (nI cl)), some (.int (nI tr)), some (.int (nI lc)), some (.int (nI br)), none]) (st' := [.int (nI 12), .int (nI br)]) (σ' := (μ1, τ)) rfl ?_
    refine am_ic (ty := 28) (tn := 23) rfl (by decide) rfl rfl (fun (h_2 : nI br < nI 12) => ?_) (fun (h_2 : ¬ (nI br < nI 12)) => ?_)
    rotate_left
    · have h_2 : ¬ (br < 12) := fun z => h_2 ((nI_ltI (by omega) (by omega)).mpr z)
      omega
    have h_2 : br < 12 := (nI_ltI (by omega) (by omega)).mp h_2
    refine am_run 1 (pc' := 29) (ls' := [some (.ref 44), some (.int (nI op)), some (.int (nI cl)), some (.int (nI tr)), some (.int (nI lc)), some (.int (nI br)), none]) (st' := [.ref 44]) (σ' := (μ1, τ)) rfl ?_
    refine am_invv (y := 83) (b := 44) (as := []) (rest := []) rfl rfl rfl rfl rfl rfl rfl (Nat.le_of_ble_eq_true rfl) ?_
    refine am_enter' rfl rfl rfl (by omega) (ls := [some (.ref 44)]) rfl (fun d_3 hd_3 => ?_)
    refine am_run 2 (pc' := 4) (ls' := [some (.ref 44)]) (st' := [.int ((μ1, τ).1 44 3)]) (σ' := (μ1, τ)) rfl ?_
    refine am_top (v' := nI 0) hC1.2.2.2.2.1 ?_
    refine am_if (ty := 7) (tn := 11) rfl (by decide) rfl rfl (fun (h_4 : nI 0 = 0) => ?_) (fun (h_4 : ¬ (nI 0 = 0)) => ?_)
    rotate_left
    · exact absurd (by decide) h_4
    refine am_run 2 (pc' := 12) (ls' := [some (.ref 44)]) (st' := [.int (nI 1)]) (σ' := (μ1, τ)) rfl ?_
    refine am_retz rfl rfl (by decide) ?_
    show am_G _ M_X6_readEnclosed _ 32 [some (.ref 44), some (.int (nI op)), some (.int (nI cl)), some (.int (nI tr)), some (.int (nI lc)), some (.int (nI br)), none] [.int (nI 1)] (μ1, τ)
    refine am_if (ty := 35) (tn := 37) rfl (by decide) rfl rfl (fun (h_5 : nI 1 = 0) => ?_) (fun (h_5 : ¬ (nI 1 = 0)) => ?_)
    · exact absurd h_5 (by decide)
    refine am_run 3 (pc' := 42) (ls' := [some (.ref 44), some (.int (nI op)), some (.int (nI cl)), some (.int (nI tr)), some (.int (nI lc)), some (.int (nI br)), none]) (st' := [.int ((μ1, τ).1 44 2), .ref 44]) (σ' := (μ1, τ)) rfl ?_
    refine am_top (v' := nI (lk tx L S.1)) hC1.2.2.2.1 ?_
    refine am_run 2 (pc' := 44) (ls' := [some (.ref 44), some (.int (nI op)), some (.int (nI cl)), some (.int (nI tr)), some (.int (nI lc)), some (.int (nI br)), none]) (st' := [.int (nI (lk tx L S.1) + nI 1), .ref 44]) (σ' := (μ1, τ)) rfl ?_
    refine am_top (v' := nI (lk tx L S.1 + 1)) (nI_add _ _) ?_
    refine am_run 7 (pc' := 55) (ls' := [some (.ref 44), some (.int (nI op)), some (.int (nI cl)), some (.int (nI tr)), some (.int (nI lc)), some (.int (nI br)), none]) (st' := [.int (nI br + nI 1), .int (nI lc), .int (nI tr), .ref 44]) (σ' := (am_wr (μ1, τ) 44 2 (nI (lk tx L S.1 + 1)))) rfl ?_
    refine am_top (v' := nI (br + 1)) (nI_add _ _) ?_
    refine am_invv (y := 87) (b := 44) (as := [.int (nI tr), .int (nI lc), .int (nI (br + 1))]) (rest := []) rfl rfl rfl rfl rfl rfl rfl (Nat.le_of_ble_eq_true rfl) ?_
    obtain rfl : d = d' := by omega
    have hK3 : KC μ (am_wr (μ1, τ) 44 2 (nI (lk tx L S.1 + 1))).1 t := hK1.w44 _ _
    have hX3 := hK3.xc hT3 hX
    have hC3 : CR (am_wr (μ1, τ) 44 2 (nI (lk tx L S.1 + 1))).1 t L (ps_at S (lk tx L S.1 + 1)) := hC1.w2 hT3 (by omega)
    refine hB (am_wr (μ1, τ) 44 2 (nI (lk tx L S.1 + 1))).1 (ps_at S (lk tx L S.1 + 1)) tr lc _ hX3 hC3 hlc (by omega) (fun μ4 v4 k4 fp4 e4 hK4 hX4 hF4 => ?_) (fun μ4 S4 r4 e4 hK4 hX4 hC4 hr4 hr4b => ?_)
    · show am_G _ M_X6_readEnclosed _ 58 [some (.ref 44), some (.int (nI op)), some (.int (nI cl)), some (.int (nI tr)), some (.int (nI lc)), some (.int (nI br)), none] [.int v4] (μ4, τ)
      refine am_run 2 (pc' := 61) (ls' := [some (.ref 44), some (.int (nI op)), some (.int (nI cl)), some (.int (nI tr)), some (.int (nI lc)), some (.int (nI br)), some (.int v4)]) (st' := [.ref 44]) (σ' := (μ4, τ)) rfl ?_
      refine am_invv (y := 85) (b := 44) (as := []) (rest := []) rfl rfl rfl rfl rfl rfl rfl (Nat.le_of_ble_eq_true rfl) ?_
      refine c_look_f (t := t) (by omega) hX4 hF4 (fun μ5 v5 hK5 hF5 => ?_)
      have hX5 := hK5.xc hT3 hX4
      show am_G _ M_X6_readEnclosed _ 64 [some (.ref 44), some (.int (nI op)), some (.int (nI cl)), some (.int (nI tr)), some (.int (nI lc)), some (.int (nI br)), some (.int v4)] [.int v5] (μ5, τ)
      refine am_run 1 (pc' := 65) (ls' := [some (.ref 44), some (.int (nI op)), some (.int (nI cl)), some (.int (nI tr)), some (.int (nI lc)), some (.int (nI br)), some (.int v4)]) (st' := [.int (nI cl), .int v5]) (σ' := (μ5, τ)) rfl ?_
      refine am_ic (ty := 73) (tn := 68) rfl (by decide) rfl rfl (fun (h_401 : v5 = nI cl) => ?_) (fun (h_401 : ¬ (v5 = nI cl)) => ?_)
      · refine am_run 7 (pc' := 85) (ls' := [some (.ref 44), some (.int (nI op)), some (.int (nI cl)), some (.int (nI tr)), some (.int (nI lc)), some (.int (nI br)), some (.int v4)]) (st' := [.int v4]) (σ' := (am_wr (μ5, τ) 44 2 (((μ5, τ).1 44 2) + nI 1))) rfl ?_
        refine am_reti rfl rfl ?_
        have hK7 : KC μ (am_wr (μ5, τ) 44 2 (((μ5, τ).1 44 2) + nI 1)).1 t := ((hK3.tr hK4).tr hK5).w44 _ _
        exact hF _ _ k4 fp4 (by unfold p_enc; rw [if_neg (fun z => z eo)]; show (match f tr lc _ with | .inl e => _ | .inr (S1, r) => _) = _; rw [e4]) hK7 (hK7.xc hT3 hX) (hF5.w2 _)
      · refine am_run 2 (pc' := 70) (ls' := [some (.ref 44), some (.int (nI op)), some (.int (nI cl)), some (.int (nI tr)), some (.int (nI lc)), some (.int (nI br)), some (.int v4)]) (st' := [.int (nI 1), .ref 44]) (σ' := (μ5, τ)) rfl ?_
        refine am_invv (y := 84) (b := 44) (as := [.int (nI 1)]) (rest := []) rfl rfl rfl rfl rfl rfl rfl (Nat.le_of_ble_eq_true rfl) ?_
        refine c_refuse_f (by omega) hT3 hX5 hF5 ?_
        show am_G _ M_X6_readEnclosed _ 73 [some (.ref 44), some (.int (nI op)), some (.int (nI cl)), some (.int (nI tr)), some (.int (nI lc)), some (.int (nI br)), some (.int v4)] [] (μ5, τ)
        refine am_run 7 (pc' := 85) (ls' := [some (.ref 44), some (.int (nI op)), some (.int (nI cl)), some (.int (nI tr)), some (.int (nI lc)), some (.int (nI br)), some (.int v4)]) (st' := [.int v4]) (σ' := (am_wr (μ5, τ) 44 2 (((μ5, τ).1 44 2) + nI 1))) rfl ?_
        refine am_reti rfl rfl ?_
        have hK7 : KC μ (am_wr (μ5, τ) 44 2 (((μ5, τ).1 44 2) + nI 1)).1 t := ((hK3.tr hK4).tr hK5).w44 _ _
        exact hF _ _ k4 fp4 (by unfold p_enc; rw [if_neg (fun z => z eo)]; show (match f tr lc _ with | .inl e => _ | .inr (S1, r) => _) = _; rw [e4]) hK7 (hK7.xc hT3 hX) (hF5.w2 _)
    · obtain ⟨k5, k6, k7⟩ := tk_le hX4 (lk tx L S4.1)
      have hlk4 := lk_le (tx := tx) hC4.1
      by_cases ec : tk tx L (lk tx L S4.1) = cl
      · have := k6 (by omega)
        show am_G _ M_X6_readEnclosed _ 58 [some (.ref 44), some (.int (nI op)), some (.int (nI cl)), some (.int (nI tr)), some (.int (nI lc)), some (.int (nI br)), none] [.int (nI r4)] (μ4, τ)
        refine am_run 2 (pc' := 61) (ls' := [some (.ref 44), some (.int (nI op)), some (.int (nI cl)), some (.int (nI tr)), some (.int (nI lc)), some (.int (nI br)), some (.int (nI r4))]) (st' := [.ref 44]) (σ' := (μ4, τ)) rfl ?_
        refine am_invv (y := 85) (b := 44) (as := []) (rest := []) rfl rfl rfl rfl rfl rfl rfl (Nat.le_of_ble_eq_true rfl) ?_
        refine c_look (by omega) hT3 hX4 hC4 (fun μ5 hK5 hX5 hC5 => ?_)
        show am_G _ M_X6_readEnclosed _ 64 [some (.ref 44), some (.int (nI op)), some (.int (nI cl)), some (.int (nI tr)), some (.int (nI lc)), some (.int (nI br)), some (.int (nI r4))] [.int (tI (tk tx L (lk tx L S4.1)))] (μ5, τ)
        refine am_run 1 (pc' := 65) (ls' := [some (.ref 44), some (.int (nI op)), some (.int (nI cl)), some (.int (nI tr)), some (.int (nI lc)), some (.int (nI br)), some (.int (nI r4))]) (st' := [.int (nI cl), .int (tI (tk tx L (lk tx L S4.1)))]) (σ' := (μ5, τ)) rfl ?_
        refine am_ic (ty := 73) (tn := 68) rfl (by decide) rfl rfl (fun (h_401 : tI (tk tx L (lk tx L S4.1)) = nI cl) => ?_) (fun (h_401 : ¬ (tI (tk tx L (lk tx L S4.1)) = nI cl)) => ?_)
        rotate_left
        · exact absurd ((tI_eq k5 hcl).mpr ec) h_401
        refine am_run 3 (pc' := 78) (ls' := [some (.ref 44), some (.int (nI op)), some (.int (nI cl)), some (.int (nI tr)), some (.int (nI lc)), some (.int (nI br)), some (.int (nI r4))]) (st' := [.int ((μ5, τ).1 44 2), .ref 44]) (σ' := (μ5, τ)) rfl ?_
        refine am_top (v' := nI (lk tx L S4.1)) hC5.2.2.2.1 ?_
        refine am_run 2 (pc' := 80) (ls' := [some (.ref 44), some (.int (nI op)), some (.int (nI cl)), some (.int (nI tr)), some (.int (nI lc)), some (.int (nI br)), some (.int (nI r4))]) (st' := [.int (nI (lk tx L S4.1) + nI 1), .ref 44]) (σ' := (μ5, τ)) rfl ?_
        refine am_top (v' := nI (lk tx L S4.1 + 1)) (nI_add _ _) ?_
        refine am_run 2 (pc' := 85) (ls' := [some (.ref 44), some (.int (nI op)), some (.int (nI cl)), some (.int (nI tr)), some (.int (nI lc)), some (.int (nI br)), some (.int (nI r4))]) (st' := [.int (nI r4)]) (σ' := (am_wr (μ5, τ) 44 2 (nI (lk tx L S4.1 + 1)))) rfl ?_
        refine am_reti rfl rfl ?_
        have hK7 : KC μ (am_wr (μ5, τ) 44 2 (nI (lk tx L S4.1 + 1))).1 t := ((hK3.tr hK4).tr hK5).w44 _ _
        exact hS _ _ r4 (by unfold p_enc; rw [if_neg (fun z => z eo)]; show (match f tr lc _ with | .inl e => _ | .inr (S1, r) => _) = _; rw [e4]; show (if _ then _ else _) = _; rw [if_neg (fun z => z ec)]; rfl) hK7 (hK7.xc hT3 hX) (hC5.w2 hT3 (by omega)) hr4 hr4b
      · show am_G _ M_X6_readEnclosed _ 58 [some (.ref 44), some (.int (nI op)), some (.int (nI cl)), some (.int (nI tr)), some (.int (nI lc)), some (.int (nI br)), none] [.int (nI r4)] (μ4, τ)
        refine am_run 2 (pc' := 61) (ls' := [some (.ref 44), some (.int (nI op)), some (.int (nI cl)), some (.int (nI tr)), some (.int (nI lc)), some (.int (nI br)), some (.int (nI r4))]) (st' := [.ref 44]) (σ' := (μ4, τ)) rfl ?_
        refine am_invv (y := 85) (b := 44) (as := []) (rest := []) rfl rfl rfl rfl rfl rfl rfl (Nat.le_of_ble_eq_true rfl) ?_
        refine c_look (by omega) hT3 hX4 hC4 (fun μ5 hK5 hX5 hC5 => ?_)
        show am_G _ M_X6_readEnclosed _ 64 [some (.ref 44), some (.int (nI op)), some (.int (nI cl)), some (.int (nI tr)), some (.int (nI lc)), some (.int (nI br)), some (.int (nI r4))] [.int (tI (tk tx L (lk tx L S4.1)))] (μ5, τ)
        refine am_run 1 (pc' := 65) (ls' := [some (.ref 44), some (.int (nI op)), some (.int (nI cl)), some (.int (nI tr)), some (.int (nI lc)), some (.int (nI br)), some (.int (nI r4))]) (st' := [.int (nI cl), .int (tI (tk tx L (lk tx L S4.1)))]) (σ' := (μ5, τ)) rfl ?_
        refine am_ic (ty := 73) (tn := 68) rfl (by decide) rfl rfl (fun (h_401 : tI (tk tx L (lk tx L S4.1)) = nI cl) => ?_) (fun (h_401 : ¬ (tI (tk tx L (lk tx L S4.1)) = nI cl)) => ?_)
        · exact absurd ((tI_eq k5 hcl).mp h_401) ec
        refine am_run 2 (pc' := 70) (ls' := [some (.ref 44), some (.int (nI op)), some (.int (nI cl)), some (.int (nI tr)), some (.int (nI lc)), some (.int (nI br)), some (.int (nI r4))]) (st' := [.int (nI 1), .ref 44]) (σ' := (μ5, τ)) rfl ?_
        refine am_invv (y := 84) (b := 44) (as := [.int (nI 1)]) (rest := []) rfl rfl rfl rfl rfl rfl rfl (Nat.le_of_ble_eq_true rfl) ?_
        refine c_refuse (by omega) hT3 hX5 hC5 (y := 1) (by decide) (fun μ6 hK6 hX6 hF6 _ => ?_)
        show am_G _ M_X6_readEnclosed _ 73 [some (.ref 44), some (.int (nI op)), some (.int (nI cl)), some (.int (nI tr)), some (.int (nI lc)), some (.int (nI br)), some (.int (nI r4))] [] (μ6, τ)
        refine am_run 7 (pc' := 85) (ls' := [some (.ref 44), some (.int (nI op)), some (.int (nI cl)), some (.int (nI tr)), some (.int (nI lc)), some (.int (nI br)), some (.int (nI r4))]) (st' := [.int (nI r4)]) (σ' := (am_wr (μ6, τ) 44 2 (((μ6, τ).1 44 2) + nI 1))) rfl ?_
        refine am_reti rfl rfl ?_
        have hK7 : KC μ (am_wr (μ6, τ) 44 2 (((μ6, τ).1 44 2) + nI 1)).1 t := (((hK3.tr hK4).tr hK5).tr hK6).w44 _ _
        exact hF _ _ 1 _ (by unfold p_enc; rw [if_neg (fun z => z eo)]; show (match f tr lc _ with | .inl e => _ | .inr (S1, r) => _) = _; rw [e4]; show (if _ then _ else _) = _; rw [if_pos ec]; rfl) hK7 (hK7.xc hT3 hX) (hF6.w2 _)
  · skip
    refine am_enter' (M := M_X6_readEnclosed) rfl rfl rfl (by omega) (ls := [some (.ref 44), some (.int (nI op)), some (.int (nI cl)), some (.int (nI tr)), some (.int (nI lc)), some (.int (nI br)), none]) rfl (fun d' hd' => ?_)
    refine am_run 1 (pc' := 1) (ls' := [some (.ref 44), some (.int (nI op)), some (.int (nI cl)), some (.int (nI tr)), some (.int (nI lc)), some (.int (nI br)), none]) (st' := [.ref 44]) (σ' := (μ, τ)) rfl ?_
    refine am_invv (y := 85) (b := 44) (as := []) (rest := []) rfl rfl rfl rfl rfl rfl rfl (Nat.le_of_ble_eq_true rfl) ?_
    refine c_look (by omega) hT3 hX hC (fun μ1 hK1 hX1 hC1 => ?_)
    show am_G _ M_X6_readEnclosed _ 4 [some (.ref 44), some (.int (nI op)), some (.int (nI cl)), some (.int (nI tr)), some (.int (nI lc)), some (.int (nI br)), none] [.int (tI (tk tx L (lk tx L S.1)))] (μ1, τ)
    refine am_run 1 (pc' := 5) (ls' := [some (.ref 44), some (.int (nI op)), some (.int (nI cl)), some (.int (nI tr)), some (.int (nI lc)), some (.int (nI br)), none]) (st' := [.int (nI op), .int (tI (tk tx L (lk tx L S.1)))]) (σ' := (μ1, τ)) rfl ?_
    refine am_ic (ty := 16) (tn := 8) rfl (by decide) rfl rfl (fun (h_1 : tI (tk tx L (lk tx L S.1)) = nI op) => ?_) (fun (h_1 : ¬ (tI (tk tx L (lk tx L S.1)) = nI op)) => ?_)
    · exact absurd ((tI_eq k1 hop).mp h_1) eo
    refine am_run 2 (pc' := 10) (ls' := [some (.ref 44), some (.int (nI op)), some (.int (nI cl)), some (.int (nI tr)), some (.int (nI lc)), some (.int (nI br)), none]) (st' := [.int (nI 1), .ref 44]) (σ' := (μ1, τ)) rfl ?_
    refine am_invv (y := 84) (b := 44) (as := [.int (nI 1)]) (rest := []) rfl rfl rfl rfl rfl rfl rfl (Nat.le_of_ble_eq_true rfl) ?_
    refine c_refuse (by omega) hT3 hX1 hC1 (y := 1) (by decide) (fun μ2 hK2 hX2 hF2 _ => ?_)
    show am_G _ M_X6_readEnclosed _ 13 [some (.ref 44), some (.int (nI op)), some (.int (nI cl)), some (.int (nI tr)), some (.int (nI lc)), some (.int (nI br)), none] [] (μ2, τ)
    refine am_run 2 (pc' := 29) (ls' := [some (.ref 44), some (.int (nI op)), some (.int (nI cl)), some (.int (nI tr)), some (.int (nI lc)), some (.int (nI br)), none]) (st' := [.ref 44]) (σ' := (μ2, τ)) rfl ?_
    refine am_invv (y := 83) (b := 44) (as := []) (rest := []) rfl rfl rfl rfl rfl rfl rfl (Nat.le_of_ble_eq_true rfl) ?_
    refine am_enter' rfl rfl rfl (by omega) (ls := [some (.ref 44)]) rfl (fun d_2 hd_2 => ?_)
    refine am_run 2 (pc' := 4) (ls' := [some (.ref 44)]) (st' := [.int ((μ2, τ).1 44 3)]) (σ' := (μ2, τ)) rfl ?_
    refine am_top (v' := nI 1) hF2.1 ?_
    refine am_if (ty := 7) (tn := 11) rfl (by decide) rfl rfl (fun (h_3 : nI 1 = 0) => ?_) (fun (h_3 : ¬ (nI 1 = 0)) => ?_)
    · exact absurd h_3 (by decide)
    refine am_run 1 (pc' := 12) (ls' := [some (.ref 44)]) (st' := [.int (nI 0)]) (σ' := (μ2, τ)) rfl ?_
    refine am_retz rfl rfl (by decide) ?_
    show am_G _ M_X6_readEnclosed _ 32 [some (.ref 44), some (.int (nI op)), some (.int (nI cl)), some (.int (nI tr)), some (.int (nI lc)), some (.int (nI br)), none] [.int (nI 0)] (μ2, τ)
    refine am_if (ty := 35) (tn := 37) rfl (by decide) rfl rfl (fun (h_4 : nI 0 = 0) => ?_) (fun (h_4 : ¬ (nI 0 = 0)) => ?_)
    rotate_left
    · exact absurd (by decide) h_4
    refine am_run 1 (pc' := 36) (ls' := [some (.ref 44), some (.int (nI op)), some (.int (nI cl)), some (.int (nI tr)), some (.int (nI lc)), some (.int (nI br)), none]) (st' := [.int (-1)]) (σ' := (μ2, τ)) rfl ?_
    refine am_reti rfl rfl ?_
    exact hF μ2 _ 1 _ (by unfold p_enc; rw [if_pos eo]; rfl) (hK1.tr hK2) hX2 hF2

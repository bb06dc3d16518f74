theorem CR.at {μ μ' : Nat → Nat → Int32} {t L : Nat} {S : PS} (hT : T3 t) (h : CR μ t L S) (h1 : ∀ c, c ≠ 44 → μ' c = μ c) (h2 : μ' 44 3 = μ 44 3) {q : Nat} (h3 : μ' 44 2 = nI q) (hq : q ≤ L) : CR μ' t L (ps_at S q) := by
  obtain ⟨c1, c2, c3, c4, c5, c6, c7, c8⟩ := h
  unfold T3 at hT
  refine ⟨hq, c2, c3, h3, by rw [h2]; exact c5, by rw [h1 t (by omega)]; exact c6, by rw [h1 t (by omega)]; exact c7, fun i hi => ?_⟩
  have := c8 i hi
  unfold RW
  rw [h1 (t + 1) (by omega), h1 (t + 2) (by omega), h1 (t + 3) (by omega), h1 (t + 4) (by omega), h1 (t + 5) (by omega), h1 (t + 6) (by omega), h1 (t + 7) (by omega), h1 (t + 8) (by omega)]
  exact this
theorem KC.of44 {μ μ' : Nat → Nat → Int32} {t : Nat} (h1 : ∀ c, c ≠ 44 → μ' c = μ c) : KC μ μ' t := fun c a _ => h1 c a
set_option maxRecDepth 10000 in
set_option maxHeartbeats 2000000 in
theorem c_look {d : Nat} (hd : 2 ≤ d) {μ : Nat → Nat → Int32} {τ : Nat → Nat → Nat} {t L : Nat} {tx : Nat → Nat} {S : PS} (hT3 : T3 t) (hX : XC μ L tx) (hC : CR μ t L S) {Q : am_Q} (hq : ∀ μ', KC μ μ' t → XC μ' L tx → CR μ' t L (ps_at S (lk tx L S.1)) → Q (some (.int (tI (tk tx L (lk tx L S.1))))) (μ', τ)) : am_C d 85 [.ref 44] (μ, τ) Q := by
  refine c_look0 hd hX hC.1 hC.2.2.2.1 (fun μ' k1 k2 k3 => ?_)
  exact hq μ' (KC.of44 k1) ((KC.of44 k1).xc hT3 hX) (hC.at hT3 k1 (k2 3 (by decide)) k3 (lk_le hC.1).2)
set_option maxRecDepth 10000 in
set_option maxHeartbeats 2000000 in
theorem c_refuse {d : Nat} (hd : 2 ≤ d) {μ : Nat → Nat → Int32} {τ : Nat → Nat → Nat} {t L : Nat} {tx : Nat → Nat} {S : PS} (hT3 : T3 t) (hX : XC μ L tx) (hC : CR μ t L S) {y : Nat} (hy : 1 ≤ y ∧ y ≤ 5) {Q : am_Q} (hq : ∀ μ', KC μ μ' t → XC μ' L tx → FR μ' y S.1 → (∀ f, f ≠ 3 → f ≠ 4 → μ' 44 f = μ 44 f) → Q none (μ', τ)) : am_C d 84 [.ref 44, .int (nI y)] (μ, τ) Q := by
  refine am_enter' (M := M_X6_refuse) rfl rfl rfl (by omega) (ls := [some (.ref 44), some (.int (nI y))]) rfl (fun d' hd' => ?_)
  refine am_run 1 (pc' := 1) (ls' := [some (.ref 44), some (.int (nI y))]) (st' := [.ref 44]) (σ' := (μ, τ)) rfl ?_
  refine am_invv (y := 83) (b := 44) (as := []) (rest := []) rfl rfl rfl rfl rfl rfl rfl (Nat.le_of_ble_eq_true rfl) ?_
  refine am_enter' rfl rfl rfl (by omega) (ls := [some (.ref 44)]) rfl (fun d_1 hd_1 => ?_)
  refine am_run 2 (pc' := 4) (ls' := [some (.ref 44)]) (st' := [.int ((μ, τ).1 44 3)]) (σ' := (μ, τ)) rfl ?_
  refine am_top (v' := nI 0) hC.2.2.2.2.1 ?_
  refine am_if (ty := 7) (tn := 11) rfl (by decide) rfl rfl (fun (h_2 : nI 0 = 0) => ?_) (fun (h_2 : ¬ (nI 0 = 0)) => ?_)
  rotate_left
  · exact absurd (by decide) h_2
  refine am_run 2 (pc' := 12) (ls' := [some (.ref 44)]) (st' := [.int (nI 1)]) (σ' := (μ, τ)) rfl ?_
  refine am_retz rfl rfl (by decide) ?_
  show am_G _ M_X6_refuse _ 4 [some (.ref 44), some (.int (nI y))] [.int (nI 1)] (μ, τ)
  refine am_if (ty := 20) (tn := 7) rfl (by decide) rfl rfl (fun (h_3 : nI 1 = 0) => ?_) (fun (h_3 : ¬ (nI 1 = 0)) => ?_)
  · exact absurd h_3 (by decide)
  refine am_run 6 (pc' := 17) (ls' := [some (.ref 44), some (.int (nI y))]) (st' := [.int ((μ, τ).1 44 2), .ref 44]) (σ' := (am_wr (μ, τ) 44 3 (nI y))) rfl ?_
  refine am_top (v' := nI S.1) hC.2.2.2.1 ?_
  refine am_run 1 (pc' := 20) (ls' := [some (.ref 44), some (.int (nI y))]) (st' := []) (σ' := (am_wr (am_wr (μ, τ) 44 3 (nI y)) 44 4 (nI S.1))) rfl ?_
  refine am_retv rfl rfl ?_
  have hK : KC μ (am_wr (am_wr (μ, τ) 44 3 (nI y)) 44 4 (nI S.1)).1 t := ((KC.rf μ t).w44 _ _).w44 _ _
  exact hq (am_wr (am_wr (μ, τ) 44 3 (nI y)) 44 4 (nI S.1)).1 hK (hK.xc hT3 hX) ⟨rfl, rfl, hy⟩ (fun f a b => by rw [am_diff _ _ _ _ _ b, am_diff _ _ _ _ _ a])
set_option maxRecDepth 10000 in
set_option maxHeartbeats 2000000 in
theorem c_refuse_f {d : Nat} (hd : 2 ≤ d) {μ : Nat → Nat → Int32} {τ : Nat → Nat → Nat} {t L k fp : Nat} {tx : Nat → Nat} (hT3 : T3 t) (hX : XC μ L tx) (hF : FR μ k fp) {y : Int32} {Q : am_Q} (hq : Q none (μ, τ)) : am_C d 84 [.ref 44, .int y] (μ, τ) Q := by
  obtain ⟨-, -, f3, f4⟩ := id hF
  refine am_enter' (M := M_X6_refuse) rfl rfl rfl (by omega) (ls := [some (.ref 44), some (.int y)]) rfl (fun d' hd' => ?_)
  refine am_run 1 (pc' := 1) (ls' := [some (.ref 44), some (.int y)]) (st' := [.ref 44]) (σ' := (μ, τ)) rfl ?_
  refine am_invv (y := 83) (b := 44) (as := []) (rest := []) rfl rfl rfl rfl rfl rfl rfl (Nat.le_of_ble_eq_true rfl) ?_
  refine am_enter' rfl rfl rfl (by omega) (ls := [some (.ref 44)]) rfl (fun d_1 hd_1 => ?_)
  refine am_run 2 (pc' := 4) (ls' := [some (.ref 44)]) (st' := [.int ((μ, τ).1 44 3)]) (σ' := (μ, τ)) rfl ?_
  refine am_top (v' := nI k) (by exact hF.1) ?_
  refine am_if (ty := 7) (tn := 11) rfl (by decide) rfl rfl (fun (h_2 : nI k = 0) => ?_) (fun (h_2 : ¬ (nI k = 0)) => ?_)
  · have h_2 : k = 0 := (am_n0 (by omega)).mp h_2
    omega
  have h_2 : ¬ (k = 0) := fun z => h_2 ((am_n0 (by omega)).mpr z)
  refine am_run 1 (pc' := 12) (ls' := [some (.ref 44)]) (st' := [.int (nI 0)]) (σ' := (μ, τ)) rfl ?_
  refine am_retz rfl rfl (by decide) ?_
  show am_G _ M_X6_refuse _ 4 [some (.ref 44), some (.int y)] [.int (nI 0)] (μ, τ)
  refine am_if (ty := 20) (tn := 7) rfl (by decide) rfl rfl (fun (h_3 : nI 0 = 0) => ?_) (fun (h_3 : ¬ (nI 0 = 0)) => ?_)
  rotate_left
  · exact absurd (by decide) h_3
  refine am_retv rfl rfl ?_
  exact hq
set_option maxRecDepth 10000 in
set_option maxHeartbeats 2000000 in
theorem c_isNext {d : Nat} (hd : 3 ≤ d) {μ : Nat → Nat → Int32} {τ : Nat → Nat → Nat} {t L : Nat} {tx : Nat → Nat} {S : PS} (hT3 : T3 t) (hX : XC μ L tx) (hC : CR μ t L S) {y : Nat} (hy : y < 256) {Q : am_Q} (h1 : ∀ μ', tk tx L (lk tx L S.1) = y → KC μ μ' t → XC μ' L tx → CR μ' t L (ps_at S (lk tx L S.1)) → Q (some (.int (nI 1))) (μ', τ)) (h0 : ∀ μ', ¬ tk tx L (lk tx L S.1) = y → KC μ μ' t → XC μ' L tx → CR μ' t L (ps_at S (lk tx L S.1)) → Q (some (.int (nI 0))) (μ', τ)) : am_C d 86 [.ref 44, .int (nI y)] (μ, τ) Q := by
  obtain ⟨k1, -, -⟩ := tk_le hX (lk tx L S.1)
  by_cases e : tk tx L (lk tx L S.1) = y
  · skip
    refine am_enter' (M := M_X6_isNext) rfl rfl rfl (by omega) (ls := [some (.ref 44), some (.int (nI y))]) rfl (fun d' hd' => ?_)
    refine am_run 1 (pc' := 1) (ls' := [some (.ref 44), some (.int (nI y))]) (st' := [.ref 44]) (σ' := (μ, τ)) rfl ?_
    refine am_invv (y := 83) (b := 44) (as := []) (rest := []) rfl rfl rfl rfl rfl rfl rfl (Nat.le_of_ble_eq_true rfl) ?_
    refine am_enter' rfl rfl rfl (by omega) (ls := [some (.ref 44)]) rfl (fun d_1 hd_1 => ?_)
    refine am_run 2 (pc' := 4) (ls' := [some (.ref 44)]) (st' := [.int ((μ, τ).1 44 3)]) (σ' := (μ, τ)) rfl ?_
    refine am_top (v' := nI 0) hC.2.2.2.2.1 ?_
    refine am_if (ty := 7) (tn := 11) rfl (by decide) rfl rfl (fun (h_2 : nI 0 = 0) => ?_) (fun (h_2 : ¬ (nI 0 = 0)) => ?_)
    rotate_left
    · exact absurd (by decide) h_2
    refine am_run 2 (pc' := 12) (ls' := [some (.ref 44)]) (st' := [.int (nI 1)]) (σ' := (μ, τ)) rfl ?_
    refine am_retz rfl rfl (by decide) ?_
    show am_G _ M_X6_isNext _ 4 [some (.ref 44), some (.int (nI y))] [.int (nI 1)] (μ, τ)
    refine am_if (ty := 19) (tn := 7) rfl (by decide) rfl rfl (fun (h_3 : nI 1 = 0) => ?_) (fun (h_3 : ¬ (nI 1 = 0)) => ?_)
    · exact absurd h_3 (by decide)
    refine am_run 1 (pc' := 8) (ls' := [some (.ref 44), some (.int (nI y))]) (st' := [.ref 44]) (σ' := (μ, τ)) rfl ?_
    refine am_invv (y := 85) (b := 44) (as := []) (rest := []) rfl rfl rfl rfl rfl rfl rfl (Nat.le_of_ble_eq_true rfl) ?_
    refine c_look (by omega) hT3 hX hC (fun μ1 hK1 hX1 hC1 => ?_)
    show am_G _ M_X6_isNext _ 11 [some (.ref 44), some (.int (nI y))] [.int (tI (tk tx L (lk tx L S.1)))] (μ1, τ)
    refine am_run 1 (pc' := 12) (ls' := [some (.ref 44), some (.int (nI y))]) (st' := [.int (nI y), .int (tI (tk tx L (lk tx L S.1)))]) (σ' := (μ1, τ)) rfl ?_
    refine am_ic (ty := 15) (tn := 19) rfl (by decide) rfl rfl (fun (h_4 : tI (tk tx L (lk tx L S.1)) = nI y) => ?_) (fun (h_4 : ¬ (tI (tk tx L (lk tx L S.1)) = nI y)) => ?_)
    rotate_left
    · exact absurd ((tI_eq k1 hy).mpr e) h_4
    refine am_run 2 (pc' := 20) (ls' := [some (.ref 44), some (.int (nI y))]) (st' := [.int (nI 1)]) (σ' := (μ1, τ)) rfl ?_
    refine am_retz rfl rfl (by decide) ?_
    exact h1 μ1 e hK1 hX1 hC1
  · skip
    refine am_enter' (M := M_X6_isNext) rfl rfl rfl (by omega) (ls := [some (.ref 44), some (.int (nI y))]) rfl (fun d' hd' => ?_)
    refine am_run 1 (pc' := 1) (ls' := [some (.ref 44), some (.int (nI y))]) (st' := [.ref 44]) (σ' := (μ, τ)) rfl ?_
    refine am_invv (y := 83) (b := 44) (as := []) (rest := []) rfl rfl rfl rfl rfl rfl rfl (Nat.le_of_ble_eq_true rfl) ?_
    refine am_enter' rfl rfl rfl (by omega) (ls := [some (.ref 44)]) rfl (fun d_1 hd_1 => ?_)
    refine am_run 2 (pc' := 4) (ls' := [some (.ref 44)]) (st' := [.int ((μ, τ).1 44 3)]) (σ' := (μ, τ)) rfl ?_
    refine am_top (v' := nI 0) hC.2.2.2.2.1 ?_
    refine am_if (ty := 7) (tn := 11) rfl (by decide) rfl rfl (fun (h_2 : nI 0 = 0) => ?_) (fun (h_2 : ¬ (nI 0 = 0)) => ?_)
    rotate_left
    · exact absurd (by decide) h_2
    refine am_run 2 (pc' := 12) (ls' := [some (.ref 44)]) (st' := [.int (nI 1)]) (σ' := (μ, τ)) rfl ?_
    refine am_retz rfl rfl (by decide) ?_
    show am_G _ M_X6_isNext _ 4 [some (.ref 44), some (.int (nI y))] [.int (nI 1)] (μ, τ)
    refine am_if (ty := 19) (tn := 7) rfl (by decide) rfl rfl (fun (h_3 : nI 1 = 0) => ?_) (fun (h_3 : ¬ (nI 1 = 0)) => ?_)
    · exact absurd h_3 (by decide)
    refine am_run 1 (pc' := 8) (ls' := [some (.ref 44), some (.int (nI y))]) (st' := [.ref 44]) (σ' := (μ, τ)) rfl ?_
    refine am_invv (y := 85) (b := 44) (as := []) (rest := []) rfl rfl rfl rfl rfl rfl rfl (Nat.le_of_ble_eq_true rfl) ?_
    refine c_look (by omega) hT3 hX hC (fun μ1 hK1 hX1 hC1 => ?_)
    show am_G _ M_X6_isNext _ 11 [some (.ref 44), some (.int (nI y))] [.int (tI (tk tx L (lk tx L S.1)))] (μ1, τ)
    refine am_run 1 (pc' := 12) (ls' := [some (.ref 44), some (.int (nI y))]) (st' := [.int (nI y), .int (tI (tk tx L (lk tx L S.1)))]) (σ' := (μ1, τ)) rfl ?_
    refine am_ic (ty := 15) (tn := 19) rfl (by decide) rfl rfl (fun (h_4 : tI (tk tx L (lk tx L S.1)) = nI y) => ?_) (fun (h_4 : ¬ (tI (tk tx L (lk tx L S.1)) = nI y)) => ?_)
    · exact absurd ((tI_eq k1 hy).mp h_4) e
    refine am_run 1 (pc' := 20) (ls' := [some (.ref 44), some (.int (nI y))]) (st' := [.int (nI 0)]) (σ' := (μ1, τ)) rfl ?_
    refine am_retz rfl rfl (by decide) ?_
    exact h0 μ1 e hK1 hX1 hC1
set_option maxRecDepth 10000 in
set_option maxHeartbeats 2000000 in
theorem c_isNext_f {d : Nat} (hd : 3 ≤ d) {μ : Nat → Nat → Int32} {τ : Nat → Nat → Nat} {t L k fp : Nat} {tx : Nat → Nat} (hT3 : T3 t) (hX : XC μ L tx) (hF : FR μ k fp) {y : Int32} {Q : am_Q} (hq : Q (some (.int (nI 0))) (μ, τ)) : am_C d 86 [.ref 44, .int y] (μ, τ) Q := by
  obtain ⟨-, -, f3, f4⟩ := id hF
  refine am_enter' (M := M_X6_isNext) rfl rfl rfl (by omega) (ls := [some (.ref 44), some (.int y)]) rfl (fun d' hd' => ?_)
  refine am_run 1 (pc' := 1) (ls' := [some (.ref 44), some (.int y)]) (st' := [.ref 44]) (σ' := (μ, τ)) rfl ?_
  refine am_invv (y := 83) (b := 44) (as := []) (rest := []) rfl rfl rfl rfl rfl rfl rfl (Nat.le_of_ble_eq_true rfl) ?_
  refine am_enter' rfl rfl rfl (by omega) (ls := [some (.ref 44)]) rfl (fun d_1 hd_1 => ?_)
  refine am_run 2 (pc' := 4) (ls' := [some (.ref 44)]) (st' := [.int ((μ, τ).1 44 3)]) (σ' := (μ, τ)) rfl ?_
  refine am_top (v' := nI k) (by exact hF.1) ?_
  refine am_if (ty := 7) (tn := 11) rfl (by decide) rfl rfl (fun (h_2 : nI k = 0) => ?_) (fun (h_2 : ¬ (nI k = 0)) => ?_)
  · have h_2 : k = 0 := (am_n0 (by omega)).mp h_2
    omega
  have h_2 : ¬ (k = 0) := fun z => h_2 ((am_n0 (by omega)).mpr z)
  refine am_run 1 (pc' := 12) (ls' := [some (.ref 44)]) (st' := [.int (nI 0)]) (σ' := (μ, τ)) rfl ?_
  refine am_retz rfl rfl (by decide) ?_
  show am_G _ M_X6_isNext _ 4 [some (.ref 44), some (.int y)] [.int (nI 0)] (μ, τ)
  refine am_if (ty := 19) (tn := 7) rfl (by decide) rfl rfl (fun (h_3 : nI 0 = 0) => ?_) (fun (h_3 : ¬ (nI 0 = 0)) => ?_)
  rotate_left
  · exact absurd (by decide) h_3
  refine am_run 1 (pc' := 20) (ls' := [some (.ref 44), some (.int y)]) (st' := [.int (nI 0)]) (σ' := (μ, τ)) rfl ?_
  refine am_retz rfl rfl (by decide) ?_
  exact hq
set_option maxRecDepth 10000 in
set_option maxHeartbeats 2000000 in
theorem c_isPP {d : Nat} (hd : 1 ≤ d) {σ : am_M} {c : Nat} (hc : c < 256) {Q : am_Q} (h1 : isP c = true → Q (some (.int (nI 1))) σ) (h0 : isP c = false → Q (some (.int (nI 0))) σ) : am_C d 108 [.int (nI c)] σ Q := by
  refine am_enter' (M := M_X8_isPausePoint) rfl rfl rfl (by omega) (ls := [some (.int (nI c))]) rfl (fun d' hd' => ?_)
  refine am_run 2 (pc' := 3) (ls' := [some (.int (nI c))]) (st' := [.int (nI 46), .int (nI c)]) (σ' := σ) rfl ?_
  refine am_ic (ty := 12) (tn := 6) rfl (by decide) rfl rfl (fun (h_1 : nI c = nI 46) => ?_) (fun (h_1 : ¬ (nI c = nI 46)) => ?_)
  · have h_1 : c = 46 := (nI_eq (by omega) (by omega)).mp h_1
    refine am_run 2 (pc' := 17) (ls' := [some (.int (nI c))]) (st' := [.int (nI 1)]) (σ' := σ) rfl ?_
    refine am_retz rfl rfl (by decide) ?_
    exact h1 (by unfold isP; simp [*])
  · have h_1 : ¬ (c = 46) := fun z => h_1 ((nI_eq (by omega) (by omega)).mpr z)
    refine am_run 2 (pc' := 9) (ls' := [some (.int (nI c))]) (st' := [.int (nI 38), .int (nI c)]) (σ' := σ) rfl ?_
    refine am_ic (ty := 12) (tn := 16) rfl (by decide) rfl rfl (fun (h_2 : nI c = nI 38) => ?_) (fun (h_2 : ¬ (nI c = nI 38)) => ?_)
    · have h_2 : c = 38 := (nI_eq (by omega) (by omega)).mp h_2
      refine am_run 2 (pc' := 17) (ls' := [some (.int (nI c))]) (st' := [.int (nI 1)]) (σ' := σ) rfl ?_
      refine am_retz rfl rfl (by decide) ?_
      exact h1 (by unfold isP; simp [*])
    · have h_2 : ¬ (c = 38) := fun z => h_2 ((nI_eq (by omega) (by omega)).mpr z)
      refine am_run 1 (pc' := 17) (ls' := [some (.int (nI c))]) (st' := [.int (nI 0)]) (σ' := σ) rfl ?_
      refine am_retz rfl rfl (by decide) ?_
      exact h0 (by unfold isP; simp [*])
theorem RW.new {μ : Nat → Nat → Int32} {t : Nat} {S : PS} {c q : Nat} (hn : S.2.1 < 60) (hk : isP c = true → S.2.2.1 < 20) (r1 : μ (t + 1) S.2.1 = nI c) (r2 : μ (t + 2) S.2.1 = -1) (r3 : μ (t + 3) S.2.1 = nI q) (r4 : μ (t + 4) S.2.1 = -1) (r5 : μ (t + 5) S.2.1 = -1) (r6 : μ (t + 6) S.2.1 = nI S.2.1) (r7 : μ (t + 7) S.2.1 = nI S.2.1) (r8 : μ (t + 8) S.2.1 = nI (if isP c = true then 2 ^ S.2.2.1 else 0)) : RW μ t (ps_add S c q).2.2.2 S.2.1 := by
  have e : ∀ a, (ps_add S c q).2.2.2 a S.2.1 = (if a = 0 then c else if a = 4 then (if isP c = true then 2 ^ S.2.2.1 else 0) else if a = 5 then q else if a = 6 then S.2.1 else if a = 7 then S.2.1 else 0) := fun a => if_pos rfl
  have h4 : (if isP c = true then 2 ^ S.2.2.1 else 0) < 1048576 := by
    split
    · rename_i h
      exact Nat.lt_of_lt_of_le (Nat.pow_lt_pow_right (by decide) (hk h)) (by decide)
    · decide
  unfold RW
  rw [e 0, e 1, e 2, e 3, e 4, e 5, e 6, e 7]
  exact ⟨r1, r2, r3, r4, r5, r6, r7, r8, h4, hn, hn⟩
theorem RW.old {μ μ' : Nat → Nat → Int32} {t i : Nat} {p p' : Nat → Nat → Nat} (h : RW μ t p i) (hp : ∀ a, p' a i = p a i) (hr : ∀ j, 1 ≤ j ∧ j ≤ 8 → μ' (t + j) i = μ (t + j) i) : RW μ' t p' i := by
  unfold RW
  rw [hr 1 (by omega), hr 2 (by omega), hr 3 (by omega), hr 4 (by omega), hr 5 (by omega), hr 6 (by omega), hr 7 (by omega), hr 8 (by omega), hp, hp, hp, hp, hp, hp, hp, hp]
  exact h
theorem t3_44 {t : Nat} (h : T3 t) : 45 ≤ t ∧ t ≤ 63 := by unfold T3 at h; omega
set_option maxRecDepth 10000 in
set_option maxHeartbeats 2000000 in
theorem c_begin {d : Nat} (hd : 4 ≤ d) {μ : Nat → Nat → Int32} {τ : Nat → Nat → Nat} {t L : Nat} {tx : Nat → Nat} {S : PS} (hT3 : T3 t) (hX : XC μ L tx) (hC : CR μ t L S) (ht : τ 44 1 = t) (hpL : S.1 < L) {c lc : Nat} (hc : c < 256) (hlc : lc ≤ 3) {Q : am_Q} (hF : ∀ μ' k, p_beg S c lc S.1 = .inl (k, S.1) → KC μ μ' t → XC μ' L tx → FR μ' k S.1 → Q (some (.int (-1))) (μ', τ)) (hS : ∀ μ', p_beg S c lc S.1 = .inr (ps_add S c S.1) → KC μ μ' t → XC μ' L tx → CR μ' t L (ps_add S c S.1) → Q (some (.int (nI S.2.1))) (μ', τ)) : am_C d 93 [.ref 44, .int (nI c), .int (nI lc)] (μ, τ) Q := by
  obtain ⟨c1, c2, c3, c4, c5, c6, c7, c8⟩ := id hC
  have ht4 := t3_44 hT3
  by_cases hr : 60 ≤ S.2.1 ∨ (isP c = true ∧ 20 ≤ S.2.2.1)
  · rcases bt (isP c) with hp | hp
    · by_cases h60 : S.2.1 < 60
      · skip
        have h20 : 20 ≤ S.2.2.1 := (hr.resolve_left (by omega)).2
        refine am_enter' (M := M_X6_begin) rfl rfl rfl (by omega) (ls := [some (.ref 44), some (.int (nI c)), some (.int (nI lc)), none]) rfl (fun d' hd' => ?_)
        refine am_run 2 (pc' := 4) (ls' := [some (.ref 44), some (.int (nI c)), some (.int (nI lc)), none]) (st' := [.ref (τ 44 1)]) (σ' := (μ, τ)) rfl ?_
        refine am_stk (st' := [.ref t]) (by rw [ht]) ?_
        refine am_run 1 (pc' := 5) (ls' := [some (.ref 44), some (.int (nI c)), some (.int (nI lc)), none]) (st' := [.int (nI c), .ref t]) (σ' := (μ, τ)) rfl ?_
        refine am_invv (y := 107) (b := t) (as := [.int (nI c)]) (rest := []) rfl rfl rfl rfl rfl rfl (t3_kind hT3) (Nat.le_of_ble_eq_true rfl) ?_
        refine am_enter' rfl rfl rfl (by omega) (ls := [some (.ref t), some (.int (nI c))]) rfl (fun d_1 hd_1 => ?_)
        refine am_run 1 (pc' := 1) (ls' := [some (.ref t), some (.int (nI c))]) (st' := [.ref t]) (σ' := (μ, τ)) rfl ?_
        refine am_getI (k := 8) rfl rfl (t3_kind hT3) rfl ?_
        refine am_top (v' := nI S.2.1) (c6) ?_
        refine am_run 1 (pc' := 6) (ls' := [some (.ref t), some (.int (nI c))]) (st' := [.int (nI 60), .int (nI S.2.1)]) (σ' := (μ, τ)) rfl ?_
        refine am_ic (ty := 9) (tn := 29) rfl (by decide) rfl rfl (fun (h_2 : nI S.2.1 < nI 60) => ?_) (fun (h_2 : ¬ (nI S.2.1 < nI 60)) => ?_)
        rotate_left
        · have h_2 : ¬ (S.2.1 < 60) := fun z => h_2 ((nI_ltI (by omega) (by omega)).mpr z)
          omega
        have h_2 : S.2.1 < 60 := (nI_ltI (by omega) (by omega)).mp h_2
        refine am_run 1 (pc' := 10) (ls' := [some (.ref t), some (.int (nI c))]) (st' := [.int (nI c)]) (σ' := (μ, τ)) rfl ?_
        refine am_invs (y := 108) (as := [.int (nI c)]) (rest := []) rfl rfl rfl rfl rfl rfl (Nat.le_of_ble_eq_true rfl) ?_
        refine c_isPP (by omega) hc (fun _ => ?_) (fun z => absurd (hp.symm.trans z) (by decide))
        show am_G _ M_X8_hasRoomFor _ 13 [some (.ref t), some (.int (nI c))] [.int (nI 1)] (μ, τ)
        refine am_if (ty := 25) (tn := 16) rfl (by decide) rfl rfl (fun (h_3 : nI 1 = 0) => ?_) (fun (h_3 : ¬ (nI 1 = 0)) => ?_)
        · exact absurd h_3 (by decide)
        refine am_run 1 (pc' := 17) (ls' := [some (.ref t), some (.int (nI c))]) (st' := [.ref t]) (σ' := (μ, τ)) rfl ?_
        refine am_getI (k := 9) rfl rfl (t3_kind hT3) rfl ?_
        refine am_top (v' := nI S.2.2.1) (c7) ?_
        refine am_run 1 (pc' := 22) (ls' := [some (.ref t), some (.int (nI c))]) (st' := [.int (nI 20), .int (nI S.2.2.1)]) (σ' := (μ, τ)) rfl ?_
        refine am_ic (ty := 25) (tn := 29) rfl (by decide) rfl rfl (fun (h_4 : nI S.2.2.1 < nI 20) => ?_) (fun (h_4 : ¬ (nI S.2.2.1 < nI 20)) => ?_)
        · have h_4 : S.2.2.1 < 20 := (nI_ltI (by omega) (by omega)).mp h_4
          omega
        have h_4 : ¬ (S.2.2.1 < 20) := fun z => h_4 ((nI_ltI (by omega) (by omega)).mpr z)
        refine am_run 1 (pc' := 30) (ls' := [some (.ref t), some (.int (nI c))]) (st' := [.int (nI 0)]) (σ' := (μ, τ)) rfl ?_
        refine am_retz rfl rfl (by decide) ?_
        show am_G _ M_X6_begin _ 8 [some (.ref 44), some (.int (nI c)), some (.int (nI lc)), none] [.int (nI 0)] (μ, τ)
        refine am_if (ty := 11) (tn := 19) rfl (by decide) rfl rfl (fun (h_5 : nI 0 = 0) => ?_) (fun (h_5 : ¬ (nI 0 = 0)) => ?_)
        rotate_left
        · exact absurd (by decide) h_5
        refine am_run 2 (pc' := 13) (ls' := [some (.ref 44), some (.int (nI c)), some (.int (nI lc)), none]) (st' := [.int (nI 3), .ref 44]) (σ' := (μ, τ)) rfl ?_
        refine am_invv (y := 84) (b := 44) (as := [.int (nI 3)]) (rest := []) rfl rfl rfl rfl rfl rfl rfl (Nat.le_of_ble_eq_true rfl) ?_
        refine c_refuse (by omega) hT3 hX hC (y := 3) (by decide) (fun μ1 hK1 hX1 hF1 _ => ?_)
        show am_G _ M_X6_begin _ 16 [some (.ref 44), some (.int (nI c)), some (.int (nI lc)), none] [] (μ1, τ)
        refine am_run 2 (pc' := 36) (ls' := [some (.ref 44), some (.int (nI c)), some (.int (nI lc)), none]) (st' := [.ref 44]) (σ' := (μ1, τ)) rfl ?_
        refine am_invv (y := 83) (b := 44) (as := []) (rest := []) rfl rfl rfl rfl rfl rfl rfl (Nat.le_of_ble_eq_true rfl) ?_
        refine am_enter' rfl rfl rfl (by omega) (ls := [some (.ref 44)]) rfl (fun d_6 hd_6 => ?_)
        refine am_run 2 (pc' := 4) (ls' := [some (.ref 44)]) (st' := [.int ((μ1, τ).1 44 3)]) (σ' := (μ1, τ)) rfl ?_
        refine am_top (v' := nI 3) (hF1.1) ?_
        refine am_if (ty := 7) (tn := 11) rfl (by decide) rfl rfl (fun (h_7 : nI 3 = 0) => ?_) (fun (h_7 : ¬ (nI 3 = 0)) => ?_)
        · exact absurd h_7 (by decide)
        refine am_run 1 (pc' := 12) (ls' := [some (.ref 44)]) (st' := [.int (nI 0)]) (σ' := (μ1, τ)) rfl ?_
        refine am_retz rfl rfl (by decide) ?_
        show am_G _ M_X6_begin _ 39 [some (.ref 44), some (.int (nI c)), some (.int (nI lc)), none] [.int (nI 0)] (μ1, τ)
        refine am_if (ty := 42) (tn := 44) rfl (by decide) rfl rfl (fun (h_8 : nI 0 = 0) => ?_) (fun (h_8 : ¬ (nI 0 = 0)) => ?_)
        rotate_left
        · exact absurd (by decide) h_8
        refine am_run 1 (pc' := 43) (ls' := [some (.ref 44), some (.int (nI c)), some (.int (nI lc)), none]) (st' := [.int (-1)]) (σ' := (μ1, τ)) rfl ?_
        refine am_reti rfl rfl ?_
        exact hF μ1 3 (by unfold p_beg; rw [if_pos hr]) hK1 hX1 hF1
      · skip
        refine am_enter' (M := M_X6_begin) rfl rfl rfl (by omega) (ls := [some (.ref 44), some (.int (nI c)), some (.int (nI lc)), none]) rfl (fun d' hd' => ?_)
        refine am_run 2 (pc' := 4) (ls' := [some (.ref 44), some (.int (nI c)), some (.int (nI lc)), none]) (st' := [.ref (τ 44 1)]) (σ' := (μ, τ)) rfl ?_
        refine am_stk (st' := [.ref t]) (by rw [ht]) ?_
        refine am_run 1 (pc' := 5) (ls' := [some (.ref 44), some (.int (nI c)), some (.int (nI lc)), none]) (st' := [.int (nI c), .ref t]) (σ' := (μ, τ)) rfl ?_
        refine am_invv (y := 107) (b := t) (as := [.int (nI c)]) (rest := []) rfl rfl rfl rfl rfl rfl (t3_kind hT3) (Nat.le_of_ble_eq_true rfl) ?_
        refine am_enter' rfl rfl rfl (by omega) (ls := [some (.ref t), some (.int (nI c))]) rfl (fun d_1 hd_1 => ?_)
        refine am_run 1 (pc' := 1) (ls' := [some (.ref t), some (.int (nI c))]) (st' := [.ref t]) (σ' := (μ, τ)) rfl ?_
        refine am_getI (k := 8) rfl rfl (t3_kind hT3) rfl ?_
        refine am_top (v' := nI S.2.1) (c6) ?_
        refine am_run 1 (pc' := 6) (ls' := [some (.ref t), some (.int (nI c))]) (st' := [.int (nI 60), .int (nI S.2.1)]) (σ' := (μ, τ)) rfl ?_
        refine am_ic (ty := 9) (tn := 29) rfl (by decide) rfl rfl (fun (h_2 : nI S.2.1 < nI 60) => ?_) (fun (h_2 : ¬ (nI S.2.1 < nI 60)) => ?_)
        · have h_2 : S.2.1 < 60 := (nI_ltI (by omega) (by omega)).mp h_2
          omega
        have h_2 : ¬ (S.2.1 < 60) := fun z => h_2 ((nI_ltI (by omega) (by omega)).mpr z)
        refine am_run 1 (pc' := 30) (ls' := [some (.ref t), some (.int (nI c))]) (st' := [.int (nI 0)]) (σ' := (μ, τ)) rfl ?_
        refine am_retz rfl rfl (by decide) ?_
        show am_G _ M_X6_begin _ 8 [some (.ref 44), some (.int (nI c)), some (.int (nI lc)), none] [.int (nI 0)] (μ, τ)
        refine am_if (ty := 11) (tn := 19) rfl (by decide) rfl rfl (fun (h_3 : nI 0 = 0) => ?_) (fun (h_3 : ¬ (nI 0 = 0)) => ?_)
        rotate_left
        · exact absurd (by decide) h_3
        refine am_run 2 (pc' := 13) (ls' := [some (.ref 44), some (.int (nI c)), some (.int (nI lc)), none]) (st' := [.int (nI 3), .ref 44]) (σ' := (μ, τ)) rfl ?_
        refine am_invv (y := 84) (b := 44) (as := [.int (nI 3)]) (rest := []) rfl rfl rfl rfl rfl rfl rfl (Nat.le_of_ble_eq_true rfl) ?_
        refine c_refuse (by omega) hT3 hX hC (y := 3) (by decide) (fun μ1 hK1 hX1 hF1 _ => ?_)
        show am_G _ M_X6_begin _ 16 [some (.ref 44), some (.int (nI c)), some (.int (nI lc)), none] [] (μ1, τ)
        refine am_run 2 (pc' := 36) (ls' := [some (.ref 44), some (.int (nI c)), some (.int (nI lc)), none]) (st' := [.ref 44]) (σ' := (μ1, τ)) rfl ?_
        refine am_invv (y := 83) (b := 44) (as := []) (rest := []) rfl rfl rfl rfl rfl rfl rfl (Nat.le_of_ble_eq_true rfl) ?_
        refine am_enter' rfl rfl rfl (by omega) (ls := [some (.ref 44)]) rfl (fun d_4 hd_4 => ?_)
        refine am_run 2 (pc' := 4) (ls' := [some (.ref 44)]) (st' := [.int ((μ1, τ).1 44 3)]) (σ' := (μ1, τ)) rfl ?_
        refine am_top (v' := nI 3) (hF1.1) ?_
        refine am_if (ty := 7) (tn := 11) rfl (by decide) rfl rfl (fun (h_5 : nI 3 = 0) => ?_) (fun (h_5 : ¬ (nI 3 = 0)) => ?_)
        · exact absurd h_5 (by decide)
        refine am_run 1 (pc' := 12) (ls' := [some (.ref 44)]) (st' := [.int (nI 0)]) (σ' := (μ1, τ)) rfl ?_
        refine am_retz rfl rfl (by decide) ?_
        show am_G _ M_X6_begin _ 39 [some (.ref 44), some (.int (nI c)), some (.int (nI lc)), none] [.int (nI 0)] (μ1, τ)
        refine am_if (ty := 42) (tn := 44) rfl (by decide) rfl rfl (fun (h_6 : nI 0 = 0) => ?_) (fun (h_6 : ¬ (nI 0 = 0)) => ?_)
        rotate_left
        · exact absurd (by decide) h_6
        refine am_run 1 (pc' := 43) (ls' := [some (.ref 44), some (.int (nI c)), some (.int (nI lc)), none]) (st' := [.int (-1)]) (σ' := (μ1, τ)) rfl ?_
        refine am_reti rfl rfl ?_
        exact hF μ1 3 (by unfold p_beg; rw [if_pos hr]) hK1 hX1 hF1
    · by_cases h60 : S.2.1 < 60
      · skip
        rcases hr with z | z
        · omega
        · exact absurd (hp.symm.trans z.1) (by decide)
      · skip
        refine am_enter' (M := M_X6_begin) rfl rfl rfl (by omega) (ls := [some (.ref 44), some (.int (nI c)), some (.int (nI lc)), none]) rfl (fun d' hd' => ?_)
        refine am_run 2 (pc' := 4) (ls' := [some (.ref 44), some (.int (nI c)), some (.int (nI lc)), none]) (st' := [.ref (τ 44 1)]) (σ' := (μ, τ)) rfl ?_
        refine am_stk (st' := [.ref t]) (by rw [ht]) ?_
        refine am_run 1 (pc' := 5) (ls' := [some (.ref 44), some (.int (nI c)), some (.int (nI lc)), none]) (st' := [.int (nI c), .ref t]) (σ' := (μ, τ)) rfl ?_
        refine am_invv (y := 107) (b := t) (as := [.int (nI c)]) (rest := []) rfl rfl rfl rfl rfl rfl (t3_kind hT3) (Nat.le_of_ble_eq_true rfl) ?_
        refine am_enter' rfl rfl rfl (by omega) (ls := [some (.ref t), some (.int (nI c))]) rfl (fun d_1 hd_1 => ?_)
        refine am_run 1 (pc' := 1) (ls' := [some (.ref t), some (.int (nI c))]) (st' := [.ref t]) (σ' := (μ, τ)) rfl ?_
        refine am_getI (k := 8) rfl rfl (t3_kind hT3) rfl ?_
        refine am_top (v' := nI S.2.1) (c6) ?_
        refine am_run 1 (pc' := 6) (ls' := [some (.ref t), some (.int (nI c))]) (st' := [.int (nI 60), .int (nI S.2.1)]) (σ' := (μ, τ)) rfl ?_
        refine am_ic (ty := 9) (tn := 29) rfl (by decide) rfl rfl (fun (h_2 : nI S.2.1 < nI 60) => ?_) (fun (h_2 : ¬ (nI S.2.1 < nI 60)) => ?_)
        · have h_2 : S.2.1 < 60 := (nI_ltI (by omega) (by omega)).mp h_2
          omega
        have h_2 : ¬ (S.2.1 < 60) := fun z => h_2 ((nI_ltI (by omega) (by omega)).mpr z)
        refine am_run 1 (pc' := 30) (ls' := [some (.ref t), some (.int (nI c))]) (st' := [.int (nI 0)]) (σ' := (μ, τ)) rfl ?_
        refine am_retz rfl rfl (by decide) ?_
        show am_G _ M_X6_begin _ 8 [some (.ref 44), some (.int (nI c)), some (.int (nI lc)), none] [.int (nI 0)] (μ, τ)
        refine am_if (ty := 11) (tn := 19) rfl (by decide) rfl rfl (fun (h_3 : nI 0 = 0) => ?_) (fun (h_3 : ¬ (nI 0 = 0)) => ?_)
        rotate_left
        · exact absurd (by decide) h_3
        refine am_run 2 (pc' := 13) (ls' := [some (.ref 44), some (.int (nI c)), some (.int (nI lc)), none]) (st' := [.int (nI 3), .ref 44]) (σ' := (μ, τ)) rfl ?_
        refine am_invv (y := 84) (b := 44) (as := [.int (nI 3)]) (rest := []) rfl rfl rfl rfl rfl rfl rfl (Nat.le_of_ble_eq_true rfl) ?_
        refine c_refuse (by omega) hT3 hX hC (y := 3) (by decide) (fun μ1 hK1 hX1 hF1 _ => ?_)
        show am_G _ M_X6_begin _ 16 [some (.ref 44), some (.int (nI c)), some (.int (nI lc)), none] [] (μ1, τ)
        refine am_run 2 (pc' := 36) (ls' := [some (.ref 44), some (.int (nI c)), some (.int (nI lc)), none]) (st' := [.ref 44]) (σ' := (μ1, τ)) rfl ?_
        refine am_invv (y := 83) (b := 44) (as := []) (rest := []) rfl rfl rfl rfl rfl rfl rfl (Nat.le_of_ble_eq_true rfl) ?_
        refine am_enter' rfl rfl rfl (by omega) (ls := [some (.ref 44)]) rfl (fun d_4 hd_4 => ?_)
        refine am_run 2 (pc' := 4) (ls' := [some (.ref 44)]) (st' := [.int ((μ1, τ).1 44 3)]) (σ' := (μ1, τ)) rfl ?_
        refine am_top (v' := nI 3) (hF1.1) ?_
        refine am_if (ty := 7) (tn := 11) rfl (by decide) rfl rfl (fun (h_5 : nI 3 = 0) => ?_) (fun (h_5 : ¬ (nI 3 = 0)) => ?_)
        · exact absurd h_5 (by decide)
        refine am_run 1 (pc' := 12) (ls' := [some (.ref 44)]) (st' := [.int (nI 0)]) (σ' := (μ1, τ)) rfl ?_
        refine am_retz rfl rfl (by decide) ?_
        show am_G _ M_X6_begin _ 39 [some (.ref 44), some (.int (nI c)), some (.int (nI lc)), none] [.int (nI 0)] (μ1, τ)
        refine am_if (ty := 42) (tn := 44) rfl (by decide) rfl rfl (fun (h_6 : nI 0 = 0) => ?_) (fun (h_6 : ¬ (nI 0 = 0)) => ?_)
        rotate_left
        · exact absurd (by decide) h_6
        refine am_run 1 (pc' := 43) (ls' := [some (.ref 44), some (.int (nI c)), some (.int (nI lc)), none]) (st' := [.int (-1)]) (σ' := (μ1, τ)) rfl ?_
        refine am_reti rfl rfl ?_
        exact hF μ1 3 (by unfold p_beg; rw [if_pos hr]) hK1 hX1 hF1
  · by_cases h36 : c = 36 ∧ 3 ≤ lc
    · have hp : isP c = false := by rw [h36.1]; rfl
      have h60 : S.2.1 < 60 := by rcases Nat.lt_or_ge S.2.1 60 with z | z; exact z; exact absurd (Or.inl z) hr
      refine am_enter' (M := M_X6_begin) rfl rfl rfl (by omega) (ls := [some (.ref 44), some (.int (nI c)), some (.int (nI lc)), none]) rfl (fun d' hd' => ?_)
      refine am_run 2 (pc' := 4) (ls' := [some (.ref 44), some (.int (nI c)), some (.int (nI lc)), none]) (st' := [.ref (τ 44 1)]) (σ' := (μ, τ)) rfl ?_
      refine am_stk (st' := [.ref t]) (by rw [ht]) ?_
      refine am_run 1 (pc' := 5) (ls' := [some (.ref 44), some (.int (nI c)), some (.int (nI lc)), none]) (st' := [.int (nI c), .ref t]) (σ' := (μ, τ)) rfl ?_
      refine am_invv (y := 107) (b := t) (as := [.int (nI c)]) (rest := []) rfl rfl rfl rfl rfl rfl (t3_kind hT3) (Nat.le_of_ble_eq_true rfl) ?_
      refine am_enter' rfl rfl rfl (by omega) (ls := [some (.ref t), some (.int (nI c))]) rfl (fun d_1 hd_1 => ?_)
      refine am_run 1 (pc' := 1) (ls' := [some (.ref t), some (.int (nI c))]) (st' := [.ref t]) (σ' := (μ, τ)) rfl ?_
      refine am_getI (k := 8) rfl rfl (t3_kind hT3) rfl ?_
      refine am_top (v' := nI S.2.1) (c6) ?_
      refine am_run 1 (pc' := 6) (ls' := [some (.ref t), some (.int (nI c))]) (st' := [.int (nI 60), .int (nI S.2.1)]) (σ' := (μ, τ)) rfl ?_
      refine am_ic (ty := 9) (tn := 29) rfl (by decide) rfl rfl (fun (h_2 : nI S.2.1 < nI 60) => ?_) (fun (h_2 : ¬ (nI S.2.1 < nI 60)) => ?_)
      rotate_left
      · have h_2 : ¬ (S.2.1 < 60) := fun z => h_2 ((nI_ltI (by omega) (by omega)).mpr z)
        omega
      have h_2 : S.2.1 < 60 := (nI_ltI (by omega) (by omega)).mp h_2
      refine am_run 1 (pc' := 10) (ls' := [some (.ref t), some (.int (nI c))]) (st' := [.int (nI c)]) (σ' := (μ, τ)) rfl ?_
      refine am_invs (y := 108) (as := [.int (nI c)]) (rest := []) rfl rfl rfl rfl rfl rfl (Nat.le_of_ble_eq_true rfl) ?_
      refine c_isPP (by omega) hc (fun z => absurd (hp.symm.trans z) (by decide)) (fun _ => ?_)
      show am_G _ M_X8_hasRoomFor _ 13 [some (.ref t), some (.int (nI c))] [.int (nI 0)] (μ, τ)
      refine am_if (ty := 25) (tn := 16) rfl (by decide) rfl rfl (fun (h_3 : nI 0 = 0) => ?_) (fun (h_3 : ¬ (nI 0 = 0)) => ?_)
      rotate_left
      · exact absurd (by decide) h_3
      refine am_run 2 (pc' := 30) (ls' := [some (.ref t), some (.int (nI c))]) (st' := [.int (nI 1)]) (σ' := (μ, τ)) rfl ?_
      refine am_retz rfl rfl (by decide) ?_
      show am_G _ M_X6_begin _ 8 [some (.ref 44), some (.int (nI c)), some (.int (nI lc)), none] [.int (nI 1)] (μ, τ)
      refine am_if (ty := 11) (tn := 19) rfl (by decide) rfl rfl (fun (h_4 : nI 1 = 0) => ?_) (fun (h_4 : ¬ (nI 1 = 0)) => ?_)
      · exact absurd h_4 (by decide)
      refine am_run 2 (pc' := 22) (ls' := [some (.ref 44), some (.int (nI c)), some (.int (nI lc)), none]) (st' := [.int (nI 36), .int (nI c)]) (σ' := (μ, τ)) rfl ?_
      refine am_ic (ty := 25) (tn := 35) rfl (by decide) rfl rfl (fun (h_5 : nI c = nI 36) => ?_) (fun (h_5 : ¬ (nI c = nI 36)) => ?_)
      rotate_left
      · have h_5 : ¬ (c = 36) := fun z => h_5 ((nI_eq (by omega) (by omega)).mpr z)
        omega
      have h_5 : c = 36 := (nI_eq (by omega) (by omega)).mp h_5
      refine am_run 2 (pc' := 27) (ls' := [some (.ref 44), some (.int (nI c)), some (.int (nI lc)), none]) (st' := [.int (nI 3), .int (nI lc)]) (σ' := (μ, τ)) rfl ?_
      refine am_ic (ty := 35) (tn := 30) rfl (by decide) rfl rfl (fun (h_6 : nI lc < nI 3) => ?_) (fun (h_6 : ¬ (nI lc < nI 3)) => ?_)
      · have h_6 : lc < 3 := (nI_ltI (by omega) (by omega)).mp h_6
        omega
      have h_6 : ¬ (lc < 3) := fun z => h_6 ((nI_ltI (by omega) (by omega)).mpr z)
      refine am_run 2 (pc' := 32) (ls' := [some (.ref 44), some (.int (nI c)), some (.int (nI lc)), none]) (st' := [.int (nI 4), .ref 44]) (σ' := (μ, τ)) rfl ?_
      refine am_invv (y := 84) (b := 44) (as := [.int (nI 4)]) (rest := []) rfl rfl rfl rfl rfl rfl rfl (Nat.le_of_ble_eq_true rfl) ?_
      refine c_refuse (by omega) hT3 hX hC (y := 4) (by decide) (fun μ1 hK1 hX1 hF1 _ => ?_)
      show am_G _ M_X6_begin _ 35 [some (.ref 44), some (.int (nI c)), some (.int (nI lc)), none] [] (μ1, τ)
      refine am_run 1 (pc' := 36) (ls' := [some (.ref 44), some (.int (nI c)), some (.int (nI lc)), none]) (st' := [.ref 44]) (σ' := (μ1, τ)) rfl ?_
      refine am_invv (y := 83) (b := 44) (as := []) (rest := []) rfl rfl rfl rfl rfl rfl rfl (Nat.le_of_ble_eq_true rfl) ?_
      refine am_enter' rfl rfl rfl (by omega) (ls := [some (.ref 44)]) rfl (fun d_7 hd_7 => ?_)
      refine am_run 2 (pc' := 4) (ls' := [some (.ref 44)]) (st' := [.int ((μ1, τ).1 44 3)]) (σ' := (μ1, τ)) rfl ?_
      refine am_top (v' := nI 4) (hF1.1) ?_
      refine am_if (ty := 7) (tn := 11) rfl (by decide) rfl rfl (fun (h_8 : nI 4 = 0) => ?_) (fun (h_8 : ¬ (nI 4 = 0)) => ?_)
      · exact absurd h_8 (by decide)
      refine am_run 1 (pc' := 12) (ls' := [some (.ref 44)]) (st' := [.int (nI 0)]) (σ' := (μ1, τ)) rfl ?_
      refine am_retz rfl rfl (by decide) ?_
      show am_G _ M_X6_begin _ 39 [some (.ref 44), some (.int (nI c)), some (.int (nI lc)), none] [.int (nI 0)] (μ1, τ)
      refine am_if (ty := 42) (tn := 44) rfl (by decide) rfl rfl (fun (h_9 : nI 0 = 0) => ?_) (fun (h_9 : ¬ (nI 0 = 0)) => ?_)
      rotate_left
      · exact absurd (by decide) h_9
      refine am_run 1 (pc' := 43) (ls' := [some (.ref 44), some (.int (nI c)), some (.int (nI lc)), none]) (st' := [.int (-1)]) (σ' := (μ1, τ)) rfl ?_
      refine am_reti rfl rfl ?_
      exact hF μ1 4 (by unfold p_beg; rw [if_neg hr, if_pos h36]) hK1 hX1 hF1
    · have h60 : S.2.1 < 60 := by rcases Nat.lt_or_ge S.2.1 60 with z | z; exact z; exact absurd (Or.inl z) hr
      rcases bt (isP c) with hp | hp
      · have h20 : S.2.2.1 < 20 := by rcases Nat.lt_or_ge S.2.2.1 20 with z | z; exact z; exact absurd (Or.inr ⟨hp, z⟩) hr
        by_cases h36b : c = 36
        · skip
          refine am_enter' (M := M_X6_begin) rfl rfl rfl (by omega) (ls := [some (.ref 44), some (.int (nI c)), some (.int (nI lc)), none]) rfl (fun d' hd' => ?_)
          refine am_run 2 (pc' := 4) (ls' := [some (.ref 44), some (.int (nI c)), some (.int (nI lc)), none]) (st' := [.ref (τ 44 1)]) (σ' := (μ, τ)) rfl ?_
          refine am_stk (st' := [.ref t]) (by rw [ht]) ?_
          refine am_run 1 (pc' := 5) (ls' := [some (.ref 44), some (.int (nI c)), some (.int (nI lc)), none]) (st' := [.int (nI c), .ref t]) (σ' := (μ, τ)) rfl ?_
          refine am_invv (y := 107) (b := t) (as := [.int (nI c)]) (rest := []) rfl rfl rfl rfl rfl rfl (t3_kind hT3) (Nat.le_of_ble_eq_true rfl) ?_
          refine am_enter' rfl rfl rfl (by omega) (ls := [some (.ref t), some (.int (nI c))]) rfl (fun d_1 hd_1 => ?_)
          refine am_run 1 (pc' := 1) (ls' := [some (.ref t), some (.int (nI c))]) (st' := [.ref t]) (σ' := (μ, τ)) rfl ?_
          refine am_getI (k := 8) rfl rfl (t3_kind hT3) rfl ?_
          refine am_top (v' := nI S.2.1) (c6) ?_
          refine am_run 1 (pc' := 6) (ls' := [some (.ref t), some (.int (nI c))]) (st' := [.int (nI 60), .int (nI S.2.1)]) (σ' := (μ, τ)) rfl ?_
          refine am_ic (ty := 9) (tn := 29) rfl (by decide) rfl rfl (fun (h_2 : nI S.2.1 < nI 60) => ?_) (fun (h_2 : ¬ (nI S.2.1 < nI 60)) => ?_)
          rotate_left
          · have h_2 : ¬ (S.2.1 < 60) := fun z => h_2 ((nI_ltI (by omega) (by omega)).mpr z)
            omega
          have h_2 : S.2.1 < 60 := (nI_ltI (by omega) (by omega)).mp h_2
          refine am_run 1 (pc' := 10) (ls' := [some (.ref t), some (.int (nI c))]) (st' := [.int (nI c)]) (σ' := (μ, τ)) rfl ?_
          refine am_invs (y := 108) (as := [.int (nI c)]) (rest := []) rfl rfl rfl rfl rfl rfl (Nat.le_of_ble_eq_true rfl) ?_
          refine c_isPP (by omega) hc (fun _ => ?_) (fun z => absurd (hp.symm.trans z) (by decide))
          show am_G _ M_X8_hasRoomFor _ 13 [some (.ref t), some (.int (nI c))] [.int (nI 1)] (μ, τ)
          refine am_if (ty := 25) (tn := 16) rfl (by decide) rfl rfl (fun (h_3 : nI 1 = 0) => ?_) (fun (h_3 : ¬ (nI 1 = 0)) => ?_)
          · exact absurd h_3 (by decide)
          refine am_run 1 (pc' := 17) (ls' := [some (.ref t), some (.int (nI c))]) (st' := [.ref t]) (σ' := (μ, τ)) rfl ?_
          refine am_getI (k := 9) rfl rfl (t3_kind hT3) rfl ?_
          refine am_top (v' := nI S.2.2.1) (c7) ?_
          refine am_run 1 (pc' := 22) (ls' := [some (.ref t), some (.int (nI c))]) (st' := [.int (nI 20), .int (nI S.2.2.1)]) (σ' := (μ, τ)) rfl ?_
          refine am_ic (ty := 25) (tn := 29) rfl (by decide) rfl rfl (fun (h_4 : nI S.2.2.1 < nI 20) => ?_) (fun (h_4 : ¬ (nI S.2.2.1 < nI 20)) => ?_)
          rotate_left
          · have h_4 : ¬ (S.2.2.1 < 20) := fun z => h_4 ((nI_ltI (by omega) (by omega)).mpr z)
            omega
          have h_4 : S.2.2.1 < 20 := (nI_ltI (by omega) (by omega)).mp h_4
          refine am_run 2 (pc' := 30) (ls' := [some (.ref t), some (.int (nI c))]) (st' := [.int (nI 1)]) (σ' := (μ, τ)) rfl ?_
          refine am_retz rfl rfl (by decide) ?_
          show am_G _ M_X6_begin _ 8 [some (.ref 44), some (.int (nI c)), some (.int (nI lc)), none] [.int (nI 1)] (μ, τ)
          refine am_if (ty := 11) (tn := 19) rfl (by decide) rfl rfl (fun (h_5 : nI 1 = 0) => ?_) (fun (h_5 : ¬ (nI 1 = 0)) => ?_)
          · exact absurd h_5 (by decide)
          refine am_run 2 (pc' := 22) (ls' := [some (.ref 44), some (.int (nI c)), some (.int (nI lc)), none]) (st' := [.int (nI 36), .int (nI c)]) (σ' := (μ, τ)) rfl ?_
          refine am_ic (ty := 25) (tn := 35) rfl (by decide) rfl rfl (fun (h_6 : nI c = nI 36) => ?_) (fun (h_6 : ¬ (nI c = nI 36)) => ?_)
          rotate_left
          · have h_6 : ¬ (c = 36) := fun z => h_6 ((nI_eq (by omega) (by omega)).mpr z)
            omega
          have h_6 : c = 36 := (nI_eq (by omega) (by omega)).mp h_6
          refine am_run 2 (pc' := 27) (ls' := [some (.ref 44), some (.int (nI c)), some (.int (nI lc)), none]) (st' := [.int (nI 3), .int (nI lc)]) (σ' := (μ, τ)) rfl ?_
          refine am_ic (ty := 35) (tn := 30) rfl (by decide) rfl rfl (fun (h_7 : nI lc < nI 3) => ?_) (fun (h_7 : ¬ (nI lc < nI 3)) => ?_)
          rotate_left
          · have h_7 : ¬ (lc < 3) := fun z => h_7 ((nI_ltI (by omega) (by omega)).mpr z)
            omega
          have h_7 : lc < 3 := (nI_ltI (by omega) (by omega)).mp h_7
          refine am_run 1 (pc' := 36) (ls' := [some (.ref 44), some (.int (nI c)), some (.int (nI lc)), none]) (st' := [.ref 44]) (σ' := (μ, τ)) rfl ?_
          refine am_invv (y := 83) (b := 44) (as := []) (rest := []) rfl rfl rfl rfl rfl rfl rfl (Nat.le_of_ble_eq_true rfl) ?_
          refine am_enter' rfl rfl rfl (by omega) (ls := [some (.ref 44)]) rfl (fun d_8 hd_8 => ?_)
          refine am_run 2 (pc' := 4) (ls' := [some (.ref 44)]) (st' := [.int ((μ, τ).1 44 3)]) (σ' := (μ, τ)) rfl ?_
          refine am_top (v' := nI 0) (c5) ?_
          refine am_if (ty := 7) (tn := 11) rfl (by decide) rfl rfl (fun (h_9 : nI 0 = 0) => ?_) (fun (h_9 : ¬ (nI 0 = 0)) => ?_)
          rotate_left
          · exact absurd (by decide) h_9
          refine am_run 2 (pc' := 12) (ls' := [some (.ref 44)]) (st' := [.int (nI 1)]) (σ' := (μ, τ)) rfl ?_
          refine am_retz rfl rfl (by decide) ?_
          show am_G _ M_X6_begin _ 39 [some (.ref 44), some (.int (nI c)), some (.int (nI lc)), none] [.int (nI 1)] (μ, τ)
          refine am_if (ty := 42) (tn := 44) rfl (by decide) rfl rfl (fun (h_10 : nI 1 = 0) => ?_) (fun (h_10 : ¬ (nI 1 = 0)) => ?_)
          · exact absurd h_10 (by decide)
          refine am_run 2 (pc' := 48) (ls' := [some (.ref 44), some (.int (nI c)), some (.int (nI lc)), none]) (st' := [.ref (τ 44 1)]) (σ' := (μ, τ)) rfl ?_
          refine am_stk (st' := [.ref t]) (by rw [ht]) ?_
          refine am_run 3 (pc' := 53) (ls' := [some (.ref 44), some (.int (nI c)), some (.int (nI lc)), none]) (st' := [.int ((μ, τ).1 44 2), .int (nI c), .ref t]) (σ' := (μ, τ)) rfl ?_
          refine am_top (v' := nI S.1) (c4) ?_
          refine am_invv (y := 109) (b := t) (as := [.int (nI c), .int (nI S.1)]) (rest := []) rfl rfl rfl rfl rfl rfl (t3_kind hT3) (Nat.le_of_ble_eq_true rfl) ?_
          refine am_enter' rfl rfl rfl (by omega) (ls := [some (.ref t), some (.int (nI c)), some (.int (nI S.1)), none]) rfl (fun d_11 hd_11 => ?_)
          refine am_run 2 (pc' := 2) (ls' := [some (.ref t), some (.int (nI c)), some (.int (nI S.1)), none]) (st' := [.int (nI c), .ref t]) (σ' := (μ, τ)) rfl ?_
          refine am_invv (y := 107) (b := t) (as := [.int (nI c)]) (rest := []) rfl rfl rfl rfl rfl rfl (t3_kind hT3) (Nat.le_of_ble_eq_true rfl) ?_
          refine am_enter' rfl rfl rfl (by omega) (ls := [some (.ref t), some (.int (nI c))]) rfl (fun d_12 hd_12 => ?_)
          refine am_run 1 (pc' := 1) (ls' := [some (.ref t), some (.int (nI c))]) (st' := [.ref t]) (σ' := (μ, τ)) rfl ?_
          refine am_getI (k := 8) rfl rfl (t3_kind hT3) rfl ?_
          refine am_top (v' := nI S.2.1) (c6) ?_
          refine am_run 1 (pc' := 6) (ls' := [some (.ref t), some (.int (nI c))]) (st' := [.int (nI 60), .int (nI S.2.1)]) (σ' := (μ, τ)) rfl ?_
          refine am_ic (ty := 9) (tn := 29) rfl (by decide) rfl rfl (fun (h_13 : nI S.2.1 < nI 60) => ?_) (fun (h_13 : ¬ (nI S.2.1 < nI 60)) => ?_)
          rotate_left
          · have h_13 : ¬ (S.2.1 < 60) := fun z => h_13 ((nI_ltI (by omega) (by omega)).mpr z)
            omega
          have h_13 : S.2.1 < 60 := (nI_ltI (by omega) (by omega)).mp h_13
          refine am_run 1 (pc' := 10) (ls' := [some (.ref t), some (.int (nI c))]) (st' := [.int (nI c)]) (σ' := (μ, τ)) rfl ?_
          refine am_invs (y := 108) (as := [.int (nI c)]) (rest := []) rfl rfl rfl rfl rfl rfl (Nat.le_of_ble_eq_true rfl) ?_
          refine c_isPP (by omega) hc (fun _ => ?_) (fun z => absurd (hp.symm.trans z) (by decide))
          show am_G _ M_X8_hasRoomFor _ 13 [some (.ref t), some (.int (nI c))] [.int (nI 1)] (μ, τ)
          refine am_if (ty := 25) (tn := 16) rfl (by decide) rfl rfl (fun (h_14 : nI 1 = 0) => ?_) (fun (h_14 : ¬ (nI 1 = 0)) => ?_)
          · exact absurd h_14 (by decide)
          refine am_run 1 (pc' := 17) (ls' := [some (.ref t), some (.int (nI c))]) (st' := [.ref t]) (σ' := (μ, τ)) rfl ?_
          refine am_getI (k := 9) rfl rfl (t3_kind hT3) rfl ?_
          refine am_top (v' := nI S.2.2.1) (c7) ?_
          refine am_run 1 (pc' := 22) (ls' := [some (.ref t), some (.int (nI c))]) (st' := [.int (nI 20), .int (nI S.2.2.1)]) (σ' := (μ, τ)) rfl ?_
          refine am_ic (ty := 25) (tn := 29) rfl (by decide) rfl rfl (fun (h_15 : nI S.2.2.1 < nI 20) => ?_) (fun (h_15 : ¬ (nI S.2.2.1 < nI 20)) => ?_)
          rotate_left
          · have h_15 : ¬ (S.2.2.1 < 20) := fun z => h_15 ((nI_ltI (by omega) (by omega)).mpr z)
            omega
          have h_15 : S.2.2.1 < 20 := (nI_ltI (by omega) (by omega)).mp h_15
          refine am_run 2 (pc' := 30) (ls' := [some (.ref t), some (.int (nI c))]) (st' := [.int (nI 1)]) (σ' := (μ, τ)) rfl ?_
          refine am_retz rfl rfl (by decide) ?_
          show am_G _ M_X8_add _ 5 [some (.ref t), some (.int (nI c)), some (.int (nI S.1)), none] [.int (nI 1)] (μ, τ)
          refine am_if (ty := 15) (tn := 8) rfl (by decide) rfl rfl (fun (h_16 : nI 1 = 0) => ?_) (fun (h_16 : ¬ (nI 1 = 0)) => ?_)
          · exact absurd h_16 (by decide)
          refine am_run 1 (pc' := 9) (ls' := [some (.ref t), some (.int (nI c)), some (.int (nI S.1)), none]) (st' := [.ref t]) (σ' := (μ, τ)) rfl ?_
          refine am_getI (k := 8) rfl rfl (t3_kind hT3) rfl ?_
          refine am_top (v' := nI S.2.1) (c6) ?_
          refine am_if (ty := 15) (tn := 17) rfl (by decide) rfl rfl (fun (h_17 : nI S.2.1 < 0) => ?_) (fun (h_17 : ¬ (nI S.2.1 < 0)) => ?_)
          · have h_17 : S.2.1 < 0 := (am_nlt0 (by omega)).mp h_17
            exact absurd h_17 (Nat.not_lt_zero _)
          have h_17 : ¬ (S.2.1 < 0) := fun z => h_17 ((am_nlt0 (by omega)).mpr z)
          refine am_run 1 (pc' := 18) (ls' := [some (.ref t), some (.int (nI c)), some (.int (nI S.1)), none]) (st' := [.ref t]) (σ' := (μ, τ)) rfl ?_
          refine am_getI (k := 8) rfl rfl (t3_kind hT3) rfl ?_
          refine am_top (v' := nI S.2.1) (c6) ?_
          refine am_run 2 (pc' := 23) (ls' := [some (.ref t), some (.int (nI c)), some (.int (nI S.1)), some (.int (nI S.2.1))]) (st' := [.ref t]) (σ' := (μ, τ)) rfl ?_
          refine am_getT hT3 (k := 0) (k1 := 1) rfl rfl rfl (by decide) rfl ?_
          refine am_run 2 (pc' := 28) (ls' := [some (.ref t), some (.int (nI c)), some (.int (nI S.1)), some (.int (nI S.2.1))]) (st' := [.int (nI c), .int (nI S.2.1), .ref (t + 1)]) (σ' := (μ, τ)) rfl ?_
          refine am_iastN (n := 60) rfl (t3_arr hT3 (by decide)).1 (t3_arr hT3 (by decide)).2 (by omega) (by decide) ?_
          refine am_run 1 (pc' := 30) (ls' := [some (.ref t), some (.int (nI c)), some (.int (nI S.1)), some (.int (nI S.2.1))]) (st' := [.ref t]) (σ' := (am_wr (μ, τ) (t + 1) S.2.1 (nI c))) rfl ?_
          refine am_getT hT3 (k := 1) (k1 := 2) rfl rfl rfl (by decide) rfl ?_
          refine am_run 2 (pc' := 35) (ls' := [some (.ref t), some (.int (nI c)), some (.int (nI S.1)), some (.int (nI S.2.1))]) (st' := [.int (-1), .int (nI S.2.1), .ref (t + 2)]) (σ' := (am_wr (μ, τ) (t + 1) S.2.1 (nI c))) rfl ?_
          refine am_iastN (n := 60) rfl (t3_arr hT3 (by decide)).1 (t3_arr hT3 (by decide)).2 (by omega) (by decide) ?_
          refine am_run 1 (pc' := 37) (ls' := [some (.ref t), some (.int (nI c)), some (.int (nI S.1)), some (.int (nI S.2.1))]) (st' := [.ref t]) (σ' := (am_wr (am_wr (μ, τ) (t + 1) S.2.1 (nI c)) (t + 2) S.2.1 (-1))) rfl ?_
          refine am_getT hT3 (k := 2) (k1 := 3) rfl rfl rfl (by decide) rfl ?_
          refine am_run 2 (pc' := 42) (ls' := [some (.ref t), some (.int (nI c)), some (.int (nI S.1)), some (.int (nI S.2.1))]) (st' := [.int (nI S.1), .int (nI S.2.1), .ref (t + 3)]) (σ' := (am_wr (am_wr (μ, τ) (t + 1) S.2.1 (nI c)) (t + 2) S.2.1 (-1))) rfl ?_
          refine am_iastN (n := 60) rfl (t3_arr hT3 (by decide)).1 (t3_arr hT3 (by decide)).2 (by omega) (by decide) ?_
          refine am_run 1 (pc' := 44) (ls' := [some (.ref t), some (.int (nI c)), some (.int (nI S.1)), some (.int (nI S.2.1))]) (st' := [.ref t]) (σ' := (am_wr (am_wr (am_wr (μ, τ) (t + 1) S.2.1 (nI c)) (t + 2) S.2.1 (-1)) (t + 3) S.2.1 (nI S.1))) rfl ?_
          refine am_getT hT3 (k := 3) (k1 := 4) rfl rfl rfl (by decide) rfl ?_
          refine am_run 2 (pc' := 49) (ls' := [some (.ref t), some (.int (nI c)), some (.int (nI S.1)), some (.int (nI S.2.1))]) (st' := [.int (-1), .int (nI S.2.1), .ref (t + 4)]) (σ' := (am_wr (am_wr (am_wr (μ, τ) (t + 1) S.2.1 (nI c)) (t + 2) S.2.1 (-1)) (t + 3) S.2.1 (nI S.1))) rfl ?_
          refine am_iastN (n := 60) rfl (t3_arr hT3 (by decide)).1 (t3_arr hT3 (by decide)).2 (by omega) (by decide) ?_
          refine am_run 1 (pc' := 51) (ls' := [some (.ref t), some (.int (nI c)), some (.int (nI S.1)), some (.int (nI S.2.1))]) (st' := [.ref t]) (σ' := (am_wr (am_wr (am_wr (am_wr (μ, τ) (t + 1) S.2.1 (nI c)) (t + 2) S.2.1 (-1)) (t + 3) S.2.1 (nI S.1)) (t + 4) S.2.1 (-1))) rfl ?_
          refine am_getT hT3 (k := 4) (k1 := 5) rfl rfl rfl (by decide) rfl ?_
          refine am_run 2 (pc' := 56) (ls' := [some (.ref t), some (.int (nI c)), some (.int (nI S.1)), some (.int (nI S.2.1))]) (st' := [.int (-1), .int (nI S.2.1), .ref (t + 5)]) (σ' := (am_wr (am_wr (am_wr (am_wr (μ, τ) (t + 1) S.2.1 (nI c)) (t + 2) S.2.1 (-1)) (t + 3) S.2.1 (nI S.1)) (t + 4) S.2.1 (-1))) rfl ?_
          refine am_iastN (n := 60) rfl (t3_arr hT3 (by decide)).1 (t3_arr hT3 (by decide)).2 (by omega) (by decide) ?_
          refine am_run 1 (pc' := 58) (ls' := [some (.ref t), some (.int (nI c)), some (.int (nI S.1)), some (.int (nI S.2.1))]) (st' := [.ref t]) (σ' := (am_wr (am_wr (am_wr (am_wr (am_wr (μ, τ) (t + 1) S.2.1 (nI c)) (t + 2) S.2.1 (-1)) (t + 3) S.2.1 (nI S.1)) (t + 4) S.2.1 (-1)) (t + 5) S.2.1 (-1))) rfl ?_
          refine am_getT hT3 (k := 5) (k1 := 6) rfl rfl rfl (by decide) rfl ?_
          refine am_run 2 (pc' := 63) (ls' := [some (.ref t), some (.int (nI c)), some (.int (nI S.1)), some (.int (nI S.2.1))]) (st' := [.int (nI S.2.1), .int (nI S.2.1), .ref (t + 6)]) (σ' := (am_wr (am_wr (am_wr (am_wr (am_wr (μ, τ) (t + 1) S.2.1 (nI c)) (t + 2) S.2.1 (-1)) (t + 3) S.2.1 (nI S.1)) (t + 4) S.2.1 (-1)) (t + 5) S.2.1 (-1))) rfl ?_
          refine am_iastN (n := 60) rfl (t3_arr hT3 (by decide)).1 (t3_arr hT3 (by decide)).2 (by omega) (by decide) ?_
          refine am_run 1 (pc' := 65) (ls' := [some (.ref t), some (.int (nI c)), some (.int (nI S.1)), some (.int (nI S.2.1))]) (st' := [.ref t]) (σ' := (am_wr (am_wr (am_wr (am_wr (am_wr (am_wr (μ, τ) (t + 1) S.2.1 (nI c)) (t + 2) S.2.1 (-1)) (t + 3) S.2.1 (nI S.1)) (t + 4) S.2.1 (-1)) (t + 5) S.2.1 (-1)) (t + 6) S.2.1 (nI S.2.1))) rfl ?_
          refine am_getT hT3 (k := 6) (k1 := 7) rfl rfl rfl (by decide) rfl ?_
          refine am_run 2 (pc' := 70) (ls' := [some (.ref t), some (.int (nI c)), some (.int (nI S.1)), some (.int (nI S.2.1))]) (st' := [.int (nI S.2.1), .int (nI S.2.1), .ref (t + 7)]) (σ' := (am_wr (am_wr (am_wr (am_wr (am_wr (am_wr (μ, τ) (t + 1) S.2.1 (nI c)) (t + 2) S.2.1 (-1)) (t + 3) S.2.1 (nI S.1)) (t + 4) S.2.1 (-1)) (t + 5) S.2.1 (-1)) (t + 6) S.2.1 (nI S.2.1))) rfl ?_
          refine am_iastN (n := 60) rfl (t3_arr hT3 (by decide)).1 (t3_arr hT3 (by decide)).2 (by omega) (by decide) ?_
          refine am_run 1 (pc' := 72) (ls' := [some (.ref t), some (.int (nI c)), some (.int (nI S.1)), some (.int (nI S.2.1))]) (st' := [.ref t]) (σ' := (am_wr (am_wr (am_wr (am_wr (am_wr (am_wr (am_wr (μ, τ) (t + 1) S.2.1 (nI c)) (t + 2) S.2.1 (-1)) (t + 3) S.2.1 (nI S.1)) (t + 4) S.2.1 (-1)) (t + 5) S.2.1 (-1)) (t + 6) S.2.1 (nI S.2.1)) (t + 7) S.2.1 (nI S.2.1))) rfl ?_
          refine am_getT hT3 (k := 7) (k1 := 8) rfl rfl rfl (by decide) rfl ?_
          refine am_run 2 (pc' := 77) (ls' := [some (.ref t), some (.int (nI c)), some (.int (nI S.1)), some (.int (nI S.2.1))]) (st' := [.int (nI 0), .int (nI S.2.1), .ref (t + 8)]) (σ' := (am_wr (am_wr (am_wr (am_wr (am_wr (am_wr (am_wr (μ, τ) (t + 1) S.2.1 (nI c)) (t + 2) S.2.1 (-1)) (t + 3) S.2.1 (nI S.1)) (t + 4) S.2.1 (-1)) (t + 5) S.2.1 (-1)) (t + 6) S.2.1 (nI S.2.1)) (t + 7) S.2.1 (nI S.2.1))) rfl ?_
          refine am_iastN (n := 60) rfl (t3_arr hT3 (by decide)).1 (t3_arr hT3 (by decide)).2 (by omega) (by decide) ?_
          refine am_run 1 (pc' := 79) (ls' := [some (.ref t), some (.int (nI c)), some (.int (nI S.1)), some (.int (nI S.2.1))]) (st' := [.int (nI c)]) (σ' := (am_wr (am_wr (am_wr (am_wr (am_wr (am_wr (am_wr (am_wr (μ, τ) (t + 1) S.2.1 (nI c)) (t + 2) S.2.1 (-1)) (t + 3) S.2.1 (nI S.1)) (t + 4) S.2.1 (-1)) (t + 5) S.2.1 (-1)) (t + 6) S.2.1 (nI S.2.1)) (t + 7) S.2.1 (nI S.2.1)) (t + 8) S.2.1 (nI 0))) rfl ?_
          refine am_invs (y := 108) (as := [.int (nI c)]) (rest := []) rfl rfl rfl rfl rfl rfl (Nat.le_of_ble_eq_true rfl) ?_
          refine c_isPP (by omega) hc (fun _ => ?_) (fun z => absurd (hp.symm.trans z) (by decide))
          show am_G _ M_X8_add _ 82 [some (.ref t), some (.int (nI c)), some (.int (nI S.1)), some (.int (nI S.2.1))] [.int (nI 1)] (am_wr (am_wr (am_wr (am_wr (am_wr (am_wr (am_wr (am_wr (μ, τ) (t + 1) S.2.1 (nI c)) (t + 2) S.2.1 (-1)) (t + 3) S.2.1 (nI S.1)) (t + 4) S.2.1 (-1)) (t + 5) S.2.1 (-1)) (t + 6) S.2.1 (nI S.2.1)) (t + 7) S.2.1 (nI S.2.1)) (t + 8) S.2.1 (nI 0))
          refine am_if (ty := 107) (tn := 85) rfl (by decide) rfl rfl (fun (h_18 : nI 1 = 0) => ?_) (fun (h_18 : ¬ (nI 1 = 0)) => ?_)
          · exact absurd h_18 (by decide)
          refine am_run 1 (pc' := 86) (ls' := [some (.ref t), some (.int (nI c)), some (.int (nI S.1)), some (.int (nI S.2.1))]) (st' := [.ref t]) (σ' := (am_wr (am_wr (am_wr (am_wr (am_wr (am_wr (am_wr (am_wr (μ, τ) (t + 1) S.2.1 (nI c)) (t + 2) S.2.1 (-1)) (t + 3) S.2.1 (nI S.1)) (t + 4) S.2.1 (-1)) (t + 5) S.2.1 (-1)) (t + 6) S.2.1 (nI S.2.1)) (t + 7) S.2.1 (nI S.2.1)) (t + 8) S.2.1 (nI 0))) rfl ?_
          refine am_getT hT3 (k := 7) (k1 := 8) rfl rfl rfl (by decide) rfl ?_
          refine am_run 3 (pc' := 92) (ls' := [some (.ref t), some (.int (nI c)), some (.int (nI S.1)), some (.int (nI S.2.1))]) (st' := [.ref t, .int (nI 1), .int (nI S.2.1), .ref (t + 8)]) (σ' := (am_wr (am_wr (am_wr (am_wr (am_wr (am_wr (am_wr (am_wr (μ, τ) (t + 1) S.2.1 (nI c)) (t + 2) S.2.1 (-1)) (t + 3) S.2.1 (nI S.1)) (t + 4) S.2.1 (-1)) (t + 5) S.2.1 (-1)) (t + 6) S.2.1 (nI S.2.1)) (t + 7) S.2.1 (nI S.2.1)) (t + 8) S.2.1 (nI 0))) rfl ?_
          refine am_getI (k := 9) rfl rfl (t3_kind hT3) rfl ?_
          refine am_top (v' := nI S.2.2.1) (by rw [am_wr_ne _ (by omega), am_wr_ne _ (by omega), am_wr_ne _ (by omega), am_wr_ne _ (by omega), am_wr_ne _ (by omega), am_wr_ne _ (by omega), am_wr_ne _ (by omega), am_wr_ne _ (by omega)]; exact c7) ?_
          refine am_run 1 (pc' := 96) (ls' := [some (.ref t), some (.int (nI c)), some (.int (nI S.1)), some (.int (nI S.2.1))]) (st' := [.int ((nI 1) <<< ((nI S.2.2.1) &&& 31)), .int (nI S.2.1), .ref (t + 8)]) (σ' := (am_wr (am_wr (am_wr (am_wr (am_wr (am_wr (am_wr (am_wr (μ, τ) (t + 1) S.2.1 (nI c)) (t + 2) S.2.1 (-1)) (t + 3) S.2.1 (nI S.1)) (t + 4) S.2.1 (-1)) (t + 5) S.2.1 (-1)) (t + 6) S.2.1 (nI S.2.1)) (t + 7) S.2.1 (nI S.2.1)) (t + 8) S.2.1 (nI 0))) rfl ?_
          refine am_top (v' := nI (2 ^ S.2.2.1)) (by rw [nx_shl _ (by omega), Nat.one_mul]) ?_
          refine am_iastN (n := 60) rfl (t3_arr hT3 (by decide)).1 (t3_arr hT3 (by decide)).2 (by omega) (by decide) ?_
          refine am_run 2 (pc' := 99) (ls' := [some (.ref t), some (.int (nI c)), some (.int (nI S.1)), some (.int (nI S.2.1))]) (st' := [.ref t, .ref t]) (σ' := (am_wr (am_wr (am_wr (am_wr (am_wr (am_wr (am_wr (am_wr (am_wr (μ, τ) (t + 1) S.2.1 (nI c)) (t + 2) S.2.1 (-1)) (t + 3) S.2.1 (nI S.1)) (t + 4) S.2.1 (-1)) (t + 5) S.2.1 (-1)) (t + 6) S.2.1 (nI S.2.1)) (t + 7) S.2.1 (nI S.2.1)) (t + 8) S.2.1 (nI 0)) (t + 8) S.2.1 (nI (2 ^ S.2.2.1)))) rfl ?_
          refine am_getI (k := 9) rfl rfl (t3_kind hT3) rfl ?_
          refine am_top (v' := nI S.2.2.1) (by rw [am_wr_ne _ (by omega), am_wr_ne _ (by omega), am_wr_ne _ (by omega), am_wr_ne _ (by omega), am_wr_ne _ (by omega), am_wr_ne _ (by omega), am_wr_ne _ (by omega), am_wr_ne _ (by omega), am_wr_ne _ (by omega)]; exact c7) ?_
          refine am_run 2 (pc' := 104) (ls' := [some (.ref t), some (.int (nI c)), some (.int (nI S.1)), some (.int (nI S.2.1))]) (st' := [.int (nI S.2.2.1 + nI 1), .ref t]) (σ' := (am_wr (am_wr (am_wr (am_wr (am_wr (am_wr (am_wr (am_wr (am_wr (μ, τ) (t + 1) S.2.1 (nI c)) (t + 2) S.2.1 (-1)) (t + 3) S.2.1 (nI S.1)) (t + 4) S.2.1 (-1)) (t + 5) S.2.1 (-1)) (t + 6) S.2.1 (nI S.2.1)) (t + 7) S.2.1 (nI S.2.1)) (t + 8) S.2.1 (nI 0)) (t + 8) S.2.1 (nI (2 ^ S.2.2.1)))) rfl ?_
          refine am_top (v' := nI (S.2.2.1 + 1)) (nI_add _ _) ?_
          refine am_putI (k := 9) rfl rfl (t3_kind hT3) rfl ?_
          refine am_run 2 (pc' := 109) (ls' := [some (.ref t), some (.int (nI c)), some (.int (nI S.1)), some (.int (nI S.2.1))]) (st' := [.ref t, .ref t]) (σ' := (am_wr (am_wr (am_wr (am_wr (am_wr (am_wr (am_wr (am_wr (am_wr (am_wr (μ, τ) (t + 1) S.2.1 (nI c)) (t + 2) S.2.1 (-1)) (t + 3) S.2.1 (nI S.1)) (t + 4) S.2.1 (-1)) (t + 5) S.2.1 (-1)) (t + 6) S.2.1 (nI S.2.1)) (t + 7) S.2.1 (nI S.2.1)) (t + 8) S.2.1 (nI 0)) (t + 8) S.2.1 (nI (2 ^ S.2.2.1))) t 9 (nI (S.2.2.1 + 1)))) rfl ?_
          refine am_getI (k := 8) rfl rfl (t3_kind hT3) rfl ?_
          refine am_top (v' := nI S.2.1) (by rw [am_diff _ _ _ _ _ (by decide), am_wr_ne _ (by omega), am_wr_ne _ (by omega), am_wr_ne _ (by omega), am_wr_ne _ (by omega), am_wr_ne _ (by omega), am_wr_ne _ (by omega), am_wr_ne _ (by omega), am_wr_ne _ (by omega), am_wr_ne _ (by omega)]; exact c6) ?_
          refine am_run 2 (pc' := 114) (ls' := [some (.ref t), some (.int (nI c)), some (.int (nI S.1)), some (.int (nI S.2.1))]) (st' := [.int (nI S.2.1 + nI 1), .ref t]) (σ' := (am_wr (am_wr (am_wr (am_wr (am_wr (am_wr (am_wr (am_wr (am_wr (am_wr (μ, τ) (t + 1) S.2.1 (nI c)) (t + 2) S.2.1 (-1)) (t + 3) S.2.1 (nI S.1)) (t + 4) S.2.1 (-1)) (t + 5) S.2.1 (-1)) (t + 6) S.2.1 (nI S.2.1)) (t + 7) S.2.1 (nI S.2.1)) (t + 8) S.2.1 (nI 0)) (t + 8) S.2.1 (nI (2 ^ S.2.2.1))) t 9 (nI (S.2.2.1 + 1)))) rfl ?_
          refine am_top (v' := nI (S.2.1 + 1)) (nI_add _ _) ?_
          refine am_putI (k := 8) rfl rfl (t3_kind hT3) rfl ?_
          refine am_run 1 (pc' := 118) (ls' := [some (.ref t), some (.int (nI c)), some (.int (nI S.1)), some (.int (nI S.2.1))]) (st' := [.int (nI S.2.1)]) (σ' := (am_wr (am_wr (am_wr (am_wr (am_wr (am_wr (am_wr (am_wr (am_wr (am_wr (am_wr (μ, τ) (t + 1) S.2.1 (nI c)) (t + 2) S.2.1 (-1)) (t + 3) S.2.1 (nI S.1)) (t + 4) S.2.1 (-1)) (t + 5) S.2.1 (-1)) (t + 6) S.2.1 (nI S.2.1)) (t + 7) S.2.1 (nI S.2.1)) (t + 8) S.2.1 (nI 0)) (t + 8) S.2.1 (nI (2 ^ S.2.2.1))) t 9 (nI (S.2.2.1 + 1))) t 8 (nI (S.2.1 + 1)))) rfl ?_
          refine am_reti rfl rfl ?_
          show am_G _ M_X6_begin _ 56 [some (.ref 44), some (.int (nI c)), some (.int (nI lc)), none] [.int (nI S.2.1)] (am_wr (am_wr (am_wr (am_wr (am_wr (am_wr (am_wr (am_wr (am_wr (am_wr (am_wr (μ, τ) (t + 1) S.2.1 (nI c)) (t + 2) S.2.1 (-1)) (t + 3) S.2.1 (nI S.1)) (t + 4) S.2.1 (-1)) (t + 5) S.2.1 (-1)) (t + 6) S.2.1 (nI S.2.1)) (t + 7) S.2.1 (nI S.2.1)) (t + 8) S.2.1 (nI 0)) (t + 8) S.2.1 (nI (2 ^ S.2.2.1))) t 9 (nI (S.2.2.1 + 1))) t 8 (nI (S.2.1 + 1)))
          refine am_run 4 (pc' := 62) (ls' := [some (.ref 44), some (.int (nI c)), some (.int (nI lc)), some (.int (nI S.2.1))]) (st' := [.int ((am_wr (am_wr (am_wr (am_wr (am_wr (am_wr (am_wr (am_wr (am_wr (am_wr (am_wr (μ, τ) (t + 1) S.2.1 (nI c)) (t + 2) S.2.1 (-1)) (t + 3) S.2.1 (nI S.1)) (t + 4) S.2.1 (-1)) (t + 5) S.2.1 (-1)) (t + 6) S.2.1 (nI S.2.1)) (t + 7) S.2.1 (nI S.2.1)) (t + 8) S.2.1 (nI 0)) (t + 8) S.2.1 (nI (2 ^ S.2.2.1))) t 9 (nI (S.2.2.1 + 1))) t 8 (nI (S.2.1 + 1))).1 44 2), .ref 44]) (σ' := (am_wr (am_wr (am_wr (am_wr (am_wr (am_wr (am_wr (am_wr (am_wr (am_wr (am_wr (μ, τ) (t + 1) S.2.1 (nI c)) (t + 2) S.2.1 (-1)) (t + 3) S.2.1 (nI S.1)) (t + 4) S.2.1 (-1)) (t + 5) S.2.1 (-1)) (t + 6) S.2.1 (nI S.2.1)) (t + 7) S.2.1 (nI S.2.1)) (t + 8) S.2.1 (nI 0)) (t + 8) S.2.1 (nI (2 ^ S.2.2.1))) t 9 (nI (S.2.2.1 + 1))) t 8 (nI (S.2.1 + 1)))) rfl ?_
          refine am_top (v' := nI S.1) (by rw [am_wr_ne _ (by omega), am_wr_ne _ (by omega), am_wr_ne _ (by omega), am_wr_ne _ (by omega), am_wr_ne _ (by omega), am_wr_ne _ (by omega), am_wr_ne _ (by omega), am_wr_ne _ (by omega), am_wr_ne _ (by omega), am_wr_ne _ (by omega), am_wr_ne _ (by omega)]; exact c4) ?_
          refine am_run 2 (pc' := 64) (ls' := [some (.ref 44), some (.int (nI c)), some (.int (nI lc)), some (.int (nI S.2.1))]) (st' := [.int (nI S.1 + nI 1), .ref 44]) (σ' := (am_wr (am_wr (am_wr (am_wr (am_wr (am_wr (am_wr (am_wr (am_wr (am_wr (am_wr (μ, τ) (t + 1) S.2.1 (nI c)) (t + 2) S.2.1 (-1)) (t + 3) S.2.1 (nI S.1)) (t + 4) S.2.1 (-1)) (t + 5) S.2.1 (-1)) (t + 6) S.2.1 (nI S.2.1)) (t + 7) S.2.1 (nI S.2.1)) (t + 8) S.2.1 (nI 0)) (t + 8) S.2.1 (nI (2 ^ S.2.2.1))) t 9 (nI (S.2.2.1 + 1))) t 8 (nI (S.2.1 + 1)))) rfl ?_
          refine am_top (v' := nI (S.1 + 1)) (nI_add _ _) ?_
          refine am_run 2 (pc' := 68) (ls' := [some (.ref 44), some (.int (nI c)), some (.int (nI lc)), some (.int (nI S.2.1))]) (st' := [.int (nI S.2.1)]) (σ' := (am_wr (am_wr (am_wr (am_wr (am_wr (am_wr (am_wr (am_wr (am_wr (am_wr (am_wr (am_wr (μ, τ) (t + 1) S.2.1 (nI c)) (t + 2) S.2.1 (-1)) (t + 3) S.2.1 (nI S.1)) (t + 4) S.2.1 (-1)) (t + 5) S.2.1 (-1)) (t + 6) S.2.1 (nI S.2.1)) (t + 7) S.2.1 (nI S.2.1)) (t + 8) S.2.1 (nI 0)) (t + 8) S.2.1 (nI (2 ^ S.2.2.1))) t 9 (nI (S.2.2.1 + 1))) t 8 (nI (S.2.1 + 1))) 44 2 (nI (S.1 + 1)))) rfl ?_
          refine am_reti rfl rfl ?_
          have hK : KC μ (am_wr (am_wr (am_wr (am_wr (am_wr (am_wr (am_wr (am_wr (am_wr (am_wr (am_wr (am_wr (μ, τ) (t + 1) S.2.1 (nI c)) (t + 2) S.2.1 (-1)) (t + 3) S.2.1 (nI S.1)) (t + 4) S.2.1 (-1)) (t + 5) S.2.1 (-1)) (t + 6) S.2.1 (nI S.2.1)) (t + 7) S.2.1 (nI S.2.1)) (t + 8) S.2.1 (nI 0)) (t + 8) S.2.1 (nI (2 ^ S.2.2.1))) t 9 (nI (S.2.2.1 + 1))) t 8 (nI (S.2.1 + 1))) 44 2 (nI (S.1 + 1))).1 t := (((((((((((((KC.rf μ t).wt (by omega) _ _).wt (by omega) _ _).wt (by omega) _ _).wt (by omega) _ _).wt (by omega) _ _).wt (by omega) _ _).wt (by omega) _ _).wt (by omega) _ _).wt (by omega) _ _).wt (by omega) _ _).wt (by omega) _ _).w44 _ _)
          have f2 : (am_wr (am_wr (am_wr (am_wr (am_wr (am_wr (am_wr (am_wr (am_wr (am_wr (am_wr (am_wr (μ, τ) (t + 1) S.2.1 (nI c)) (t + 2) S.2.1 (-1)) (t + 3) S.2.1 (nI S.1)) (t + 4) S.2.1 (-1)) (t + 5) S.2.1 (-1)) (t + 6) S.2.1 (nI S.2.1)) (t + 7) S.2.1 (nI S.2.1)) (t + 8) S.2.1 (nI 0)) (t + 8) S.2.1 (nI (2 ^ S.2.2.1))) t 9 (nI (S.2.2.1 + 1))) t 8 (nI (S.2.1 + 1))) 44 2 (nI (S.1 + 1))).1 44 2 = nI (S.1 + 1) := by rw [am_same]
          have f8 : (am_wr (am_wr (am_wr (am_wr (am_wr (am_wr (am_wr (am_wr (am_wr (am_wr (am_wr (am_wr (μ, τ) (t + 1) S.2.1 (nI c)) (t + 2) S.2.1 (-1)) (t + 3) S.2.1 (nI S.1)) (t + 4) S.2.1 (-1)) (t + 5) S.2.1 (-1)) (t + 6) S.2.1 (nI S.2.1)) (t + 7) S.2.1 (nI S.2.1)) (t + 8) S.2.1 (nI 0)) (t + 8) S.2.1 (nI (2 ^ S.2.2.1))) t 9 (nI (S.2.2.1 + 1))) t 8 (nI (S.2.1 + 1))) 44 2 (nI (S.1 + 1))).1 t 8 = nI (S.2.1 + 1) := by rw [am_wr_ne _ (by omega), am_same]
          refine hS (am_wr (am_wr (am_wr (am_wr (am_wr (am_wr (am_wr (am_wr (am_wr (am_wr (am_wr (am_wr (μ, τ) (t + 1) S.2.1 (nI c)) (t + 2) S.2.1 (-1)) (t + 3) S.2.1 (nI S.1)) (t + 4) S.2.1 (-1)) (t + 5) S.2.1 (-1)) (t + 6) S.2.1 (nI S.2.1)) (t + 7) S.2.1 (nI S.2.1)) (t + 8) S.2.1 (nI 0)) (t + 8) S.2.1 (nI (2 ^ S.2.2.1))) t 9 (nI (S.2.2.1 + 1))) t 8 (nI (S.2.1 + 1))) 44 2 (nI (S.1 + 1))).1 (by unfold p_beg; rw [if_neg hr, if_neg h36]) hK (hK.xc hT3 hX) ⟨by show S.1 + 1 ≤ L; omega, by show S.2.1 + 1 ≤ 60; omega, by show S.2.2.1 + (if isP c = true then 1 else 0) ≤ 20; rw [if_pos hp]; omega, f2, by rw [am_diff _ _ _ _ _ (by decide), am_wr_ne _ (by omega), am_wr_ne _ (by omega), am_wr_ne _ (by omega), am_wr_ne _ (by omega), am_wr_ne _ (by omega), am_wr_ne _ (by omega), am_wr_ne _ (by omega), am_wr_ne _ (by omega), am_wr_ne _ (by omega), am_wr_ne _ (by omega), am_wr_ne _ (by omega)]; exact c5, f8, ?_, fun i hi => ?_⟩
          · show (am_wr (am_wr (am_wr (am_wr (am_wr (am_wr (am_wr (am_wr (am_wr (am_wr (am_wr (am_wr (μ, τ) (t + 1) S.2.1 (nI c)) (t + 2) S.2.1 (-1)) (t + 3) S.2.1 (nI S.1)) (t + 4) S.2.1 (-1)) (t + 5) S.2.1 (-1)) (t + 6) S.2.1 (nI S.2.1)) (t + 7) S.2.1 (nI S.2.1)) (t + 8) S.2.1 (nI 0)) (t + 8) S.2.1 (nI (2 ^ S.2.2.1))) t 9 (nI (S.2.2.1 + 1))) t 8 (nI (S.2.1 + 1))) 44 2 (nI (S.1 + 1))).1 t 9 = nI (S.2.2.1 + (if isP c = true then 1 else 0))
            rw [if_pos hp]
            rw [am_wr_ne _ (by omega), am_diff _ _ _ _ _ (by decide), am_same]
          · have hi : i < S.2.1 + 1 := hi
            by_cases e : i = S.2.1
            · subst e
              have r1 : (am_wr (am_wr (am_wr (am_wr (am_wr (am_wr (am_wr (am_wr (am_wr (am_wr (am_wr (am_wr (μ, τ) (t + 1) S.2.1 (nI c)) (t + 2) S.2.1 (-1)) (t + 3) S.2.1 (nI S.1)) (t + 4) S.2.1 (-1)) (t + 5) S.2.1 (-1)) (t + 6) S.2.1 (nI S.2.1)) (t + 7) S.2.1 (nI S.2.1)) (t + 8) S.2.1 (nI 0)) (t + 8) S.2.1 (nI (2 ^ S.2.2.1))) t 9 (nI (S.2.2.1 + 1))) t 8 (nI (S.2.1 + 1))) 44 2 (nI (S.1 + 1))).1 (t + 1) S.2.1 = nI c := by rw [am_wr_ne _ (by omega), am_wr_ne _ (by omega), am_wr_ne _ (by omega), am_wr_ne _ (by omega), am_wr_ne _ (by omega), am_wr_ne _ (by omega), am_wr_ne _ (by omega), am_wr_ne _ (by omega), am_wr_ne _ (by omega), am_wr_ne _ (by omega), am_wr_ne _ (by omega), am_same]
              have r2 : (am_wr (am_wr (am_wr (am_wr (am_wr (am_wr (am_wr (am_wr (am_wr (am_wr (am_wr (am_wr (μ, τ) (t + 1) S.2.1 (nI c)) (t + 2) S.2.1 (-1)) (t + 3) S.2.1 (nI S.1)) (t + 4) S.2.1 (-1)) (t + 5) S.2.1 (-1)) (t + 6) S.2.1 (nI S.2.1)) (t + 7) S.2.1 (nI S.2.1)) (t + 8) S.2.1 (nI 0)) (t + 8) S.2.1 (nI (2 ^ S.2.2.1))) t 9 (nI (S.2.2.1 + 1))) t 8 (nI (S.2.1 + 1))) 44 2 (nI (S.1 + 1))).1 (t + 2) S.2.1 = -1 := by rw [am_wr_ne _ (by omega), am_wr_ne _ (by omega), am_wr_ne _ (by omega), am_wr_ne _ (by omega), am_wr_ne _ (by omega), am_wr_ne _ (by omega), am_wr_ne _ (by omega), am_wr_ne _ (by omega), am_wr_ne _ (by omega), am_wr_ne _ (by omega), am_same]
              have r3 : (am_wr (am_wr (am_wr (am_wr (am_wr (am_wr (am_wr (am_wr (am_wr (am_wr (am_wr (am_wr (μ, τ) (t + 1) S.2.1 (nI c)) (t + 2) S.2.1 (-1)) (t + 3) S.2.1 (nI S.1)) (t + 4) S.2.1 (-1)) (t + 5) S.2.1 (-1)) (t + 6) S.2.1 (nI S.2.1)) (t + 7) S.2.1 (nI S.2.1)) (t + 8) S.2.1 (nI 0)) (t + 8) S.2.1 (nI (2 ^ S.2.2.1))) t 9 (nI (S.2.2.1 + 1))) t 8 (nI (S.2.1 + 1))) 44 2 (nI (S.1 + 1))).1 (t + 3) S.2.1 = nI S.1 := by rw [am_wr_ne _ (by omega), am_wr_ne _ (by omega), am_wr_ne _ (by omega), am_wr_ne _ (by omega), am_wr_ne _ (by omega), am_wr_ne _ (by omega), am_wr_ne _ (by omega), am_wr_ne _ (by omega), am_wr_ne _ (by omega), am_same]
              have r4 : (am_wr (am_wr (am_wr (am_wr (am_wr (am_wr (am_wr (am_wr (am_wr (am_wr (am_wr (am_wr (μ, τ) (t + 1) S.2.1 (nI c)) (t + 2) S.2.1 (-1)) (t + 3) S.2.1 (nI S.1)) (t + 4) S.2.1 (-1)) (t + 5) S.2.1 (-1)) (t + 6) S.2.1 (nI S.2.1)) (t + 7) S.2.1 (nI S.2.1)) (t + 8) S.2.1 (nI 0)) (t + 8) S.2.1 (nI (2 ^ S.2.2.1))) t 9 (nI (S.2.2.1 + 1))) t 8 (nI (S.2.1 + 1))) 44 2 (nI (S.1 + 1))).1 (t + 4) S.2.1 = -1 := by rw [am_wr_ne _ (by omega), am_wr_ne _ (by omega), am_wr_ne _ (by omega), am_wr_ne _ (by omega), am_wr_ne _ (by omega), am_wr_ne _ (by omega), am_wr_ne _ (by omega), am_wr_ne _ (by omega), am_same]
              have r5 : (am_wr (am_wr (am_wr (am_wr (am_wr (am_wr (am_wr (am_wr (am_wr (am_wr (am_wr (am_wr (μ, τ) (t + 1) S.2.1 (nI c)) (t + 2) S.2.1 (-1)) (t + 3) S.2.1 (nI S.1)) (t + 4) S.2.1 (-1)) (t + 5) S.2.1 (-1)) (t + 6) S.2.1 (nI S.2.1)) (t + 7) S.2.1 (nI S.2.1)) (t + 8) S.2.1 (nI 0)) (t + 8) S.2.1 (nI (2 ^ S.2.2.1))) t 9 (nI (S.2.2.1 + 1))) t 8 (nI (S.2.1 + 1))) 44 2 (nI (S.1 + 1))).1 (t + 5) S.2.1 = -1 := by rw [am_wr_ne _ (by omega), am_wr_ne _ (by omega), am_wr_ne _ (by omega), am_wr_ne _ (by omega), am_wr_ne _ (by omega), am_wr_ne _ (by omega), am_wr_ne _ (by omega), am_same]
              have r6 : (am_wr (am_wr (am_wr (am_wr (am_wr (am_wr (am_wr (am_wr (am_wr (am_wr (am_wr (am_wr (μ, τ) (t + 1) S.2.1 (nI c)) (t + 2) S.2.1 (-1)) (t + 3) S.2.1 (nI S.1)) (t + 4) S.2.1 (-1)) (t + 5) S.2.1 (-1)) (t + 6) S.2.1 (nI S.2.1)) (t + 7) S.2.1 (nI S.2.1)) (t + 8) S.2.1 (nI 0)) (t + 8) S.2.1 (nI (2 ^ S.2.2.1))) t 9 (nI (S.2.2.1 + 1))) t 8 (nI (S.2.1 + 1))) 44 2 (nI (S.1 + 1))).1 (t + 6) S.2.1 = nI S.2.1 := by rw [am_wr_ne _ (by omega), am_wr_ne _ (by omega), am_wr_ne _ (by omega), am_wr_ne _ (by omega), am_wr_ne _ (by omega), am_wr_ne _ (by omega), am_same]
              have r7 : (am_wr (am_wr (am_wr (am_wr (am_wr (am_wr (am_wr (am_wr (am_wr (am_wr (am_wr (am_wr (μ, τ) (t + 1) S.2.1 (nI c)) (t + 2) S.2.1 (-1)) (t + 3) S.2.1 (nI S.1)) (t + 4) S.2.1 (-1)) (t + 5) S.2.1 (-1)) (t + 6) S.2.1 (nI S.2.1)) (t + 7) S.2.1 (nI S.2.1)) (t + 8) S.2.1 (nI 0)) (t + 8) S.2.1 (nI (2 ^ S.2.2.1))) t 9 (nI (S.2.2.1 + 1))) t 8 (nI (S.2.1 + 1))) 44 2 (nI (S.1 + 1))).1 (t + 7) S.2.1 = nI S.2.1 := by rw [am_wr_ne _ (by omega), am_wr_ne _ (by omega), am_wr_ne _ (by omega), am_wr_ne _ (by omega), am_wr_ne _ (by omega), am_same]
              have r8 : (am_wr (am_wr (am_wr (am_wr (am_wr (am_wr (am_wr (am_wr (am_wr (am_wr (am_wr (am_wr (μ, τ) (t + 1) S.2.1 (nI c)) (t + 2) S.2.1 (-1)) (t + 3) S.2.1 (nI S.1)) (t + 4) S.2.1 (-1)) (t + 5) S.2.1 (-1)) (t + 6) S.2.1 (nI S.2.1)) (t + 7) S.2.1 (nI S.2.1)) (t + 8) S.2.1 (nI 0)) (t + 8) S.2.1 (nI (2 ^ S.2.2.1))) t 9 (nI (S.2.2.1 + 1))) t 8 (nI (S.2.1 + 1))) 44 2 (nI (S.1 + 1))).1 (t + 8) S.2.1 = nI (2 ^ S.2.2.1) := by rw [am_wr_ne _ (by omega), am_wr_ne _ (by omega), am_wr_ne _ (by omega), am_same]
              exact RW.new (by omega) (fun z => by omega) r1 r2 r3 r4 r5 r6 r7 (by rw [r8, if_pos hp])
            · refine (c8 i (by omega)).old (fun a => if_neg e) (fun j hj => ?_)
              rcases (show j = 1 ∨ j = 2 ∨ j = 3 ∨ j = 4 ∨ j = 5 ∨ j = 6 ∨ j = 7 ∨ j = 8 by omega) with rfl | rfl | rfl | rfl | rfl | rfl | rfl | rfl
              · show (am_wr (am_wr (am_wr (am_wr (am_wr (am_wr (am_wr (am_wr (am_wr (am_wr (am_wr (am_wr (μ, τ) (t + 1) S.2.1 (nI c)) (t + 2) S.2.1 (-1)) (t + 3) S.2.1 (nI S.1)) (t + 4) S.2.1 (-1)) (t + 5) S.2.1 (-1)) (t + 6) S.2.1 (nI S.2.1)) (t + 7) S.2.1 (nI S.2.1)) (t + 8) S.2.1 (nI 0)) (t + 8) S.2.1 (nI (2 ^ S.2.2.1))) t 9 (nI (S.2.2.1 + 1))) t 8 (nI (S.2.1 + 1))) 44 2 (nI (S.1 + 1))).1 (t + 1) i = μ (t + 1) i
                rw [am_wr_ne _ (by omega), am_wr_ne _ (by omega), am_wr_ne _ (by omega), am_wr_ne _ (by omega), am_wr_ne _ (by omega), am_wr_ne _ (by omega), am_wr_ne _ (by omega), am_wr_ne _ (by omega), am_wr_ne _ (by omega), am_wr_ne _ (by omega), am_wr_ne _ (by omega), am_diff _ _ _ _ _ e]
              · show (am_wr (am_wr (am_wr (am_wr (am_wr (am_wr (am_wr (am_wr (am_wr (am_wr (am_wr (am_wr (μ, τ) (t + 1) S.2.1 (nI c)) (t + 2) S.2.1 (-1)) (t + 3) S.2.1 (nI S.1)) (t + 4) S.2.1 (-1)) (t + 5) S.2.1 (-1)) (t + 6) S.2.1 (nI S.2.1)) (t + 7) S.2.1 (nI S.2.1)) (t + 8) S.2.1 (nI 0)) (t + 8) S.2.1 (nI (2 ^ S.2.2.1))) t 9 (nI (S.2.2.1 + 1))) t 8 (nI (S.2.1 + 1))) 44 2 (nI (S.1 + 1))).1 (t + 2) i = μ (t + 2) i
                rw [am_wr_ne _ (by omega), am_wr_ne _ (by omega), am_wr_ne _ (by omega), am_wr_ne _ (by omega), am_wr_ne _ (by omega), am_wr_ne _ (by omega), am_wr_ne _ (by omega), am_wr_ne _ (by omega), am_wr_ne _ (by omega), am_wr_ne _ (by omega), am_diff _ _ _ _ _ e, am_wr_ne _ (by omega)]
              · show (am_wr (am_wr (am_wr (am_wr (am_wr (am_wr (am_wr (am_wr (am_wr (am_wr (am_wr (am_wr (μ, τ) (t + 1) S.2.1 (nI c)) (t + 2) S.2.1 (-1)) (t + 3) S.2.1 (nI S.1)) (t + 4) S.2.1 (-1)) (t + 5) S.2.1 (-1)) (t + 6) S.2.1 (nI S.2.1)) (t + 7) S.2.1 (nI S.2.1)) (t + 8) S.2.1 (nI 0)) (t + 8) S.2.1 (nI (2 ^ S.2.2.1))) t 9 (nI (S.2.2.1 + 1))) t 8 (nI (S.2.1 + 1))) 44 2 (nI (S.1 + 1))).1 (t + 3) i = μ (t + 3) i
                rw [am_wr_ne _ (by omega), am_wr_ne _ (by omega), am_wr_ne _ (by omega), am_wr_ne _ (by omega), am_wr_ne _ (by omega), am_wr_ne _ (by omega), am_wr_ne _ (by omega), am_wr_ne _ (by omega), am_wr_ne _ (by omega), am_diff _ _ _ _ _ e, am_wr_ne _ (by omega), am_wr_ne _ (by omega)]
              · show (am_wr (am_wr (am_wr (am_wr (am_wr (am_wr (am_wr (am_wr (am_wr (am_wr (am_wr (am_wr (μ, τ) (t + 1) S.2.1 (nI c)) (t + 2) S.2.1 (-1)) (t + 3) S.2.1 (nI S.1)) (t + 4) S.2.1 (-1)) (t + 5) S.2.1 (-1)) (t + 6) S.2.1 (nI S.2.1)) (t + 7) S.2.1 (nI S.2.1)) (t + 8) S.2.1 (nI 0)) (t + 8) S.2.1 (nI (2 ^ S.2.2.1))) t 9 (nI (S.2.2.1 + 1))) t 8 (nI (S.2.1 + 1))) 44 2 (nI (S.1 + 1))).1 (t + 4) i = μ (t + 4) i
                rw [am_wr_ne _ (by omega), am_wr_ne _ (by omega), am_wr_ne _ (by omega), am_wr_ne _ (by omega), am_wr_ne _ (by omega), am_wr_ne _ (by omega), am_wr_ne _ (by omega), am_wr_ne _ (by omega), am_diff _ _ _ _ _ e, am_wr_ne _ (by omega), am_wr_ne _ (by omega), am_wr_ne _ (by omega)]
              · show (am_wr (am_wr (am_wr (am_wr (am_wr (am_wr (am_wr (am_wr (am_wr (am_wr (am_wr (am_wr (μ, τ) (t + 1) S.2.1 (nI c)) (t + 2) S.2.1 (-1)) (t + 3) S.2.1 (nI S.1)) (t + 4) S.2.1 (-1)) (t + 5) S.2.1 (-1)) (t + 6) S.2.1 (nI S.2.1)) (t + 7) S.2.1 (nI S.2.1)) (t + 8) S.2.1 (nI 0)) (t + 8) S.2.1 (nI (2 ^ S.2.2.1))) t 9 (nI (S.2.2.1 + 1))) t 8 (nI (S.2.1 + 1))) 44 2 (nI (S.1 + 1))).1 (t + 5) i = μ (t + 5) i
                rw [am_wr_ne _ (by omega), am_wr_ne _ (by omega), am_wr_ne _ (by omega), am_wr_ne _ (by omega), am_wr_ne _ (by omega), am_wr_ne _ (by omega), am_wr_ne _ (by omega), am_diff _ _ _ _ _ e, am_wr_ne _ (by omega), am_wr_ne _ (by omega), am_wr_ne _ (by omega), am_wr_ne _ (by omega)]
              · show (am_wr (am_wr (am_wr (am_wr (am_wr (am_wr (am_wr (am_wr (am_wr (am_wr (am_wr (am_wr (μ, τ) (t + 1) S.2.1 (nI c)) (t + 2) S.2.1 (-1)) (t + 3) S.2.1 (nI S.1)) (t + 4) S.2.1 (-1)) (t + 5) S.2.1 (-1)) (t + 6) S.2.1 (nI S.2.1)) (t + 7) S.2.1 (nI S.2.1)) (t + 8) S.2.1 (nI 0)) (t + 8) S.2.1 (nI (2 ^ S.2.2.1))) t 9 (nI (S.2.2.1 + 1))) t 8 (nI (S.2.1 + 1))) 44 2 (nI (S.1 + 1))).1 (t + 6) i = μ (t + 6) i
                rw [am_wr_ne _ (by omega), am_wr_ne _ (by omega), am_wr_ne _ (by omega), am_wr_ne _ (by omega), am_wr_ne _ (by omega), am_wr_ne _ (by omega), am_diff _ _ _ _ _ e, am_wr_ne _ (by omega), am_wr_ne _ (by omega), am_wr_ne _ (by omega), am_wr_ne _ (by omega), am_wr_ne _ (by omega)]
              · show (am_wr (am_wr (am_wr (am_wr (am_wr (am_wr (am_wr (am_wr (am_wr (am_wr (am_wr (am_wr (μ, τ) (t + 1) S.2.1 (nI c)) (t + 2) S.2.1 (-1)) (t + 3) S.2.1 (nI S.1)) (t + 4) S.2.1 (-1)) (t + 5) S.2.1 (-1)) (t + 6) S.2.1 (nI S.2.1)) (t + 7) S.2.1 (nI S.2.1)) (t + 8) S.2.1 (nI 0)) (t + 8) S.2.1 (nI (2 ^ S.2.2.1))) t 9 (nI (S.2.2.1 + 1))) t 8 (nI (S.2.1 + 1))) 44 2 (nI (S.1 + 1))).1 (t + 7) i = μ (t + 7) i
                rw [am_wr_ne _ (by omega), am_wr_ne _ (by omega), am_wr_ne _ (by omega), am_wr_ne _ (by omega), am_wr_ne _ (by omega), am_diff _ _ _ _ _ e, am_wr_ne _ (by omega), am_wr_ne _ (by omega), am_wr_ne _ (by omega), am_wr_ne _ (by omega), am_wr_ne _ (by omega), am_wr_ne _ (by omega)]
              · show (am_wr (am_wr (am_wr (am_wr (am_wr (am_wr (am_wr (am_wr (am_wr (am_wr (am_wr (am_wr (μ, τ) (t + 1) S.2.1 (nI c)) (t + 2) S.2.1 (-1)) (t + 3) S.2.1 (nI S.1)) (t + 4) S.2.1 (-1)) (t + 5) S.2.1 (-1)) (t + 6) S.2.1 (nI S.2.1)) (t + 7) S.2.1 (nI S.2.1)) (t + 8) S.2.1 (nI 0)) (t + 8) S.2.1 (nI (2 ^ S.2.2.1))) t 9 (nI (S.2.2.1 + 1))) t 8 (nI (S.2.1 + 1))) 44 2 (nI (S.1 + 1))).1 (t + 8) i = μ (t + 8) i
                rw [am_wr_ne _ (by omega), am_wr_ne _ (by omega), am_wr_ne _ (by omega), am_diff _ _ _ _ _ e, am_diff _ _ _ _ _ e, am_wr_ne _ (by omega), am_wr_ne _ (by omega), am_wr_ne _ (by omega), am_wr_ne _ (by omega), am_wr_ne _ (by omega), am_wr_ne _ (by omega), am_wr_ne _ (by omega)]
        · skip
          refine am_enter' (M := M_X6_begin) rfl rfl rfl (by omega) (ls := [some (.ref 44), some (.int (nI c)), some (.int (nI lc)), none]) rfl (fun d' hd' => ?_)
          refine am_run 2 (pc' := 4) (ls' := [some (.ref 44), some (.int (nI c)), some (.int (nI lc)), none]) (st' := [.ref (τ 44 1)]) (σ' := (μ, τ)) rfl ?_
          refine am_stk (st' := [.ref t]) (by rw [ht]) ?_
          refine am_run 1 (pc' := 5) (ls' := [some (.ref 44), some (.int (nI c)), some (.int (nI lc)), none]) (st' := [.int (nI c), .ref t]) (σ' := (μ, τ)) rfl ?_
          refine am_invv (y := 107) (b := t) (as := [.int (nI c)]) (rest := []) rfl rfl rfl rfl rfl rfl (t3_kind hT3) (Nat.le_of_ble_eq_true rfl) ?_
          refine am_enter' rfl rfl rfl (by omega) (ls := [some (.ref t), some (.int (nI c))]) rfl (fun d_1 hd_1 => ?_)
          refine am_run 1 (pc' := 1) (ls' := [some (.ref t), some (.int (nI c))]) (st' := [.ref t]) (σ' := (μ, τ)) rfl ?_
          refine am_getI (k := 8) rfl rfl (t3_kind hT3) rfl ?_
          refine am_top (v' := nI S.2.1) (c6) ?_
          refine am_run 1 (pc' := 6) (ls' := [some (.ref t), some (.int (nI c))]) (st' := [.int (nI 60), .int (nI S.2.1)]) (σ' := (μ, τ)) rfl ?_
          refine am_ic (ty := 9) (tn := 29) rfl (by decide) rfl rfl (fun (h_2 : nI S.2.1 < nI 60) => ?_) (fun (h_2 : ¬ (nI S.2.1 < nI 60)) => ?_)
          rotate_left
          · have h_2 : ¬ (S.2.1 < 60) := fun z => h_2 ((nI_ltI (by omega) (by omega)).mpr z)
            omega
          have h_2 : S.2.1 < 60 := (nI_ltI (by omega) (by omega)).mp h_2
          refine am_run 1 (pc' := 10) (ls' := [some (.ref t), some (.int (nI c))]) (st' := [.int (nI c)]) (σ' := (μ, τ)) rfl ?_
          refine am_invs (y := 108) (as := [.int (nI c)]) (rest := []) rfl rfl rfl rfl rfl rfl (Nat.le_of_ble_eq_true rfl) ?_
          refine c_isPP (by omega) hc (fun _ => ?_) (fun z => absurd (hp.symm.trans z) (by decide))
          show am_G _ M_X8_hasRoomFor _ 13 [some (.ref t), some (.int (nI c))] [.int (nI 1)] (μ, τ)
          refine am_if (ty := 25) (tn := 16) rfl (by decide) rfl rfl (fun (h_3 : nI 1 = 0) => ?_) (fun (h_3 : ¬ (nI 1 = 0)) => ?_)
          · exact absurd h_3 (by decide)
          refine am_run 1 (pc' := 17) (ls' := [some (.ref t), some (.int (nI c))]) (st' := [.ref t]) (σ' := (μ, τ)) rfl ?_
          refine am_getI (k := 9) rfl rfl (t3_kind hT3) rfl ?_
          refine am_top (v' := nI S.2.2.1) (c7) ?_
          refine am_run 1 (pc' := 22) (ls' := [some (.ref t), some (.int (nI c))]) (st' := [.int (nI 20), .int (nI S.2.2.1)]) (σ' := (μ, τ)) rfl ?_
          refine am_ic (ty := 25) (tn := 29) rfl (by decide) rfl rfl (fun (h_4 : nI S.2.2.1 < nI 20) => ?_) (fun (h_4 : ¬ (nI S.2.2.1 < nI 20)) => ?_)
          rotate_left
          · have h_4 : ¬ (S.2.2.1 < 20) := fun z => h_4 ((nI_ltI (by omega) (by omega)).mpr z)
            omega
          have h_4 : S.2.2.1 < 20 := (nI_ltI (by omega) (by omega)).mp h_4
          refine am_run 2 (pc' := 30) (ls' := [some (.ref t), some (.int (nI c))]) (st' := [.int (nI 1)]) (σ' := (μ, τ)) rfl ?_
          refine am_retz rfl rfl (by decide) ?_
          show am_G _ M_X6_begin _ 8 [some (.ref 44), some (.int (nI c)), some (.int (nI lc)), none] [.int (nI 1)] (μ, τ)
          refine am_if (ty := 11) (tn := 19) rfl (by decide) rfl rfl (fun (h_5 : nI 1 = 0) => ?_) (fun (h_5 : ¬ (nI 1 = 0)) => ?_)
          · exact absurd h_5 (by decide)
          refine am_run 2 (pc' := 22) (ls' := [some (.ref 44), some (.int (nI c)), some (.int (nI lc)), none]) (st' := [.int (nI 36), .int (nI c)]) (σ' := (μ, τ)) rfl ?_
          refine am_ic (ty := 25) (tn := 35) rfl (by decide) rfl rfl (fun (h_6 : nI c = nI 36) => ?_) (fun (h_6 : ¬ (nI c = nI 36)) => ?_)
          · have h_6 : c = 36 := (nI_eq (by omega) (by omega)).mp h_6
            omega
          have h_6 : ¬ (c = 36) := fun z => h_6 ((nI_eq (by omega) (by omega)).mpr z)
          refine am_run 1 (pc' := 36) (ls' := [some (.ref 44), some (.int (nI c)), some (.int (nI lc)), none]) (st' := [.ref 44]) (σ' := (μ, τ)) rfl ?_
          refine am_invv (y := 83) (b := 44) (as := []) (rest := []) rfl rfl rfl rfl rfl rfl rfl (Nat.le_of_ble_eq_true rfl) ?_
          refine am_enter' rfl rfl rfl (by omega) (ls := [some (.ref 44)]) rfl (fun d_7 hd_7 => ?_)
          refine am_run 2 (pc' := 4) (ls' := [some (.ref 44)]) (st' := [.int ((μ, τ).1 44 3)]) (σ' := (μ, τ)) rfl ?_
          refine am_top (v' := nI 0) (c5) ?_
          refine am_if (ty := 7) (tn := 11) rfl (by decide) rfl rfl (fun (h_8 : nI 0 = 0) => ?_) (fun (h_8 : ¬ (nI 0 = 0)) => ?_)
          rotate_left
          · exact absurd (by decide) h_8
          refine am_run 2 (pc' := 12) (ls' := [some (.ref 44)]) (st' := [.int (nI 1)]) (σ' := (μ, τ)) rfl ?_
          refine am_retz rfl rfl (by decide) ?_
          show am_G _ M_X6_begin _ 39 [some (.ref 44), some (.int (nI c)), some (.int (nI lc)), none] [.int (nI 1)] (μ, τ)
          refine am_if (ty := 42) (tn := 44) rfl (by decide) rfl rfl (fun (h_9 : nI 1 = 0) => ?_) (fun (h_9 : ¬ (nI 1 = 0)) => ?_)
          · exact absurd h_9 (by decide)
          refine am_run 2 (pc' := 48) (ls' := [some (.ref 44), some (.int (nI c)), some (.int (nI lc)), none]) (st' := [.ref (τ 44 1)]) (σ' := (μ, τ)) rfl ?_
          refine am_stk (st' := [.ref t]) (by rw [ht]) ?_
          refine am_run 3 (pc' := 53) (ls' := [some (.ref 44), some (.int (nI c)), some (.int (nI lc)), none]) (st' := [.int ((μ, τ).1 44 2), .int (nI c), .ref t]) (σ' := (μ, τ)) rfl ?_
          refine am_top (v' := nI S.1) (c4) ?_
          refine am_invv (y := 109) (b := t) (as := [.int (nI c), .int (nI S.1)]) (rest := []) rfl rfl rfl rfl rfl rfl (t3_kind hT3) (Nat.le_of_ble_eq_true rfl) ?_
          refine am_enter' rfl rfl rfl (by omega) (ls := [some (.ref t), some (.int (nI c)), some (.int (nI S.1)), none]) rfl (fun d_10 hd_10 => ?_)
          refine am_run 2 (pc' := 2) (ls' := [some (.ref t), some (.int (nI c)), some (.int (nI S.1)), none]) (st' := [.int (nI c), .ref t]) (σ' := (μ, τ)) rfl ?_
          refine am_invv (y := 107) (b := t) (as := [.int (nI c)]) (rest := []) rfl rfl rfl rfl rfl rfl (t3_kind hT3) (Nat.le_of_ble_eq_true rfl) ?_
          refine am_enter' rfl rfl rfl (by omega) (ls := [some (.ref t), some (.int (nI c))]) rfl (fun d_11 hd_11 => ?_)
          refine am_run 1 (pc' := 1) (ls' := [some (.ref t), some (.int (nI c))]) (st' := [.ref t]) (σ' := (μ, τ)) rfl ?_
          refine am_getI (k := 8) rfl rfl (t3_kind hT3) rfl ?_
          refine am_top (v' := nI S.2.1) (c6) ?_
          refine am_run 1 (pc' := 6) (ls' := [some (.ref t), some (.int (nI c))]) (st' := [.int (nI 60), .int (nI S.2.1)]) (σ' := (μ, τ)) rfl ?_
          refine am_ic (ty := 9) (tn := 29) rfl (by decide) rfl rfl (fun (h_12 : nI S.2.1 < nI 60) => ?_) (fun (h_12 : ¬ (nI S.2.1 < nI 60)) => ?_)
          rotate_left
          · have h_12 : ¬ (S.2.1 < 60) := fun z => h_12 ((nI_ltI (by omega) (by omega)).mpr z)
            omega
          have h_12 : S.2.1 < 60 := (nI_ltI (by omega) (by omega)).mp h_12
          refine am_run 1 (pc' := 10) (ls' := [some (.ref t), some (.int (nI c))]) (st' := [.int (nI c)]) (σ' := (μ, τ)) rfl ?_
          refine am_invs (y := 108) (as := [.int (nI c)]) (rest := []) rfl rfl rfl rfl rfl rfl (Nat.le_of_ble_eq_true rfl) ?_
          refine c_isPP (by omega) hc (fun _ => ?_) (fun z => absurd (hp.symm.trans z) (by decide))
          show am_G _ M_X8_hasRoomFor _ 13 [some (.ref t), some (.int (nI c))] [.int (nI 1)] (μ, τ)
          refine am_if (ty := 25) (tn := 16) rfl (by decide) rfl rfl (fun (h_13 : nI 1 = 0) => ?_) (fun (h_13 : ¬ (nI 1 = 0)) => ?_)
          · exact absurd h_13 (by decide)
          refine am_run 1 (pc' := 17) (ls' := [some (.ref t), some (.int (nI c))]) (st' := [.ref t]) (σ' := (μ, τ)) rfl ?_
          refine am_getI (k := 9) rfl rfl (t3_kind hT3) rfl ?_
          refine am_top (v' := nI S.2.2.1) (c7) ?_
          refine am_run 1 (pc' := 22) (ls' := [some (.ref t), some (.int (nI c))]) (st' := [.int (nI 20), .int (nI S.2.2.1)]) (σ' := (μ, τ)) rfl ?_
          refine am_ic (ty := 25) (tn := 29) rfl (by decide) rfl rfl (fun (h_14 : nI S.2.2.1 < nI 20) => ?_) (fun (h_14 : ¬ (nI S.2.2.1 < nI 20)) => ?_)
          rotate_left
          · have h_14 : ¬ (S.2.2.1 < 20) := fun z => h_14 ((nI_ltI (by omega) (by omega)).mpr z)
            omega
          have h_14 : S.2.2.1 < 20 := (nI_ltI (by omega) (by omega)).mp h_14
          refine am_run 2 (pc' := 30) (ls' := [some (.ref t), some (.int (nI c))]) (st' := [.int (nI 1)]) (σ' := (μ, τ)) rfl ?_
          refine am_retz rfl rfl (by decide) ?_
          show am_G _ M_X8_add _ 5 [some (.ref t), some (.int (nI c)), some (.int (nI S.1)), none] [.int (nI 1)] (μ, τ)
          refine am_if (ty := 15) (tn := 8) rfl (by decide) rfl rfl (fun (h_15 : nI 1 = 0) => ?_) (fun (h_15 : ¬ (nI 1 = 0)) => ?_)
          · exact absurd h_15 (by decide)
          refine am_run 1 (pc' := 9) (ls' := [some (.ref t), some (.int (nI c)), some (.int (nI S.1)), none]) (st' := [.ref t]) (σ' := (μ, τ)) rfl ?_
          refine am_getI (k := 8) rfl rfl (t3_kind hT3) rfl ?_
          refine am_top (v' := nI S.2.1) (c6) ?_
          refine am_if (ty := 15) (tn := 17) rfl (by decide) rfl rfl (fun (h_16 : nI S.2.1 < 0) => ?_) (fun (h_16 : ¬ (nI S.2.1 < 0)) => ?_)
          · have h_16 : S.2.1 < 0 := (am_nlt0 (by omega)).mp h_16
            exact absurd h_16 (Nat.not_lt_zero _)
          have h_16 : ¬ (S.2.1 < 0) := fun z => h_16 ((am_nlt0 (by omega)).mpr z)
          refine am_run 1 (pc' := 18) (ls' := [some (.ref t), some (.int (nI c)), some (.int (nI S.1)), none]) (st' := [.ref t]) (σ' := (μ, τ)) rfl ?_
          refine am_getI (k := 8) rfl rfl (t3_kind hT3) rfl ?_
          refine am_top (v' := nI S.2.1) (c6) ?_
          refine am_run 2 (pc' := 23) (ls' := [some (.ref t), some (.int (nI c)), some (.int (nI S.1)), some (.int (nI S.2.1))]) (st' := [.ref t]) (σ' := (μ, τ)) rfl ?_
          refine am_getT hT3 (k := 0) (k1 := 1) rfl rfl rfl (by decide) rfl ?_
          refine am_run 2 (pc' := 28) (ls' := [some (.ref t), some (.int (nI c)), some (.int (nI S.1)), some (.int (nI S.2.1))]) (st' := [.int (nI c), .int (nI S.2.1), .ref (t + 1)]) (σ' := (μ, τ)) rfl ?_
          refine am_iastN (n := 60) rfl (t3_arr hT3 (by decide)).1 (t3_arr hT3 (by decide)).2 (by omega) (by decide) ?_
          refine am_run 1 (pc' := 30) (ls' := [some (.ref t), some (.int (nI c)), some (.int (nI S.1)), some (.int (nI S.2.1))]) (st' := [.ref t]) (σ' := (am_wr (μ, τ) (t + 1) S.2.1 (nI c))) rfl ?_
          refine am_getT hT3 (k := 1) (k1 := 2) rfl rfl rfl (by decide) rfl ?_
          refine am_run 2 (pc' := 35) (ls' := [some (.ref t), some (.int (nI c)), some (.int (nI S.1)), some (.int (nI S.2.1))]) (st' := [.int (-1), .int (nI S.2.1), .ref (t + 2)]) (σ' := (am_wr (μ, τ) (t + 1) S.2.1 (nI c))) rfl ?_
          refine am_iastN (n := 60) rfl (t3_arr hT3 (by decide)).1 (t3_arr hT3 (by decide)).2 (by omega) (by decide) ?_
          refine am_run 1 (pc' := 37) (ls' := [some (.ref t), some (.int (nI c)), some (.int (nI S.1)), some (.int (nI S.2.1))]) (st' := [.ref t]) (σ' := (am_wr (am_wr (μ, τ) (t + 1) S.2.1 (nI c)) (t + 2) S.2.1 (-1))) rfl ?_
          refine am_getT hT3 (k := 2) (k1 := 3) rfl rfl rfl (by decide) rfl ?_
          refine am_run 2 (pc' := 42) (ls' := [some (.ref t), some (.int (nI c)), some (.int (nI S.1)), some (.int (nI S.2.1))]) (st' := [.int (nI S.1), .int (nI S.2.1), .ref (t + 3)]) (σ' := (am_wr (am_wr (μ, τ) (t + 1) S.2.1 (nI c)) (t + 2) S.2.1 (-1))) rfl ?_
          refine am_iastN (n := 60) rfl (t3_arr hT3 (by decide)).1 (t3_arr hT3 (by decide)).2 (by omega) (by decide) ?_
          refine am_run 1 (pc' := 44) (ls' := [some (.ref t), some (.int (nI c)), some (.int (nI S.1)), some (.int (nI S.2.1))]) (st' := [.ref t]) (σ' := (am_wr (am_wr (am_wr (μ, τ) (t + 1) S.2.1 (nI c)) (t + 2) S.2.1 (-1)) (t + 3) S.2.1 (nI S.1))) rfl ?_
          refine am_getT hT3 (k := 3) (k1 := 4) rfl rfl rfl (by decide) rfl ?_
          refine am_run 2 (pc' := 49) (ls' := [some (.ref t), some (.int (nI c)), some (.int (nI S.1)), some (.int (nI S.2.1))]) (st' := [.int (-1), .int (nI S.2.1), .ref (t + 4)]) (σ' := (am_wr (am_wr (am_wr (μ, τ) (t + 1) S.2.1 (nI c)) (t + 2) S.2.1 (-1)) (t + 3) S.2.1 (nI S.1))) rfl ?_
          refine am_iastN (n := 60) rfl (t3_arr hT3 (by decide)).1 (t3_arr hT3 (by decide)).2 (by omega) (by decide) ?_
          refine am_run 1 (pc' := 51) (ls' := [some (.ref t), some (.int (nI c)), some (.int (nI S.1)), some (.int (nI S.2.1))]) (st' := [.ref t]) (σ' := (am_wr (am_wr (am_wr (am_wr (μ, τ) (t + 1) S.2.1 (nI c)) (t + 2) S.2.1 (-1)) (t + 3) S.2.1 (nI S.1)) (t + 4) S.2.1 (-1))) rfl ?_
          refine am_getT hT3 (k := 4) (k1 := 5) rfl rfl rfl (by decide) rfl ?_
          refine am_run 2 (pc' := 56) (ls' := [some (.ref t), some (.int (nI c)), some (.int (nI S.1)), some (.int (nI S.2.1))]) (st' := [.int (-1), .int (nI S.2.1), .ref (t + 5)]) (σ' := (am_wr (am_wr (am_wr (am_wr (μ, τ) (t + 1) S.2.1 (nI c)) (t + 2) S.2.1 (-1)) (t + 3) S.2.1 (nI S.1)) (t + 4) S.2.1 (-1))) rfl ?_
          refine am_iastN (n := 60) rfl (t3_arr hT3 (by decide)).1 (t3_arr hT3 (by decide)).2 (by omega) (by decide) ?_
          refine am_run 1 (pc' := 58) (ls' := [some (.ref t), some (.int (nI c)), some (.int (nI S.1)), some (.int (nI S.2.1))]) (st' := [.ref t]) (σ' := (am_wr (am_wr (am_wr (am_wr (am_wr (μ, τ) (t + 1) S.2.1 (nI c)) (t + 2) S.2.1 (-1)) (t + 3) S.2.1 (nI S.1)) (t + 4) S.2.1 (-1)) (t + 5) S.2.1 (-1))) rfl ?_
          refine am_getT hT3 (k := 5) (k1 := 6) rfl rfl rfl (by decide) rfl ?_
          refine am_run 2 (pc' := 63) (ls' := [some (.ref t), some (.int (nI c)), some (.int (nI S.1)), some (.int (nI S.2.1))]) (st' := [.int (nI S.2.1), .int (nI S.2.1), .ref (t + 6)]) (σ' := (am_wr (am_wr (am_wr (am_wr (am_wr (μ, τ) (t + 1) S.2.1 (nI c)) (t + 2) S.2.1 (-1)) (t + 3) S.2.1 (nI S.1)) (t + 4) S.2.1 (-1)) (t + 5) S.2.1 (-1))) rfl ?_
          refine am_iastN (n := 60) rfl (t3_arr hT3 (by decide)).1 (t3_arr hT3 (by decide)).2 (by omega) (by decide) ?_
          refine am_run 1 (pc' := 65) (ls' := [some (.ref t), some (.int (nI c)), some (.int (nI S.1)), some (.int (nI S.2.1))]) (st' := [.ref t]) (σ' := (am_wr (am_wr (am_wr (am_wr (am_wr (am_wr (μ, τ) (t + 1) S.2.1 (nI c)) (t + 2) S.2.1 (-1)) (t + 3) S.2.1 (nI S.1)) (t + 4) S.2.1 (-1)) (t + 5) S.2.1 (-1)) (t + 6) S.2.1 (nI S.2.1))) rfl ?_
          refine am_getT hT3 (k := 6) (k1 := 7) rfl rfl rfl (by decide) rfl ?_
          refine am_run 2 (pc' := 70) (ls' := [some (.ref t), some (.int (nI c)), some (.int (nI S.1)), some (.int (nI S.2.1))]) (st' := [.int (nI S.2.1), .int (nI S.2.1), .ref (t + 7)]) (σ' := (am_wr (am_wr (am_wr (am_wr (am_wr (am_wr (μ, τ) (t + 1) S.2.1 (nI c)) (t + 2) S.2.1 (-1)) (t + 3) S.2.1 (nI S.1)) (t + 4) S.2.1 (-1)) (t + 5) S.2.1 (-1)) (t + 6) S.2.1 (nI S.2.1))) rfl ?_
          refine am_iastN (n := 60) rfl (t3_arr hT3 (by decide)).1 (t3_arr hT3 (by decide)).2 (by omega) (by decide) ?_
          refine am_run 1 (pc' := 72) (ls' := [some (.ref t), some (.int (nI c)), some (.int (nI S.1)), some (.int (nI S.2.1))]) (st' := [.ref t]) (σ' := (am_wr (am_wr (am_wr (am_wr (am_wr (am_wr (am_wr (μ, τ) (t + 1) S.2.1 (nI c)) (t + 2) S.2.1 (-1)) (t + 3) S.2.1 (nI S.1)) (t + 4) S.2.1 (-1)) (t + 5) S.2.1 (-1)) (t + 6) S.2.1 (nI S.2.1)) (t + 7) S.2.1 (nI S.2.1))) rfl ?_
          refine am_getT hT3 (k := 7) (k1 := 8) rfl rfl rfl (by decide) rfl ?_
          refine am_run 2 (pc' := 77) (ls' := [some (.ref t), some (.int (nI c)), some (.int (nI S.1)), some (.int (nI S.2.1))]) (st' := [.int (nI 0), .int (nI S.2.1), .ref (t + 8)]) (σ' := (am_wr (am_wr (am_wr (am_wr (am_wr (am_wr (am_wr (μ, τ) (t + 1) S.2.1 (nI c)) (t + 2) S.2.1 (-1)) (t + 3) S.2.1 (nI S.1)) (t + 4) S.2.1 (-1)) (t + 5) S.2.1 (-1)) (t + 6) S.2.1 (nI S.2.1)) (t + 7) S.2.1 (nI S.2.1))) rfl ?_
          refine am_iastN (n := 60) rfl (t3_arr hT3 (by decide)).1 (t3_arr hT3 (by decide)).2 (by omega) (by decide) ?_
          refine am_run 1 (pc' := 79) (ls' := [some (.ref t), some (.int (nI c)), some (.int (nI S.1)), some (.int (nI S.2.1))]) (st' := [.int (nI c)]) (σ' := (am_wr (am_wr (am_wr (am_wr (am_wr (am_wr (am_wr (am_wr (μ, τ) (t + 1) S.2.1 (nI c)) (t + 2) S.2.1 (-1)) (t + 3) S.2.1 (nI S.1)) (t + 4) S.2.1 (-1)) (t + 5) S.2.1 (-1)) (t + 6) S.2.1 (nI S.2.1)) (t + 7) S.2.1 (nI S.2.1)) (t + 8) S.2.1 (nI 0))) rfl ?_
          refine am_invs (y := 108) (as := [.int (nI c)]) (rest := []) rfl rfl rfl rfl rfl rfl (Nat.le_of_ble_eq_true rfl) ?_
          refine c_isPP (by omega) hc (fun _ => ?_) (fun z => absurd (hp.symm.trans z) (by decide))
          show am_G _ M_X8_add _ 82 [some (.ref t), some (.int (nI c)), some (.int (nI S.1)), some (.int (nI S.2.1))] [.int (nI 1)] (am_wr (am_wr (am_wr (am_wr (am_wr (am_wr (am_wr (am_wr (μ, τ) (t + 1) S.2.1 (nI c)) (t + 2) S.2.1 (-1)) (t + 3) S.2.1 (nI S.1)) (t + 4) S.2.1 (-1)) (t + 5) S.2.1 (-1)) (t + 6) S.2.1 (nI S.2.1)) (t + 7) S.2.1 (nI S.2.1)) (t + 8) S.2.1 (nI 0))
          refine am_if (ty := 107) (tn := 85) rfl (by decide) rfl rfl (fun (h_17 : nI 1 = 0) => ?_) (fun (h_17 : ¬ (nI 1 = 0)) => ?_)
          · exact absurd h_17 (by decide)
          refine am_run 1 (pc' := 86) (ls' := [some (.ref t), some (.int (nI c)), some (.int (nI S.1)), some (.int (nI S.2.1))]) (st' := [.ref t]) (σ' := (am_wr (am_wr (am_wr (am_wr (am_wr (am_wr (am_wr (am_wr (μ, τ) (t + 1) S.2.1 (nI c)) (t + 2) S.2.1 (-1)) (t + 3) S.2.1 (nI S.1)) (t + 4) S.2.1 (-1)) (t + 5) S.2.1 (-1)) (t + 6) S.2.1 (nI S.2.1)) (t + 7) S.2.1 (nI S.2.1)) (t + 8) S.2.1 (nI 0))) rfl ?_
          refine am_getT hT3 (k := 7) (k1 := 8) rfl rfl rfl (by decide) rfl ?_
          refine am_run 3 (pc' := 92) (ls' := [some (.ref t), some (.int (nI c)), some (.int (nI S.1)), some (.int (nI S.2.1))]) (st' := [.ref t, .int (nI 1), .int (nI S.2.1), .ref (t + 8)]) (σ' := (am_wr (am_wr (am_wr (am_wr (am_wr (am_wr (am_wr (am_wr (μ, τ) (t + 1) S.2.1 (nI c)) (t + 2) S.2.1 (-1)) (t + 3) S.2.1 (nI S.1)) (t + 4) S.2.1 (-1)) (t + 5) S.2.1 (-1)) (t + 6) S.2.1 (nI S.2.1)) (t + 7) S.2.1 (nI S.2.1)) (t + 8) S.2.1 (nI 0))) rfl ?_
          refine am_getI (k := 9) rfl rfl (t3_kind hT3) rfl ?_
          refine am_top (v' := nI S.2.2.1) (by rw [am_wr_ne _ (by omega), am_wr_ne _ (by omega), am_wr_ne _ (by omega), am_wr_ne _ (by omega), am_wr_ne _ (by omega), am_wr_ne _ (by omega), am_wr_ne _ (by omega), am_wr_ne _ (by omega)]; exact c7) ?_
          refine am_run 1 (pc' := 96) (ls' := [some (.ref t), some (.int (nI c)), some (.int (nI S.1)), some (.int (nI S.2.1))]) (st' := [.int ((nI 1) <<< ((nI S.2.2.1) &&& 31)), .int (nI S.2.1), .ref (t + 8)]) (σ' := (am_wr (am_wr (am_wr (am_wr (am_wr (am_wr (am_wr (am_wr (μ, τ) (t + 1) S.2.1 (nI c)) (t + 2) S.2.1 (-1)) (t + 3) S.2.1 (nI S.1)) (t + 4) S.2.1 (-1)) (t + 5) S.2.1 (-1)) (t + 6) S.2.1 (nI S.2.1)) (t + 7) S.2.1 (nI S.2.1)) (t + 8) S.2.1 (nI 0))) rfl ?_
          refine am_top (v' := nI (2 ^ S.2.2.1)) (by rw [nx_shl _ (by omega), Nat.one_mul]) ?_
          refine am_iastN (n := 60) rfl (t3_arr hT3 (by decide)).1 (t3_arr hT3 (by decide)).2 (by omega) (by decide) ?_
          refine am_run 2 (pc' := 99) (ls' := [some (.ref t), some (.int (nI c)), some (.int (nI S.1)), some (.int (nI S.2.1))]) (st' := [.ref t, .ref t]) (σ' := (am_wr (am_wr (am_wr (am_wr (am_wr (am_wr (am_wr (am_wr (am_wr (μ, τ) (t + 1) S.2.1 (nI c)) (t + 2) S.2.1 (-1)) (t + 3) S.2.1 (nI S.1)) (t + 4) S.2.1 (-1)) (t + 5) S.2.1 (-1)) (t + 6) S.2.1 (nI S.2.1)) (t + 7) S.2.1 (nI S.2.1)) (t + 8) S.2.1 (nI 0)) (t + 8) S.2.1 (nI (2 ^ S.2.2.1)))) rfl ?_
          refine am_getI (k := 9) rfl rfl (t3_kind hT3) rfl ?_
          refine am_top (v' := nI S.2.2.1) (by rw [am_wr_ne _ (by omega), am_wr_ne _ (by omega), am_wr_ne _ (by omega), am_wr_ne _ (by omega), am_wr_ne _ (by omega), am_wr_ne _ (by omega), am_wr_ne _ (by omega), am_wr_ne _ (by omega), am_wr_ne _ (by omega)]; exact c7) ?_
          refine am_run 2 (pc' := 104) (ls' := [some (.ref t), some (.int (nI c)), some (.int (nI S.1)), some (.int (nI S.2.1))]) (st' := [.int (nI S.2.2.1 + nI 1), .ref t]) (σ' := (am_wr (am_wr (am_wr (am_wr (am_wr (am_wr (am_wr (am_wr (am_wr (μ, τ) (t + 1) S.2.1 (nI c)) (t + 2) S.2.1 (-1)) (t + 3) S.2.1 (nI S.1)) (t + 4) S.2.1 (-1)) (t + 5) S.2.1 (-1)) (t + 6) S.2.1 (nI S.2.1)) (t + 7) S.2.1 (nI S.2.1)) (t + 8) S.2.1 (nI 0)) (t + 8) S.2.1 (nI (2 ^ S.2.2.1)))) rfl ?_
          refine am_top (v' := nI (S.2.2.1 + 1)) (nI_add _ _) ?_
          refine am_putI (k := 9) rfl rfl (t3_kind hT3) rfl ?_
          refine am_run 2 (pc' := 109) (ls' := [some (.ref t), some (.int (nI c)), some (.int (nI S.1)), some (.int (nI S.2.1))]) (st' := [.ref t, .ref t]) (σ' := (am_wr (am_wr (am_wr (am_wr (am_wr (am_wr (am_wr (am_wr (am_wr (am_wr (μ, τ) (t + 1) S.2.1 (nI c)) (t + 2) S.2.1 (-1)) (t + 3) S.2.1 (nI S.1)) (t + 4) S.2.1 (-1)) (t + 5) S.2.1 (-1)) (t + 6) S.2.1 (nI S.2.1)) (t + 7) S.2.1 (nI S.2.1)) (t + 8) S.2.1 (nI 0)) (t + 8) S.2.1 (nI (2 ^ S.2.2.1))) t 9 (nI (S.2.2.1 + 1)))) rfl ?_
          refine am_getI (k := 8) rfl rfl (t3_kind hT3) rfl ?_
          refine am_top (v' := nI S.2.1) (by rw [am_diff _ _ _ _ _ (by decide), am_wr_ne _ (by omega), am_wr_ne _ (by omega), am_wr_ne _ (by omega), am_wr_ne _ (by omega), am_wr_ne _ (by omega), am_wr_ne _ (by omega), am_wr_ne _ (by omega), am_wr_ne _ (by omega), am_wr_ne _ (by omega)]; exact c6) ?_
          refine am_run 2 (pc' := 114) (ls' := [some (.ref t), some (.int (nI c)), some (.int (nI S.1)), some (.int (nI S.2.1))]) (st' := [.int (nI S.2.1 + nI 1), .ref t]) (σ' := (am_wr (am_wr (am_wr (am_wr (am_wr (am_wr (am_wr (am_wr (am_wr (am_wr (μ, τ) (t + 1) S.2.1 (nI c)) (t + 2) S.2.1 (-1)) (t + 3) S.2.1 (nI S.1)) (t + 4) S.2.1 (-1)) (t + 5) S.2.1 (-1)) (t + 6) S.2.1 (nI S.2.1)) (t + 7) S.2.1 (nI S.2.1)) (t + 8) S.2.1 (nI 0)) (t + 8) S.2.1 (nI (2 ^ S.2.2.1))) t 9 (nI (S.2.2.1 + 1)))) rfl ?_
          refine am_top (v' := nI (S.2.1 + 1)) (nI_add _ _) ?_
          refine am_putI (k := 8) rfl rfl (t3_kind hT3) rfl ?_
          refine am_run 1 (pc' := 118) (ls' := [some (.ref t), some (.int (nI c)), some (.int (nI S.1)), some (.int (nI S.2.1))]) (st' := [.int (nI S.2.1)]) (σ' := (am_wr (am_wr (am_wr (am_wr (am_wr (am_wr (am_wr (am_wr (am_wr (am_wr (am_wr (μ, τ) (t + 1) S.2.1 (nI c)) (t + 2) S.2.1 (-1)) (t + 3) S.2.1 (nI S.1)) (t + 4) S.2.1 (-1)) (t + 5) S.2.1 (-1)) (t + 6) S.2.1 (nI S.2.1)) (t + 7) S.2.1 (nI S.2.1)) (t + 8) S.2.1 (nI 0)) (t + 8) S.2.1 (nI (2 ^ S.2.2.1))) t 9 (nI (S.2.2.1 + 1))) t 8 (nI (S.2.1 + 1)))) rfl ?_
          refine am_reti rfl rfl ?_
          show am_G _ M_X6_begin _ 56 [some (.ref 44), some (.int (nI c)), some (.int (nI lc)), none] [.int (nI S.2.1)] (am_wr (am_wr (am_wr (am_wr (am_wr (am_wr (am_wr (am_wr (am_wr (am_wr (am_wr (μ, τ) (t + 1) S.2.1 (nI c)) (t + 2) S.2.1 (-1)) (t + 3) S.2.1 (nI S.1)) (t + 4) S.2.1 (-1)) (t + 5) S.2.1 (-1)) (t + 6) S.2.1 (nI S.2.1)) (t + 7) S.2.1 (nI S.2.1)) (t + 8) S.2.1 (nI 0)) (t + 8) S.2.1 (nI (2 ^ S.2.2.1))) t 9 (nI (S.2.2.1 + 1))) t 8 (nI (S.2.1 + 1)))
          refine am_run 4 (pc' := 62) (ls' := [some (.ref 44), some (.int (nI c)), some (.int (nI lc)), some (.int (nI S.2.1))]) (st' := [.int ((am_wr (am_wr (am_wr (am_wr (am_wr (am_wr (am_wr (am_wr (am_wr (am_wr (am_wr (μ, τ) (t + 1) S.2.1 (nI c)) (t + 2) S.2.1 (-1)) (t + 3) S.2.1 (nI S.1)) (t + 4) S.2.1 (-1)) (t + 5) S.2.1 (-1)) (t + 6) S.2.1 (nI S.2.1)) (t + 7) S.2.1 (nI S.2.1)) (t + 8) S.2.1 (nI 0)) (t + 8) S.2.1 (nI (2 ^ S.2.2.1))) t 9 (nI (S.2.2.1 + 1))) t 8 (nI (S.2.1 + 1))).1 44 2), .ref 44]) (σ' := (am_wr (am_wr (am_wr (am_wr (am_wr (am_wr (am_wr (am_wr (am_wr (am_wr (am_wr (μ, τ) (t + 1) S.2.1 (nI c)) (t + 2) S.2.1 (-1)) (t + 3) S.2.1 (nI S.1)) (t + 4) S.2.1 (-1)) (t + 5) S.2.1 (-1)) (t + 6) S.2.1 (nI S.2.1)) (t + 7) S.2.1 (nI S.2.1)) (t + 8) S.2.1 (nI 0)) (t + 8) S.2.1 (nI (2 ^ S.2.2.1))) t 9 (nI (S.2.2.1 + 1))) t 8 (nI (S.2.1 + 1)))) rfl ?_
          refine am_top (v' := nI S.1) (by rw [am_wr_ne _ (by omega), am_wr_ne _ (by omega), am_wr_ne _ (by omega), am_wr_ne _ (by omega), am_wr_ne _ (by omega), am_wr_ne _ (by omega), am_wr_ne _ (by omega), am_wr_ne _ (by omega), am_wr_ne _ (by omega), am_wr_ne _ (by omega), am_wr_ne _ (by omega)]; exact c4) ?_
          refine am_run 2 (pc' := 64) (ls' := [some (.ref 44), some (.int (nI c)), some (.int (nI lc)), some (.int (nI S.2.1))]) (st' := [.int (nI S.1 + nI 1), .ref 44]) (σ' := (am_wr (am_wr (am_wr (am_wr (am_wr (am_wr (am_wr (am_wr (am_wr (am_wr (am_wr (μ, τ) (t + 1) S.2.1 (nI c)) (t + 2) S.2.1 (-1)) (t + 3) S.2.1 (nI S.1)) (t + 4) S.2.1 (-1)) (t + 5) S.2.1 (-1)) (t + 6) S.2.1 (nI S.2.1)) (t + 7) S.2.1 (nI S.2.1)) (t + 8) S.2.1 (nI 0)) (t + 8) S.2.1 (nI (2 ^ S.2.2.1))) t 9 (nI (S.2.2.1 + 1))) t 8 (nI (S.2.1 + 1)))) rfl ?_
          refine am_top (v' := nI (S.1 + 1)) (nI_add _ _) ?_
          refine am_run 2 (pc' := 68) (ls' := [some (.ref 44), some (.int (nI c)), some (.int (nI lc)), some (.int (nI S.2.1))]) (st' := [.int (nI S.2.1)]) (σ' := (am_wr (am_wr (am_wr (am_wr (am_wr (am_wr (am_wr (am_wr (am_wr (am_wr (am_wr (am_wr (μ, τ) (t + 1) S.2.1 (nI c)) (t + 2) S.2.1 (-1)) (t + 3) S.2.1 (nI S.1)) (t + 4) S.2.1 (-1)) (t + 5) S.2.1 (-1)) (t + 6) S.2.1 (nI S.2.1)) (t + 7) S.2.1 (nI S.2.1)) (t + 8) S.2.1 (nI 0)) (t + 8) S.2.1 (nI (2 ^ S.2.2.1))) t 9 (nI (S.2.2.1 + 1))) t 8 (nI (S.2.1 + 1))) 44 2 (nI (S.1 + 1)))) rfl ?_
          refine am_reti rfl rfl ?_
          have hK : KC μ (am_wr (am_wr (am_wr (am_wr (am_wr (am_wr (am_wr (am_wr (am_wr (am_wr (am_wr (am_wr (μ, τ) (t + 1) S.2.1 (nI c)) (t + 2) S.2.1 (-1)) (t + 3) S.2.1 (nI S.1)) (t + 4) S.2.1 (-1)) (t + 5) S.2.1 (-1)) (t + 6) S.2.1 (nI S.2.1)) (t + 7) S.2.1 (nI S.2.1)) (t + 8) S.2.1 (nI 0)) (t + 8) S.2.1 (nI (2 ^ S.2.2.1))) t 9 (nI (S.2.2.1 + 1))) t 8 (nI (S.2.1 + 1))) 44 2 (nI (S.1 + 1))).1 t := (((((((((((((KC.rf μ t).wt (by omega) _ _).wt (by omega) _ _).wt (by omega) _ _).wt (by omega) _ _).wt (by omega) _ _).wt (by omega) _ _).wt (by omega) _ _).wt (by omega) _ _).wt (by omega) _ _).wt (by omega) _ _).wt (by omega) _ _).w44 _ _)
          have f2 : (am_wr (am_wr (am_wr (am_wr (am_wr (am_wr (am_wr (am_wr (am_wr (am_wr (am_wr (am_wr (μ, τ) (t + 1) S.2.1 (nI c)) (t + 2) S.2.1 (-1)) (t + 3) S.2.1 (nI S.1)) (t + 4) S.2.1 (-1)) (t + 5) S.2.1 (-1)) (t + 6) S.2.1 (nI S.2.1)) (t + 7) S.2.1 (nI S.2.1)) (t + 8) S.2.1 (nI 0)) (t + 8) S.2.1 (nI (2 ^ S.2.2.1))) t 9 (nI (S.2.2.1 + 1))) t 8 (nI (S.2.1 + 1))) 44 2 (nI (S.1 + 1))).1 44 2 = nI (S.1 + 1) := by rw [am_same]
          have f8 : (am_wr (am_wr (am_wr (am_wr (am_wr (am_wr (am_wr (am_wr (am_wr (am_wr (am_wr (am_wr (μ, τ) (t + 1) S.2.1 (nI c)) (t + 2) S.2.1 (-1)) (t + 3) S.2.1 (nI S.1)) (t + 4) S.2.1 (-1)) (t + 5) S.2.1 (-1)) (t + 6) S.2.1 (nI S.2.1)) (t + 7) S.2.1 (nI S.2.1)) (t + 8) S.2.1 (nI 0)) (t + 8) S.2.1 (nI (2 ^ S.2.2.1))) t 9 (nI (S.2.2.1 + 1))) t 8 (nI (S.2.1 + 1))) 44 2 (nI (S.1 + 1))).1 t 8 = nI (S.2.1 + 1) := by rw [am_wr_ne _ (by omega), am_same]
          refine hS (am_wr (am_wr (am_wr (am_wr (am_wr (am_wr (am_wr (am_wr (am_wr (am_wr (am_wr (am_wr (μ, τ) (t + 1) S.2.1 (nI c)) (t + 2) S.2.1 (-1)) (t + 3) S.2.1 (nI S.1)) (t + 4) S.2.1 (-1)) (t + 5) S.2.1 (-1)) (t + 6) S.2.1 (nI S.2.1)) (t + 7) S.2.1 (nI S.2.1)) (t + 8) S.2.1 (nI 0)) (t + 8) S.2.1 (nI (2 ^ S.2.2.1))) t 9 (nI (S.2.2.1 + 1))) t 8 (nI (S.2.1 + 1))) 44 2 (nI (S.1 + 1))).1 (by unfold p_beg; rw [if_neg hr, if_neg h36]) hK (hK.xc hT3 hX) ⟨by show S.1 + 1 ≤ L; omega, by show S.2.1 + 1 ≤ 60; omega, by show S.2.2.1 + (if isP c = true then 1 else 0) ≤ 20; rw [if_pos hp]; omega, f2, by rw [am_diff _ _ _ _ _ (by decide), am_wr_ne _ (by omega), am_wr_ne _ (by omega), am_wr_ne _ (by omega), am_wr_ne _ (by omega), am_wr_ne _ (by omega), am_wr_ne _ (by omega), am_wr_ne _ (by omega), am_wr_ne _ (by omega), am_wr_ne _ (by omega), am_wr_ne _ (by omega), am_wr_ne _ (by omega)]; exact c5, f8, ?_, fun i hi => ?_⟩
          · show (am_wr (am_wr (am_wr (am_wr (am_wr (am_wr (am_wr (am_wr (am_wr (am_wr (am_wr (am_wr (μ, τ) (t + 1) S.2.1 (nI c)) (t + 2) S.2.1 (-1)) (t + 3) S.2.1 (nI S.1)) (t + 4) S.2.1 (-1)) (t + 5) S.2.1 (-1)) (t + 6) S.2.1 (nI S.2.1)) (t + 7) S.2.1 (nI S.2.1)) (t + 8) S.2.1 (nI 0)) (t + 8) S.2.1 (nI (2 ^ S.2.2.1))) t 9 (nI (S.2.2.1 + 1))) t 8 (nI (S.2.1 + 1))) 44 2 (nI (S.1 + 1))).1 t 9 = nI (S.2.2.1 + (if isP c = true then 1 else 0))
            rw [if_pos hp]
            rw [am_wr_ne _ (by omega), am_diff _ _ _ _ _ (by decide), am_same]
          · have hi : i < S.2.1 + 1 := hi
            by_cases e : i = S.2.1
            · subst e
              have r1 : (am_wr (am_wr (am_wr (am_wr (am_wr (am_wr (am_wr (am_wr (am_wr (am_wr (am_wr (am_wr (μ, τ) (t + 1) S.2.1 (nI c)) (t + 2) S.2.1 (-1)) (t + 3) S.2.1 (nI S.1)) (t + 4) S.2.1 (-1)) (t + 5) S.2.1 (-1)) (t + 6) S.2.1 (nI S.2.1)) (t + 7) S.2.1 (nI S.2.1)) (t + 8) S.2.1 (nI 0)) (t + 8) S.2.1 (nI (2 ^ S.2.2.1))) t 9 (nI (S.2.2.1 + 1))) t 8 (nI (S.2.1 + 1))) 44 2 (nI (S.1 + 1))).1 (t + 1) S.2.1 = nI c := by rw [am_wr_ne _ (by omega), am_wr_ne _ (by omega), am_wr_ne _ (by omega), am_wr_ne _ (by omega), am_wr_ne _ (by omega), am_wr_ne _ (by omega), am_wr_ne _ (by omega), am_wr_ne _ (by omega), am_wr_ne _ (by omega), am_wr_ne _ (by omega), am_wr_ne _ (by omega), am_same]
              have r2 : (am_wr (am_wr (am_wr (am_wr (am_wr (am_wr (am_wr (am_wr (am_wr (am_wr (am_wr (am_wr (μ, τ) (t + 1) S.2.1 (nI c)) (t + 2) S.2.1 (-1)) (t + 3) S.2.1 (nI S.1)) (t + 4) S.2.1 (-1)) (t + 5) S.2.1 (-1)) (t + 6) S.2.1 (nI S.2.1)) (t + 7) S.2.1 (nI S.2.1)) (t + 8) S.2.1 (nI 0)) (t + 8) S.2.1 (nI (2 ^ S.2.2.1))) t 9 (nI (S.2.2.1 + 1))) t 8 (nI (S.2.1 + 1))) 44 2 (nI (S.1 + 1))).1 (t + 2) S.2.1 = -1 := by rw [am_wr_ne _ (by omega), am_wr_ne _ (by omega), am_wr_ne _ (by omega), am_wr_ne _ (by omega), am_wr_ne _ (by omega), am_wr_ne _ (by omega), am_wr_ne _ (by omega), am_wr_ne _ (by omega), am_wr_ne _ (by omega), am_wr_ne _ (by omega), am_same]
              have r3 : (am_wr (am_wr (am_wr (am_wr (am_wr (am_wr (am_wr (am_wr (am_wr (am_wr (am_wr (am_wr (μ, τ) (t + 1) S.2.1 (nI c)) (t + 2) S.2.1 (-1)) (t + 3) S.2.1 (nI S.1)) (t + 4) S.2.1 (-1)) (t + 5) S.2.1 (-1)) (t + 6) S.2.1 (nI S.2.1)) (t + 7) S.2.1 (nI S.2.1)) (t + 8) S.2.1 (nI 0)) (t + 8) S.2.1 (nI (2 ^ S.2.2.1))) t 9 (nI (S.2.2.1 + 1))) t 8 (nI (S.2.1 + 1))) 44 2 (nI (S.1 + 1))).1 (t + 3) S.2.1 = nI S.1 := by rw [am_wr_ne _ (by omega), am_wr_ne _ (by omega), am_wr_ne _ (by omega), am_wr_ne _ (by omega), am_wr_ne _ (by omega), am_wr_ne _ (by omega), am_wr_ne _ (by omega), am_wr_ne _ (by omega), am_wr_ne _ (by omega), am_same]
              have r4 : (am_wr (am_wr (am_wr (am_wr (am_wr (am_wr (am_wr (am_wr (am_wr (am_wr (am_wr (am_wr (μ, τ) (t + 1) S.2.1 (nI c)) (t + 2) S.2.1 (-1)) (t + 3) S.2.1 (nI S.1)) (t + 4) S.2.1 (-1)) (t + 5) S.2.1 (-1)) (t + 6) S.2.1 (nI S.2.1)) (t + 7) S.2.1 (nI S.2.1)) (t + 8) S.2.1 (nI 0)) (t + 8) S.2.1 (nI (2 ^ S.2.2.1))) t 9 (nI (S.2.2.1 + 1))) t 8 (nI (S.2.1 + 1))) 44 2 (nI (S.1 + 1))).1 (t + 4) S.2.1 = -1 := by rw [am_wr_ne _ (by omega), am_wr_ne _ (by omega), am_wr_ne _ (by omega), am_wr_ne _ (by omega), am_wr_ne _ (by omega), am_wr_ne _ (by omega), am_wr_ne _ (by omega), am_wr_ne _ (by omega), am_same]
              have r5 : (am_wr (am_wr (am_wr (am_wr (am_wr (am_wr (am_wr (am_wr (am_wr (am_wr (am_wr (am_wr (μ, τ) (t + 1) S.2.1 (nI c)) (t + 2) S.2.1 (-1)) (t + 3) S.2.1 (nI S.1)) (t + 4) S.2.1 (-1)) (t + 5) S.2.1 (-1)) (t + 6) S.2.1 (nI S.2.1)) (t + 7) S.2.1 (nI S.2.1)) (t + 8) S.2.1 (nI 0)) (t + 8) S.2.1 (nI (2 ^ S.2.2.1))) t 9 (nI (S.2.2.1 + 1))) t 8 (nI (S.2.1 + 1))) 44 2 (nI (S.1 + 1))).1 (t + 5) S.2.1 = -1 := by rw [am_wr_ne _ (by omega), am_wr_ne _ (by omega), am_wr_ne _ (by omega), am_wr_ne _ (by omega), am_wr_ne _ (by omega), am_wr_ne _ (by omega), am_wr_ne _ (by omega), am_same]
              have r6 : (am_wr (am_wr (am_wr (am_wr (am_wr (am_wr (am_wr (am_wr (am_wr (am_wr (am_wr (am_wr (μ, τ) (t + 1) S.2.1 (nI c)) (t + 2) S.2.1 (-1)) (t + 3) S.2.1 (nI S.1)) (t + 4) S.2.1 (-1)) (t + 5) S.2.1 (-1)) (t + 6) S.2.1 (nI S.2.1)) (t + 7) S.2.1 (nI S.2.1)) (t + 8) S.2.1 (nI 0)) (t + 8) S.2.1 (nI (2 ^ S.2.2.1))) t 9 (nI (S.2.2.1 + 1))) t 8 (nI (S.2.1 + 1))) 44 2 (nI (S.1 + 1))).1 (t + 6) S.2.1 = nI S.2.1 := by rw [am_wr_ne _ (by omega), am_wr_ne _ (by omega), am_wr_ne _ (by omega), am_wr_ne _ (by omega), am_wr_ne _ (by omega), am_wr_ne _ (by omega), am_same]
              have r7 : (am_wr (am_wr (am_wr (am_wr (am_wr (am_wr (am_wr (am_wr (am_wr (am_wr (am_wr (am_wr (μ, τ) (t + 1) S.2.1 (nI c)) (t + 2) S.2.1 (-1)) (t + 3) S.2.1 (nI S.1)) (t + 4) S.2.1 (-1)) (t + 5) S.2.1 (-1)) (t + 6) S.2.1 (nI S.2.1)) (t + 7) S.2.1 (nI S.2.1)) (t + 8) S.2.1 (nI 0)) (t + 8) S.2.1 (nI (2 ^ S.2.2.1))) t 9 (nI (S.2.2.1 + 1))) t 8 (nI (S.2.1 + 1))) 44 2 (nI (S.1 + 1))).1 (t + 7) S.2.1 = nI S.2.1 := by rw [am_wr_ne _ (by omega), am_wr_ne _ (by omega), am_wr_ne _ (by omega), am_wr_ne _ (by omega), am_wr_ne _ (by omega), am_same]
              have r8 : (am_wr (am_wr (am_wr (am_wr (am_wr (am_wr (am_wr (am_wr (am_wr (am_wr (am_wr (am_wr (μ, τ) (t + 1) S.2.1 (nI c)) (t + 2) S.2.1 (-1)) (t + 3) S.2.1 (nI S.1)) (t + 4) S.2.1 (-1)) (t + 5) S.2.1 (-1)) (t + 6) S.2.1 (nI S.2.1)) (t + 7) S.2.1 (nI S.2.1)) (t + 8) S.2.1 (nI 0)) (t + 8) S.2.1 (nI (2 ^ S.2.2.1))) t 9 (nI (S.2.2.1 + 1))) t 8 (nI (S.2.1 + 1))) 44 2 (nI (S.1 + 1))).1 (t + 8) S.2.1 = nI (2 ^ S.2.2.1) := by rw [am_wr_ne _ (by omega), am_wr_ne _ (by omega), am_wr_ne _ (by omega), am_same]
              exact RW.new (by omega) (fun z => by omega) r1 r2 r3 r4 r5 r6 r7 (by rw [r8, if_pos hp])
            · refine (c8 i (by omega)).old (fun a => if_neg e) (fun j hj => ?_)
              rcases (show j = 1 ∨ j = 2 ∨ j = 3 ∨ j = 4 ∨ j = 5 ∨ j = 6 ∨ j = 7 ∨ j = 8 by omega) with rfl | rfl | rfl | rfl | rfl | rfl | rfl | rfl
              · show (am_wr (am_wr (am_wr (am_wr (am_wr (am_wr (am_wr (am_wr (am_wr (am_wr (am_wr (am_wr (μ, τ) (t + 1) S.2.1 (nI c)) (t + 2) S.2.1 (-1)) (t + 3) S.2.1 (nI S.1)) (t + 4) S.2.1 (-1)) (t + 5) S.2.1 (-1)) (t + 6) S.2.1 (nI S.2.1)) (t + 7) S.2.1 (nI S.2.1)) (t + 8) S.2.1 (nI 0)) (t + 8) S.2.1 (nI (2 ^ S.2.2.1))) t 9 (nI (S.2.2.1 + 1))) t 8 (nI (S.2.1 + 1))) 44 2 (nI (S.1 + 1))).1 (t + 1) i = μ (t + 1) i
                rw [am_wr_ne _ (by omega), am_wr_ne _ (by omega), am_wr_ne _ (by omega), am_wr_ne _ (by omega), am_wr_ne _ (by omega), am_wr_ne _ (by omega), am_wr_ne _ (by omega), am_wr_ne _ (by omega), am_wr_ne _ (by omega), am_wr_ne _ (by omega), am_wr_ne _ (by omega), am_diff _ _ _ _ _ e]
              · show (am_wr (am_wr (am_wr (am_wr (am_wr (am_wr (am_wr (am_wr (am_wr (am_wr (am_wr (am_wr (μ, τ) (t + 1) S.2.1 (nI c)) (t + 2) S.2.1 (-1)) (t + 3) S.2.1 (nI S.1)) (t + 4) S.2.1 (-1)) (t + 5) S.2.1 (-1)) (t + 6) S.2.1 (nI S.2.1)) (t + 7) S.2.1 (nI S.2.1)) (t + 8) S.2.1 (nI 0)) (t + 8) S.2.1 (nI (2 ^ S.2.2.1))) t 9 (nI (S.2.2.1 + 1))) t 8 (nI (S.2.1 + 1))) 44 2 (nI (S.1 + 1))).1 (t + 2) i = μ (t + 2) i
                rw [am_wr_ne _ (by omega), am_wr_ne _ (by omega), am_wr_ne _ (by omega), am_wr_ne _ (by omega), am_wr_ne _ (by omega), am_wr_ne _ (by omega), am_wr_ne _ (by omega), am_wr_ne _ (by omega), am_wr_ne _ (by omega), am_wr_ne _ (by omega), am_diff _ _ _ _ _ e, am_wr_ne _ (by omega)]
              · show (am_wr (am_wr (am_wr (am_wr (am_wr (am_wr (am_wr (am_wr (am_wr (am_wr (am_wr (am_wr (μ, τ) (t + 1) S.2.1 (nI c)) (t + 2) S.2.1 (-1)) (t + 3) S.2.1 (nI S.1)) (t + 4) S.2.1 (-1)) (t + 5) S.2.1 (-1)) (t + 6) S.2.1 (nI S.2.1)) (t + 7) S.2.1 (nI S.2.1)) (t + 8) S.2.1 (nI 0)) (t + 8) S.2.1 (nI (2 ^ S.2.2.1))) t 9 (nI (S.2.2.1 + 1))) t 8 (nI (S.2.1 + 1))) 44 2 (nI (S.1 + 1))).1 (t + 3) i = μ (t + 3) i
                rw [am_wr_ne _ (by omega), am_wr_ne _ (by omega), am_wr_ne _ (by omega), am_wr_ne _ (by omega), am_wr_ne _ (by omega), am_wr_ne _ (by omega), am_wr_ne _ (by omega), am_wr_ne _ (by omega), am_wr_ne _ (by omega), am_diff _ _ _ _ _ e, am_wr_ne _ (by omega), am_wr_ne _ (by omega)]
              · show (am_wr (am_wr (am_wr (am_wr (am_wr (am_wr (am_wr (am_wr (am_wr (am_wr (am_wr (am_wr (μ, τ) (t + 1) S.2.1 (nI c)) (t + 2) S.2.1 (-1)) (t + 3) S.2.1 (nI S.1)) (t + 4) S.2.1 (-1)) (t + 5) S.2.1 (-1)) (t + 6) S.2.1 (nI S.2.1)) (t + 7) S.2.1 (nI S.2.1)) (t + 8) S.2.1 (nI 0)) (t + 8) S.2.1 (nI (2 ^ S.2.2.1))) t 9 (nI (S.2.2.1 + 1))) t 8 (nI (S.2.1 + 1))) 44 2 (nI (S.1 + 1))).1 (t + 4) i = μ (t + 4) i
                rw [am_wr_ne _ (by omega), am_wr_ne _ (by omega), am_wr_ne _ (by omega), am_wr_ne _ (by omega), am_wr_ne _ (by omega), am_wr_ne _ (by omega), am_wr_ne _ (by omega), am_wr_ne _ (by omega), am_diff _ _ _ _ _ e, am_wr_ne _ (by omega), am_wr_ne _ (by omega), am_wr_ne _ (by omega)]
              · show (am_wr (am_wr (am_wr (am_wr (am_wr (am_wr (am_wr (am_wr (am_wr (am_wr (am_wr (am_wr (μ, τ) (t + 1) S.2.1 (nI c)) (t + 2) S.2.1 (-1)) (t + 3) S.2.1 (nI S.1)) (t + 4) S.2.1 (-1)) (t + 5) S.2.1 (-1)) (t + 6) S.2.1 (nI S.2.1)) (t + 7) S.2.1 (nI S.2.1)) (t + 8) S.2.1 (nI 0)) (t + 8) S.2.1 (nI (2 ^ S.2.2.1))) t 9 (nI (S.2.2.1 + 1))) t 8 (nI (S.2.1 + 1))) 44 2 (nI (S.1 + 1))).1 (t + 5) i = μ (t + 5) i
                rw [am_wr_ne _ (by omega), am_wr_ne _ (by omega), am_wr_ne _ (by omega), am_wr_ne _ (by omega), am_wr_ne _ (by omega), am_wr_ne _ (by omega), am_wr_ne _ (by omega), am_diff _ _ _ _ _ e, am_wr_ne _ (by omega), am_wr_ne _ (by omega), am_wr_ne _ (by omega), am_wr_ne _ (by omega)]
              · show (am_wr (am_wr (am_wr (am_wr (am_wr (am_wr (am_wr (am_wr (am_wr (am_wr (am_wr (am_wr (μ, τ) (t + 1) S.2.1 (nI c)) (t + 2) S.2.1 (-1)) (t + 3) S.2.1 (nI S.1)) (t + 4) S.2.1 (-1)) (t + 5) S.2.1 (-1)) (t + 6) S.2.1 (nI S.2.1)) (t + 7) S.2.1 (nI S.2.1)) (t + 8) S.2.1 (nI 0)) (t + 8) S.2.1 (nI (2 ^ S.2.2.1))) t 9 (nI (S.2.2.1 + 1))) t 8 (nI (S.2.1 + 1))) 44 2 (nI (S.1 + 1))).1 (t + 6) i = μ (t + 6) i
                rw [am_wr_ne _ (by omega), am_wr_ne _ (by omega), am_wr_ne _ (by omega), am_wr_ne _ (by omega), am_wr_ne _ (by omega), am_wr_ne _ (by omega), am_diff _ _ _ _ _ e, am_wr_ne _ (by omega), am_wr_ne _ (by omega), am_wr_ne _ (by omega), am_wr_ne _ (by omega), am_wr_ne _ (by omega)]
              · show (am_wr (am_wr (am_wr (am_wr (am_wr (am_wr (am_wr (am_wr (am_wr (am_wr (am_wr (am_wr (μ, τ) (t + 1) S.2.1 (nI c)) (t + 2) S.2.1 (-1)) (t + 3) S.2.1 (nI S.1)) (t + 4) S.2.1 (-1)) (t + 5) S.2.1 (-1)) (t + 6) S.2.1 (nI S.2.1)) (t + 7) S.2.1 (nI S.2.1)) (t + 8) S.2.1 (nI 0)) (t + 8) S.2.1 (nI (2 ^ S.2.2.1))) t 9 (nI (S.2.2.1 + 1))) t 8 (nI (S.2.1 + 1))) 44 2 (nI (S.1 + 1))).1 (t + 7) i = μ (t + 7) i
                rw [am_wr_ne _ (by omega), am_wr_ne _ (by omega), am_wr_ne _ (by omega), am_wr_ne _ (by omega), am_wr_ne _ (by omega), am_diff _ _ _ _ _ e, am_wr_ne _ (by omega), am_wr_ne _ (by omega), am_wr_ne _ (by omega), am_wr_ne _ (by omega), am_wr_ne _ (by omega), am_wr_ne _ (by omega)]
              · show (am_wr (am_wr (am_wr (am_wr (am_wr (am_wr (am_wr (am_wr (am_wr (am_wr (am_wr (am_wr (μ, τ) (t + 1) S.2.1 (nI c)) (t + 2) S.2.1 (-1)) (t + 3) S.2.1 (nI S.1)) (t + 4) S.2.1 (-1)) (t + 5) S.2.1 (-1)) (t + 6) S.2.1 (nI S.2.1)) (t + 7) S.2.1 (nI S.2.1)) (t + 8) S.2.1 (nI 0)) (t + 8) S.2.1 (nI (2 ^ S.2.2.1))) t 9 (nI (S.2.2.1 + 1))) t 8 (nI (S.2.1 + 1))) 44 2 (nI (S.1 + 1))).1 (t + 8) i = μ (t + 8) i
                rw [am_wr_ne _ (by omega), am_wr_ne _ (by omega), am_wr_ne _ (by omega), am_diff _ _ _ _ _ e, am_diff _ _ _ _ _ e, am_wr_ne _ (by omega), am_wr_ne _ (by omega), am_wr_ne _ (by omega), am_wr_ne _ (by omega), am_wr_ne _ (by omega), am_wr_ne _ (by omega), am_wr_ne _ (by omega)]
      · skip
        by_cases h36b : c = 36
        · skip
          refine am_enter' (M := M_X6_begin) rfl rfl rfl (by omega) (ls := [some (.ref 44), some (.int (nI c)), some (.int (nI lc)), none]) rfl (fun d' hd' => ?_)
          refine am_run 2 (pc' := 4) (ls' := [some (.ref 44), some (.int (nI c)), some (.int (nI lc)), none]) (st' := [.ref (τ 44 1)]) (σ' := (μ, τ)) rfl ?_
          refine am_stk (st' := [.ref t]) (by rw [ht]) ?_
          refine am_run 1 (pc' := 5) (ls' := [some (.ref 44), some (.int (nI c)), some (.int (nI lc)), none]) (st' := [.int (nI c), .ref t]) (σ' := (μ, τ)) rfl ?_
          refine am_invv (y := 107) (b := t) (as := [.int (nI c)]) (rest := []) rfl rfl rfl rfl rfl rfl (t3_kind hT3) (Nat.le_of_ble_eq_true rfl) ?_
          refine am_enter' rfl rfl rfl (by omega) (ls := [some (.ref t), some (.int (nI c))]) rfl (fun d_1 hd_1 => ?_)
          refine am_run 1 (pc' := 1) (ls' := [some (.ref t), some (.int (nI c))]) (st' := [.ref t]) (σ' := (μ, τ)) rfl ?_
          refine am_getI (k := 8) rfl rfl (t3_kind hT3) rfl ?_
          refine am_top (v' := nI S.2.1) (c6) ?_
          refine am_run 1 (pc' := 6) (ls' := [some (.ref t), some (.int (nI c))]) (st' := [.int (nI 60), .int (nI S.2.1)]) (σ' := (μ, τ)) rfl ?_
          refine am_ic (ty := 9) (tn := 29) rfl (by decide) rfl rfl (fun (h_2 : nI S.2.1 < nI 60) => ?_) (fun (h_2 : ¬ (nI S.2.1 < nI 60)) => ?_)
          rotate_left
          · have h_2 : ¬ (S.2.1 < 60) := fun z => h_2 ((nI_ltI (by omega) (by omega)).mpr z)
            omega
          have h_2 : S.2.1 < 60 := (nI_ltI (by omega) (by omega)).mp h_2
          refine am_run 1 (pc' := 10) (ls' := [some (.ref t), some (.int (nI c))]) (st' := [.int (nI c)]) (σ' := (μ, τ)) rfl ?_
          refine am_invs (y := 108) (as := [.int (nI c)]) (rest := []) rfl rfl rfl rfl rfl rfl (Nat.le_of_ble_eq_true rfl) ?_
          refine c_isPP (by omega) hc (fun z => absurd (hp.symm.trans z) (by decide)) (fun _ => ?_)
          show am_G _ M_X8_hasRoomFor _ 13 [some (.ref t), some (.int (nI c))] [.int (nI 0)] (μ, τ)
          refine am_if (ty := 25) (tn := 16) rfl (by decide) rfl rfl (fun (h_3 : nI 0 = 0) => ?_) (fun (h_3 : ¬ (nI 0 = 0)) => ?_)
          rotate_left
          · exact absurd (by decide) h_3
          refine am_run 2 (pc' := 30) (ls' := [some (.ref t), some (.int (nI c))]) (st' := [.int (nI 1)]) (σ' := (μ, τ)) rfl ?_
          refine am_retz rfl rfl (by decide) ?_
          show am_G _ M_X6_begin _ 8 [some (.ref 44), some (.int (nI c)), some (.int (nI lc)), none] [.int (nI 1)] (μ, τ)
          refine am_if (ty := 11) (tn := 19) rfl (by decide) rfl rfl (fun (h_4 : nI 1 = 0) => ?_) (fun (h_4 : ¬ (nI 1 = 0)) => ?_)
          · exact absurd h_4 (by decide)
          refine am_run 2 (pc' := 22) (ls' := [some (.ref 44), some (.int (nI c)), some (.int (nI lc)), none]) (st' := [.int (nI 36), .int (nI c)]) (σ' := (μ, τ)) rfl ?_
          refine am_ic (ty := 25) (tn := 35) rfl (by decide) rfl rfl (fun (h_5 : nI c = nI 36) => ?_) (fun (h_5 : ¬ (nI c = nI 36)) => ?_)
          rotate_left
          · have h_5 : ¬ (c = 36) := fun z => h_5 ((nI_eq (by omega) (by omega)).mpr z)
            omega
          have h_5 : c = 36 := (nI_eq (by omega) (by omega)).mp h_5
          refine am_run 2 (pc' := 27) (ls' := [some (.ref 44), some (.int (nI c)), some (.int (nI lc)), none]) (st' := [.int (nI 3), .int (nI lc)]) (σ' := (μ, τ)) rfl ?_
          refine am_ic (ty := 35) (tn := 30) rfl (by decide) rfl rfl (fun (h_6 : nI lc < nI 3) => ?_) (fun (h_6 : ¬ (nI lc < nI 3)) => ?_)
          rotate_left
          · have h_6 : ¬ (lc < 3) := fun z => h_6 ((nI_ltI (by omega) (by omega)).mpr z)
            omega
          have h_6 : lc < 3 := (nI_ltI (by omega) (by omega)).mp h_6
          refine am_run 1 (pc' := 36) (ls' := [some (.ref 44), some (.int (nI c)), some (.int (nI lc)), none]) (st' := [.ref 44]) (σ' := (μ, τ)) rfl ?_
          refine am_invv (y := 83) (b := 44) (as := []) (rest := []) rfl rfl rfl rfl rfl rfl rfl (Nat.le_of_ble_eq_true rfl) ?_
          refine am_enter' rfl rfl rfl (by omega) (ls := [some (.ref 44)]) rfl (fun d_7 hd_7 => ?_)
          refine am_run 2 (pc' := 4) (ls' := [some (.ref 44)]) (st' := [.int ((μ, τ).1 44 3)]) (σ' := (μ, τ)) rfl ?_
          refine am_top (v' := nI 0) (c5) ?_
          refine am_if (ty := 7) (tn := 11) rfl (by decide) rfl rfl (fun (h_8 : nI 0 = 0) => ?_) (fun (h_8 : ¬ (nI 0 = 0)) => ?_)
          rotate_left
          · exact absurd (by decide) h_8
          refine am_run 2 (pc' := 12) (ls' := [some (.ref 44)]) (st' := [.int (nI 1)]) (σ' := (μ, τ)) rfl ?_
          refine am_retz rfl rfl (by decide) ?_
          show am_G _ M_X6_begin _ 39 [some (.ref 44), some (.int (nI c)), some (.int (nI lc)), none] [.int (nI 1)] (μ, τ)
          refine am_if (ty := 42) (tn := 44) rfl (by decide) rfl rfl (fun (h_9 : nI 1 = 0) => ?_) (fun (h_9 : ¬ (nI 1 = 0)) => ?_)
          · exact absurd h_9 (by decide)
          refine am_run 2 (pc' := 48) (ls' := [some (.ref 44), some (.int (nI c)), some (.int (nI lc)), none]) (st' := [.ref (τ 44 1)]) (σ' := (μ, τ)) rfl ?_
          refine am_stk (st' := [.ref t]) (by rw [ht]) ?_
          refine am_run 3 (pc' := 53) (ls' := [some (.ref 44), some (.int (nI c)), some (.int (nI lc)), none]) (st' := [.int ((μ, τ).1 44 2), .int (nI c), .ref t]) (σ' := (μ, τ)) rfl ?_
          refine am_top (v' := nI S.1) (c4) ?_
          refine am_invv (y := 109) (b := t) (as := [.int (nI c), .int (nI S.1)]) (rest := []) rfl rfl rfl rfl rfl rfl (t3_kind hT3) (Nat.le_of_ble_eq_true rfl) ?_
          refine am_enter' rfl rfl rfl (by omega) (ls := [some (.ref t), some (.int (nI c)), some (.int (nI S.1)), none]) rfl (fun d_10 hd_10 => ?_)
          refine am_run 2 (pc' := 2) (ls' := [some (.ref t), some (.int (nI c)), some (.int (nI S.1)), none]) (st' := [.int (nI c), .ref t]) (σ' := (μ, τ)) rfl ?_
          refine am_invv (y := 107) (b := t) (as := [.int (nI c)]) (rest := []) rfl rfl rfl rfl rfl rfl (t3_kind hT3) (Nat.le_of_ble_eq_true rfl) ?_
          refine am_enter' rfl rfl rfl (by omega) (ls := [some (.ref t), some (.int (nI c))]) rfl (fun d_11 hd_11 => ?_)
          refine am_run 1 (pc' := 1) (ls' := [some (.ref t), some (.int (nI c))]) (st' := [.ref t]) (σ' := (μ, τ)) rfl ?_
          refine am_getI (k := 8) rfl rfl (t3_kind hT3) rfl ?_
          refine am_top (v' := nI S.2.1) (c6) ?_
          refine am_run 1 (pc' := 6) (ls' := [some (.ref t), some (.int (nI c))]) (st' := [.int (nI 60), .int (nI S.2.1)]) (σ' := (μ, τ)) rfl ?_
          refine am_ic (ty := 9) (tn := 29) rfl (by decide) rfl rfl (fun (h_12 : nI S.2.1 < nI 60) => ?_) (fun (h_12 : ¬ (nI S.2.1 < nI 60)) => ?_)
          rotate_left
          · have h_12 : ¬ (S.2.1 < 60) := fun z => h_12 ((nI_ltI (by omega) (by omega)).mpr z)
            omega
          have h_12 : S.2.1 < 60 := (nI_ltI (by omega) (by omega)).mp h_12
          refine am_run 1 (pc' := 10) (ls' := [some (.ref t), some (.int (nI c))]) (st' := [.int (nI c)]) (σ' := (μ, τ)) rfl ?_
          refine am_invs (y := 108) (as := [.int (nI c)]) (rest := []) rfl rfl rfl rfl rfl rfl (Nat.le_of_ble_eq_true rfl) ?_
          refine c_isPP (by omega) hc (fun z => absurd (hp.symm.trans z) (by decide)) (fun _ => ?_)
          show am_G _ M_X8_hasRoomFor _ 13 [some (.ref t), some (.int (nI c))] [.int (nI 0)] (μ, τ)
          refine am_if (ty := 25) (tn := 16) rfl (by decide) rfl rfl (fun (h_13 : nI 0 = 0) => ?_) (fun (h_13 : ¬ (nI 0 = 0)) => ?_)
          rotate_left
          · exact absurd (by decide) h_13
          refine am_run 2 (pc' := 30) (ls' := [some (.ref t), some (.int (nI c))]) (st' := [.int (nI 1)]) (σ' := (μ, τ)) rfl ?_
          refine am_retz rfl rfl (by decide) ?_
          show am_G _ M_X8_add _ 5 [some (.ref t), some (.int (nI c)), some (.int (nI S.1)), none] [.int (nI 1)] (μ, τ)
          refine am_if (ty := 15) (tn := 8) rfl (by decide) rfl rfl (fun (h_14 : nI 1 = 0) => ?_) (fun (h_14 : ¬ (nI 1 = 0)) => ?_)
          · exact absurd h_14 (by decide)
          refine am_run 1 (pc' := 9) (ls' := [some (.ref t), some (.int (nI c)), some (.int (nI S.1)), none]) (st' := [.ref t]) (σ' := (μ, τ)) rfl ?_
          refine am_getI (k := 8) rfl rfl (t3_kind hT3) rfl ?_
          refine am_top (v' := nI S.2.1) (c6) ?_
          refine am_if (ty := 15) (tn := 17) rfl (by decide) rfl rfl (fun (h_15 : nI S.2.1 < 0) => ?_) (fun (h_15 : ¬ (nI S.2.1 < 0)) => ?_)
          · have h_15 : S.2.1 < 0 := (am_nlt0 (by omega)).mp h_15
            exact absurd h_15 (Nat.not_lt_zero _)
          have h_15 : ¬ (S.2.1 < 0) := fun z => h_15 ((am_nlt0 (by omega)).mpr z)
          refine am_run 1 (pc' := 18) (ls' := [some (.ref t), some (.int (nI c)), some (.int (nI S.1)), none]) (st' := [.ref t]) (σ' := (μ, τ)) rfl ?_
          refine am_getI (k := 8) rfl rfl (t3_kind hT3) rfl ?_
          refine am_top (v' := nI S.2.1) (c6) ?_
          refine am_run 2 (pc' := 23) (ls' := [some (.ref t), some (.int (nI c)), some (.int (nI S.1)), some (.int (nI S.2.1))]) (st' := [.ref t]) (σ' := (μ, τ)) rfl ?_
          refine am_getT hT3 (k := 0) (k1 := 1) rfl rfl rfl (by decide) rfl ?_
          refine am_run 2 (pc' := 28) (ls' := [some (.ref t), some (.int (nI c)), some (.int (nI S.1)), some (.int (nI S.2.1))]) (st' := [.int (nI c), .int (nI S.2.1), .ref (t + 1)]) (σ' := (μ, τ)) rfl ?_
          refine am_iastN (n := 60) rfl (t3_arr hT3 (by decide)).1 (t3_arr hT3 (by decide)).2 (by omega) (by decide) ?_
          refine am_run 1 (pc' := 30) (ls' := [some (.ref t), some (.int (nI c)), some (.int (nI S.1)), some (.int (nI S.2.1))]) (st' := [.ref t]) (σ' := (am_wr (μ, τ) (t + 1) S.2.1 (nI c))) rfl ?_
          refine am_getT hT3 (k := 1) (k1 := 2) rfl rfl rfl (by decide) rfl ?_
          refine am_run 2 (pc' := 35) (ls' := [some (.ref t), some (.int (nI c)), some (.int (nI S.1)), some (.int (nI S.2.1))]) (st' := [.int (-1), .int (nI S.2.1), .ref (t + 2)]) (σ' := (am_wr (μ, τ) (t + 1) S.2.1 (nI c))) rfl ?_
          refine am_iastN (n := 60) rfl (t3_arr hT3 (by decide)).1 (t3_arr hT3 (by decide)).2 (by omega) (by decide) ?_
          refine am_run 1 (pc' := 37) (ls' := [some (.ref t), some (.int (nI c)), some (.int (nI S.1)), some (.int (nI S.2.1))]) (st' := [.ref t]) (σ' := (am_wr (am_wr (μ, τ) (t + 1) S.2.1 (nI c)) (t + 2) S.2.1 (-1))) rfl ?_
          refine am_getT hT3 (k := 2) (k1 := 3) rfl rfl rfl (by decide) rfl ?_
          refine am_run 2 (pc' := 42) (ls' := [some (.ref t), some (.int (nI c)), some (.int (nI S.1)), some (.int (nI S.2.1))]) (st' := [.int (nI S.1), .int (nI S.2.1), .ref (t + 3)]) (σ' := (am_wr (am_wr (μ, τ) (t + 1) S.2.1 (nI c)) (t + 2) S.2.1 (-1))) rfl ?_
          refine am_iastN (n := 60) rfl (t3_arr hT3 (by decide)).1 (t3_arr hT3 (by decide)).2 (by omega) (by decide) ?_
          refine am_run 1 (pc' := 44) (ls' := [some (.ref t), some (.int (nI c)), some (.int (nI S.1)), some (.int (nI S.2.1))]) (st' := [.ref t]) (σ' := (am_wr (am_wr (am_wr (μ, τ) (t + 1) S.2.1 (nI c)) (t + 2) S.2.1 (-1)) (t + 3) S.2.1 (nI S.1))) rfl ?_
          refine am_getT hT3 (k := 3) (k1 := 4) rfl rfl rfl (by decide) rfl ?_
          refine am_run 2 (pc' := 49) (ls' := [some (.ref t), some (.int (nI c)), some (.int (nI S.1)), some (.int (nI S.2.1))]) (st' := [.int (-1), .int (nI S.2.1), .ref (t + 4)]) (σ' := (am_wr (am_wr (am_wr (μ, τ) (t + 1) S.2.1 (nI c)) (t + 2) S.2.1 (-1)) (t + 3) S.2.1 (nI S.1))) rfl ?_
          refine am_iastN (n := 60) rfl (t3_arr hT3 (by decide)).1 (t3_arr hT3 (by decide)).2 (by omega) (by decide) ?_
          refine am_run 1 (pc' := 51) (ls' := [some (.ref t), some (.int (nI c)), some (.int (nI S.1)), some (.int (nI S.2.1))]) (st' := [.ref t]) (σ' := (am_wr (am_wr (am_wr (am_wr (μ, τ) (t + 1) S.2.1 (nI c)) (t + 2) S.2.1 (-1)) (t + 3) S.2.1 (nI S.1)) (t + 4) S.2.1 (-1))) rfl ?_
          refine am_getT hT3 (k := 4) (k1 := 5) rfl rfl rfl (by decide) rfl ?_
          refine am_run 2 (pc' := 56) (ls' := [some (.ref t), some (.int (nI c)), some (.int (nI S.1)), some (.int (nI S.2.1))]) (st' := [.int (-1), .int (nI S.2.1), .ref (t + 5)]) (σ' := (am_wr (am_wr (am_wr (am_wr (μ, τ) (t + 1) S.2.1 (nI c)) (t + 2) S.2.1 (-1)) (t + 3) S.2.1 (nI S.1)) (t + 4) S.2.1 (-1))) rfl ?_
          refine am_iastN (n := 60) rfl (t3_arr hT3 (by decide)).1 (t3_arr hT3 (by decide)).2 (by omega) (by decide) ?_
          refine am_run 1 (pc' := 58) (ls' := [some (.ref t), some (.int (nI c)), some (.int (nI S.1)), some (.int (nI S.2.1))]) (st' := [.ref t]) (σ' := (am_wr (am_wr (am_wr (am_wr (am_wr (μ, τ) (t + 1) S.2.1 (nI c)) (t + 2) S.2.1 (-1)) (t + 3) S.2.1 (nI S.1)) (t + 4) S.2.1 (-1)) (t + 5) S.2.1 (-1))) rfl ?_
          refine am_getT hT3 (k := 5) (k1 := 6) rfl rfl rfl (by decide) rfl ?_
          refine am_run 2 (pc' := 63) (ls' := [some (.ref t), some (.int (nI c)), some (.int (nI S.1)), some (.int (nI S.2.1))]) (st' := [.int (nI S.2.1), .int (nI S.2.1), .ref (t + 6)]) (σ' := (am_wr (am_wr (am_wr (am_wr (am_wr (μ, τ) (t + 1) S.2.1 (nI c)) (t + 2) S.2.1 (-1)) (t + 3) S.2.1 (nI S.1)) (t + 4) S.2.1 (-1)) (t + 5) S.2.1 (-1))) rfl ?_
          refine am_iastN (n := 60) rfl (t3_arr hT3 (by decide)).1 (t3_arr hT3 (by decide)).2 (by omega) (by decide) ?_
          refine am_run 1 (pc' := 65) (ls' := [some (.ref t), some (.int (nI c)), some (.int (nI S.1)), some (.int (nI S.2.1))]) (st' := [.ref t]) (σ' := (am_wr (am_wr (am_wr (am_wr (am_wr (am_wr (μ, τ) (t + 1) S.2.1 (nI c)) (t + 2) S.2.1 (-1)) (t + 3) S.2.1 (nI S.1)) (t + 4) S.2.1 (-1)) (t + 5) S.2.1 (-1)) (t + 6) S.2.1 (nI S.2.1))) rfl ?_
          refine am_getT hT3 (k := 6) (k1 := 7) rfl rfl rfl (by decide) rfl ?_
          refine am_run 2 (pc' := 70) (ls' := [some (.ref t), some (.int (nI c)), some (.int (nI S.1)), some (.int (nI S.2.1))]) (st' := [.int (nI S.2.1), .int (nI S.2.1), .ref (t + 7)]) (σ' := (am_wr (am_wr (am_wr (am_wr (am_wr (am_wr (μ, τ) (t + 1) S.2.1 (nI c)) (t + 2) S.2.1 (-1)) (t + 3) S.2.1 (nI S.1)) (t + 4) S.2.1 (-1)) (t + 5) S.2.1 (-1)) (t + 6) S.2.1 (nI S.2.1))) rfl ?_
          refine am_iastN (n := 60) rfl (t3_arr hT3 (by decide)).1 (t3_arr hT3 (by decide)).2 (by omega) (by decide) ?_
          refine am_run 1 (pc' := 72) (ls' := [some (.ref t), some (.int (nI c)), some (.int (nI S.1)), some (.int (nI S.2.1))]) (st' := [.ref t]) (σ' := (am_wr (am_wr (am_wr (am_wr (am_wr (am_wr (am_wr (μ, τ) (t + 1) S.2.1 (nI c)) (t + 2) S.2.1 (-1)) (t + 3) S.2.1 (nI S.1)) (t + 4) S.2.1 (-1)) (t + 5) S.2.1 (-1)) (t + 6) S.2.1 (nI S.2.1)) (t + 7) S.2.1 (nI S.2.1))) rfl ?_
          refine am_getT hT3 (k := 7) (k1 := 8) rfl rfl rfl (by decide) rfl ?_
          refine am_run 2 (pc' := 77) (ls' := [some (.ref t), some (.int (nI c)), some (.int (nI S.1)), some (.int (nI S.2.1))]) (st' := [.int (nI 0), .int (nI S.2.1), .ref (t + 8)]) (σ' := (am_wr (am_wr (am_wr (am_wr (am_wr (am_wr (am_wr (μ, τ) (t + 1) S.2.1 (nI c)) (t + 2) S.2.1 (-1)) (t + 3) S.2.1 (nI S.1)) (t + 4) S.2.1 (-1)) (t + 5) S.2.1 (-1)) (t + 6) S.2.1 (nI S.2.1)) (t + 7) S.2.1 (nI S.2.1))) rfl ?_
          refine am_iastN (n := 60) rfl (t3_arr hT3 (by decide)).1 (t3_arr hT3 (by decide)).2 (by omega) (by decide) ?_
          refine am_run 1 (pc' := 79) (ls' := [some (.ref t), some (.int (nI c)), some (.int (nI S.1)), some (.int (nI S.2.1))]) (st' := [.int (nI c)]) (σ' := (am_wr (am_wr (am_wr (am_wr (am_wr (am_wr (am_wr (am_wr (μ, τ) (t + 1) S.2.1 (nI c)) (t + 2) S.2.1 (-1)) (t + 3) S.2.1 (nI S.1)) (t + 4) S.2.1 (-1)) (t + 5) S.2.1 (-1)) (t + 6) S.2.1 (nI S.2.1)) (t + 7) S.2.1 (nI S.2.1)) (t + 8) S.2.1 (nI 0))) rfl ?_
          refine am_invs (y := 108) (as := [.int (nI c)]) (rest := []) rfl rfl rfl rfl rfl rfl (Nat.le_of_ble_eq_true rfl) ?_
          refine c_isPP (by omega) hc (fun z => absurd (hp.symm.trans z) (by decide)) (fun _ => ?_)
          show am_G _ M_X8_add _ 82 [some (.ref t), some (.int (nI c)), some (.int (nI S.1)), some (.int (nI S.2.1))] [.int (nI 0)] (am_wr (am_wr (am_wr (am_wr (am_wr (am_wr (am_wr (am_wr (μ, τ) (t + 1) S.2.1 (nI c)) (t + 2) S.2.1 (-1)) (t + 3) S.2.1 (nI S.1)) (t + 4) S.2.1 (-1)) (t + 5) S.2.1 (-1)) (t + 6) S.2.1 (nI S.2.1)) (t + 7) S.2.1 (nI S.2.1)) (t + 8) S.2.1 (nI 0))
          refine am_if (ty := 107) (tn := 85) rfl (by decide) rfl rfl (fun (h_16 : nI 0 = 0) => ?_) (fun (h_16 : ¬ (nI 0 = 0)) => ?_)
          rotate_left
          · exact absurd (by decide) h_16
          refine am_run 2 (pc' := 109) (ls' := [some (.ref t), some (.int (nI c)), some (.int (nI S.1)), some (.int (nI S.2.1))]) (st' := [.ref t, .ref t]) (σ' := (am_wr (am_wr (am_wr (am_wr (am_wr (am_wr (am_wr (am_wr (μ, τ) (t + 1) S.2.1 (nI c)) (t + 2) S.2.1 (-1)) (t + 3) S.2.1 (nI S.1)) (t + 4) S.2.1 (-1)) (t + 5) S.2.1 (-1)) (t + 6) S.2.1 (nI S.2.1)) (t + 7) S.2.1 (nI S.2.1)) (t + 8) S.2.1 (nI 0))) rfl ?_
          refine am_getI (k := 8) rfl rfl (t3_kind hT3) rfl ?_
          refine am_top (v' := nI S.2.1) (by rw [am_wr_ne _ (by omega), am_wr_ne _ (by omega), am_wr_ne _ (by omega), am_wr_ne _ (by omega), am_wr_ne _ (by omega), am_wr_ne _ (by omega), am_wr_ne _ (by omega), am_wr_ne _ (by omega)]; exact c6) ?_
          refine am_run 2 (pc' := 114) (ls' := [some (.ref t), some (.int (nI c)), some (.int (nI S.1)), some (.int (nI S.2.1))]) (st' := [.int (nI S.2.1 + nI 1), .ref t]) (σ' := (am_wr (am_wr (am_wr (am_wr (am_wr (am_wr (am_wr (am_wr (μ, τ) (t + 1) S.2.1 (nI c)) (t + 2) S.2.1 (-1)) (t + 3) S.2.1 (nI S.1)) (t + 4) S.2.1 (-1)) (t + 5) S.2.1 (-1)) (t + 6) S.2.1 (nI S.2.1)) (t + 7) S.2.1 (nI S.2.1)) (t + 8) S.2.1 (nI 0))) rfl ?_
          refine am_top (v' := nI (S.2.1 + 1)) (nI_add _ _) ?_
          refine am_putI (k := 8) rfl rfl (t3_kind hT3) rfl ?_
          refine am_run 1 (pc' := 118) (ls' := [some (.ref t), some (.int (nI c)), some (.int (nI S.1)), some (.int (nI S.2.1))]) (st' := [.int (nI S.2.1)]) (σ' := (am_wr (am_wr (am_wr (am_wr (am_wr (am_wr (am_wr (am_wr (am_wr (μ, τ) (t + 1) S.2.1 (nI c)) (t + 2) S.2.1 (-1)) (t + 3) S.2.1 (nI S.1)) (t + 4) S.2.1 (-1)) (t + 5) S.2.1 (-1)) (t + 6) S.2.1 (nI S.2.1)) (t + 7) S.2.1 (nI S.2.1)) (t + 8) S.2.1 (nI 0)) t 8 (nI (S.2.1 + 1)))) rfl ?_
          refine am_reti rfl rfl ?_
          show am_G _ M_X6_begin _ 56 [some (.ref 44), some (.int (nI c)), some (.int (nI lc)), none] [.int (nI S.2.1)] (am_wr (am_wr (am_wr (am_wr (am_wr (am_wr (am_wr (am_wr (am_wr (μ, τ) (t + 1) S.2.1 (nI c)) (t + 2) S.2.1 (-1)) (t + 3) S.2.1 (nI S.1)) (t + 4) S.2.1 (-1)) (t + 5) S.2.1 (-1)) (t + 6) S.2.1 (nI S.2.1)) (t + 7) S.2.1 (nI S.2.1)) (t + 8) S.2.1 (nI 0)) t 8 (nI (S.2.1 + 1)))
          refine am_run 4 (pc' := 62) (ls' := [some (.ref 44), some (.int (nI c)), some (.int (nI lc)), some (.int (nI S.2.1))]) (st' := [.int ((am_wr (am_wr (am_wr (am_wr (am_wr (am_wr (am_wr (am_wr (am_wr (μ, τ) (t + 1) S.2.1 (nI c)) (t + 2) S.2.1 (-1)) (t + 3) S.2.1 (nI S.1)) (t + 4) S.2.1 (-1)) (t + 5) S.2.1 (-1)) (t + 6) S.2.1 (nI S.2.1)) (t + 7) S.2.1 (nI S.2.1)) (t + 8) S.2.1 (nI 0)) t 8 (nI (S.2.1 + 1))).1 44 2), .ref 44]) (σ' := (am_wr (am_wr (am_wr (am_wr (am_wr (am_wr (am_wr (am_wr (am_wr (μ, τ) (t + 1) S.2.1 (nI c)) (t + 2) S.2.1 (-1)) (t + 3) S.2.1 (nI S.1)) (t + 4) S.2.1 (-1)) (t + 5) S.2.1 (-1)) (t + 6) S.2.1 (nI S.2.1)) (t + 7) S.2.1 (nI S.2.1)) (t + 8) S.2.1 (nI 0)) t 8 (nI (S.2.1 + 1)))) rfl ?_
          refine am_top (v' := nI S.1) (by rw [am_wr_ne _ (by omega), am_wr_ne _ (by omega), am_wr_ne _ (by omega), am_wr_ne _ (by omega), am_wr_ne _ (by omega), am_wr_ne _ (by omega), am_wr_ne _ (by omega), am_wr_ne _ (by omega), am_wr_ne _ (by omega)]; exact c4) ?_
          refine am_run 2 (pc' := 64) (ls' := [some (.ref 44), some (.int (nI c)), some (.int (nI lc)), some (.int (nI S.2.1))]) (st' := [.int (nI S.1 + nI 1), .ref 44]) (σ' := (am_wr (am_wr (am_wr (am_wr (am_wr (am_wr (am_wr (am_wr (am_wr (μ, τ) (t + 1) S.2.1 (nI c)) (t + 2) S.2.1 (-1)) (t + 3) S.2.1 (nI S.1)) (t + 4) S.2.1 (-1)) (t + 5) S.2.1 (-1)) (t + 6) S.2.1 (nI S.2.1)) (t + 7) S.2.1 (nI S.2.1)) (t + 8) S.2.1 (nI 0)) t 8 (nI (S.2.1 + 1)))) rfl ?_
          refine am_top (v' := nI (S.1 + 1)) (nI_add _ _) ?_
          refine am_run 2 (pc' := 68) (ls' := [some (.ref 44), some (.int (nI c)), some (.int (nI lc)), some (.int (nI S.2.1))]) (st' := [.int (nI S.2.1)]) (σ' := (am_wr (am_wr (am_wr (am_wr (am_wr (am_wr (am_wr (am_wr (am_wr (am_wr (μ, τ) (t + 1) S.2.1 (nI c)) (t + 2) S.2.1 (-1)) (t + 3) S.2.1 (nI S.1)) (t + 4) S.2.1 (-1)) (t + 5) S.2.1 (-1)) (t + 6) S.2.1 (nI S.2.1)) (t + 7) S.2.1 (nI S.2.1)) (t + 8) S.2.1 (nI 0)) t 8 (nI (S.2.1 + 1))) 44 2 (nI (S.1 + 1)))) rfl ?_
          refine am_reti rfl rfl ?_
          have hK : KC μ (am_wr (am_wr (am_wr (am_wr (am_wr (am_wr (am_wr (am_wr (am_wr (am_wr (μ, τ) (t + 1) S.2.1 (nI c)) (t + 2) S.2.1 (-1)) (t + 3) S.2.1 (nI S.1)) (t + 4) S.2.1 (-1)) (t + 5) S.2.1 (-1)) (t + 6) S.2.1 (nI S.2.1)) (t + 7) S.2.1 (nI S.2.1)) (t + 8) S.2.1 (nI 0)) t 8 (nI (S.2.1 + 1))) 44 2 (nI (S.1 + 1))).1 t := (((((((((((KC.rf μ t).wt (by omega) _ _).wt (by omega) _ _).wt (by omega) _ _).wt (by omega) _ _).wt (by omega) _ _).wt (by omega) _ _).wt (by omega) _ _).wt (by omega) _ _).wt (by omega) _ _).w44 _ _)
          have f2 : (am_wr (am_wr (am_wr (am_wr (am_wr (am_wr (am_wr (am_wr (am_wr (am_wr (μ, τ) (t + 1) S.2.1 (nI c)) (t + 2) S.2.1 (-1)) (t + 3) S.2.1 (nI S.1)) (t + 4) S.2.1 (-1)) (t + 5) S.2.1 (-1)) (t + 6) S.2.1 (nI S.2.1)) (t + 7) S.2.1 (nI S.2.1)) (t + 8) S.2.1 (nI 0)) t 8 (nI (S.2.1 + 1))) 44 2 (nI (S.1 + 1))).1 44 2 = nI (S.1 + 1) := by rw [am_same]
          have f8 : (am_wr (am_wr (am_wr (am_wr (am_wr (am_wr (am_wr (am_wr (am_wr (am_wr (μ, τ) (t + 1) S.2.1 (nI c)) (t + 2) S.2.1 (-1)) (t + 3) S.2.1 (nI S.1)) (t + 4) S.2.1 (-1)) (t + 5) S.2.1 (-1)) (t + 6) S.2.1 (nI S.2.1)) (t + 7) S.2.1 (nI S.2.1)) (t + 8) S.2.1 (nI 0)) t 8 (nI (S.2.1 + 1))) 44 2 (nI (S.1 + 1))).1 t 8 = nI (S.2.1 + 1) := by rw [am_wr_ne _ (by omega), am_same]
          refine hS (am_wr (am_wr (am_wr (am_wr (am_wr (am_wr (am_wr (am_wr (am_wr (am_wr (μ, τ) (t + 1) S.2.1 (nI c)) (t + 2) S.2.1 (-1)) (t + 3) S.2.1 (nI S.1)) (t + 4) S.2.1 (-1)) (t + 5) S.2.1 (-1)) (t + 6) S.2.1 (nI S.2.1)) (t + 7) S.2.1 (nI S.2.1)) (t + 8) S.2.1 (nI 0)) t 8 (nI (S.2.1 + 1))) 44 2 (nI (S.1 + 1))).1 (by unfold p_beg; rw [if_neg hr, if_neg h36]) hK (hK.xc hT3 hX) ⟨by show S.1 + 1 ≤ L; omega, by show S.2.1 + 1 ≤ 60; omega, by show S.2.2.1 + (if isP c = true then 1 else 0) ≤ 20; rw [if_neg (nfl hp)]; omega, f2, by rw [am_diff _ _ _ _ _ (by decide), am_wr_ne _ (by omega), am_wr_ne _ (by omega), am_wr_ne _ (by omega), am_wr_ne _ (by omega), am_wr_ne _ (by omega), am_wr_ne _ (by omega), am_wr_ne _ (by omega), am_wr_ne _ (by omega), am_wr_ne _ (by omega)]; exact c5, f8, ?_, fun i hi => ?_⟩
          · show (am_wr (am_wr (am_wr (am_wr (am_wr (am_wr (am_wr (am_wr (am_wr (am_wr (μ, τ) (t + 1) S.2.1 (nI c)) (t + 2) S.2.1 (-1)) (t + 3) S.2.1 (nI S.1)) (t + 4) S.2.1 (-1)) (t + 5) S.2.1 (-1)) (t + 6) S.2.1 (nI S.2.1)) (t + 7) S.2.1 (nI S.2.1)) (t + 8) S.2.1 (nI 0)) t 8 (nI (S.2.1 + 1))) 44 2 (nI (S.1 + 1))).1 t 9 = nI (S.2.2.1 + (if isP c = true then 1 else 0))
            rw [if_neg (nfl hp), Nat.add_zero]
            rw [am_wr_ne _ (by omega), am_diff _ _ _ _ _ (by decide), am_wr_ne _ (by omega), am_wr_ne _ (by omega), am_wr_ne _ (by omega), am_wr_ne _ (by omega), am_wr_ne _ (by omega), am_wr_ne _ (by omega), am_wr_ne _ (by omega), am_wr_ne _ (by omega)]; exact c7
          · have hi : i < S.2.1 + 1 := hi
            by_cases e : i = S.2.1
            · subst e
              have r1 : (am_wr (am_wr (am_wr (am_wr (am_wr (am_wr (am_wr (am_wr (am_wr (am_wr (μ, τ) (t + 1) S.2.1 (nI c)) (t + 2) S.2.1 (-1)) (t + 3) S.2.1 (nI S.1)) (t + 4) S.2.1 (-1)) (t + 5) S.2.1 (-1)) (t + 6) S.2.1 (nI S.2.1)) (t + 7) S.2.1 (nI S.2.1)) (t + 8) S.2.1 (nI 0)) t 8 (nI (S.2.1 + 1))) 44 2 (nI (S.1 + 1))).1 (t + 1) S.2.1 = nI c := by rw [am_wr_ne _ (by omega), am_wr_ne _ (by omega), am_wr_ne _ (by omega), am_wr_ne _ (by omega), am_wr_ne _ (by omega), am_wr_ne _ (by omega), am_wr_ne _ (by omega), am_wr_ne _ (by omega), am_wr_ne _ (by omega), am_same]
              have r2 : (am_wr (am_wr (am_wr (am_wr (am_wr (am_wr (am_wr (am_wr (am_wr (am_wr (μ, τ) (t + 1) S.2.1 (nI c)) (t + 2) S.2.1 (-1)) (t + 3) S.2.1 (nI S.1)) (t + 4) S.2.1 (-1)) (t + 5) S.2.1 (-1)) (t + 6) S.2.1 (nI S.2.1)) (t + 7) S.2.1 (nI S.2.1)) (t + 8) S.2.1 (nI 0)) t 8 (nI (S.2.1 + 1))) 44 2 (nI (S.1 + 1))).1 (t + 2) S.2.1 = -1 := by rw [am_wr_ne _ (by omega), am_wr_ne _ (by omega), am_wr_ne _ (by omega), am_wr_ne _ (by omega), am_wr_ne _ (by omega), am_wr_ne _ (by omega), am_wr_ne _ (by omega), am_wr_ne _ (by omega), am_same]
              have r3 : (am_wr (am_wr (am_wr (am_wr (am_wr (am_wr (am_wr (am_wr (am_wr (am_wr (μ, τ) (t + 1) S.2.1 (nI c)) (t + 2) S.2.1 (-1)) (t + 3) S.2.1 (nI S.1)) (t + 4) S.2.1 (-1)) (t + 5) S.2.1 (-1)) (t + 6) S.2.1 (nI S.2.1)) (t + 7) S.2.1 (nI S.2.1)) (t + 8) S.2.1 (nI 0)) t 8 (nI (S.2.1 + 1))) 44 2 (nI (S.1 + 1))).1 (t + 3) S.2.1 = nI S.1 := by rw [am_wr_ne _ (by omega), am_wr_ne _ (by omega), am_wr_ne _ (by omega), am_wr_ne _ (by omega), am_wr_ne _ (by omega), am_wr_ne _ (by omega), am_wr_ne _ (by omega), am_same]
              have r4 : (am_wr (am_wr (am_wr (am_wr (am_wr (am_wr (am_wr (am_wr (am_wr (am_wr (μ, τ) (t + 1) S.2.1 (nI c)) (t + 2) S.2.1 (-1)) (t + 3) S.2.1 (nI S.1)) (t + 4) S.2.1 (-1)) (t + 5) S.2.1 (-1)) (t + 6) S.2.1 (nI S.2.1)) (t + 7) S.2.1 (nI S.2.1)) (t + 8) S.2.1 (nI 0)) t 8 (nI (S.2.1 + 1))) 44 2 (nI (S.1 + 1))).1 (t + 4) S.2.1 = -1 := by rw [am_wr_ne _ (by omega), am_wr_ne _ (by omega), am_wr_ne _ (by omega), am_wr_ne _ (by omega), am_wr_ne _ (by omega), am_wr_ne _ (by omega), am_same]
              have r5 : (am_wr (am_wr (am_wr (am_wr (am_wr (am_wr (am_wr (am_wr (am_wr (am_wr (μ, τ) (t + 1) S.2.1 (nI c)) (t + 2) S.2.1 (-1)) (t + 3) S.2.1 (nI S.1)) (t + 4) S.2.1 (-1)) (t + 5) S.2.1 (-1)) (t + 6) S.2.1 (nI S.2.1)) (t + 7) S.2.1 (nI S.2.1)) (t + 8) S.2.1 (nI 0)) t 8 (nI (S.2.1 + 1))) 44 2 (nI (S.1 + 1))).1 (t + 5) S.2.1 = -1 := by rw [am_wr_ne _ (by omega), am_wr_ne _ (by omega), am_wr_ne _ (by omega), am_wr_ne _ (by omega), am_wr_ne _ (by omega), am_same]
              have r6 : (am_wr (am_wr (am_wr (am_wr (am_wr (am_wr (am_wr (am_wr (am_wr (am_wr (μ, τ) (t + 1) S.2.1 (nI c)) (t + 2) S.2.1 (-1)) (t + 3) S.2.1 (nI S.1)) (t + 4) S.2.1 (-1)) (t + 5) S.2.1 (-1)) (t + 6) S.2.1 (nI S.2.1)) (t + 7) S.2.1 (nI S.2.1)) (t + 8) S.2.1 (nI 0)) t 8 (nI (S.2.1 + 1))) 44 2 (nI (S.1 + 1))).1 (t + 6) S.2.1 = nI S.2.1 := by rw [am_wr_ne _ (by omega), am_wr_ne _ (by omega), am_wr_ne _ (by omega), am_wr_ne _ (by omega), am_same]
              have r7 : (am_wr (am_wr (am_wr (am_wr (am_wr (am_wr (am_wr (am_wr (am_wr (am_wr (μ, τ) (t + 1) S.2.1 (nI c)) (t + 2) S.2.1 (-1)) (t + 3) S.2.1 (nI S.1)) (t + 4) S.2.1 (-1)) (t + 5) S.2.1 (-1)) (t + 6) S.2.1 (nI S.2.1)) (t + 7) S.2.1 (nI S.2.1)) (t + 8) S.2.1 (nI 0)) t 8 (nI (S.2.1 + 1))) 44 2 (nI (S.1 + 1))).1 (t + 7) S.2.1 = nI S.2.1 := by rw [am_wr_ne _ (by omega), am_wr_ne _ (by omega), am_wr_ne _ (by omega), am_same]
              have r8 : (am_wr (am_wr (am_wr (am_wr (am_wr (am_wr (am_wr (am_wr (am_wr (am_wr (μ, τ) (t + 1) S.2.1 (nI c)) (t + 2) S.2.1 (-1)) (t + 3) S.2.1 (nI S.1)) (t + 4) S.2.1 (-1)) (t + 5) S.2.1 (-1)) (t + 6) S.2.1 (nI S.2.1)) (t + 7) S.2.1 (nI S.2.1)) (t + 8) S.2.1 (nI 0)) t 8 (nI (S.2.1 + 1))) 44 2 (nI (S.1 + 1))).1 (t + 8) S.2.1 = nI 0 := by rw [am_wr_ne _ (by omega), am_wr_ne _ (by omega), am_same]
              exact RW.new (by omega) (fun z => absurd (hp.symm.trans z) (by decide)) r1 r2 r3 r4 r5 r6 r7 (by rw [r8, if_neg (nfl hp)])
            · refine (c8 i (by omega)).old (fun a => if_neg e) (fun j hj => ?_)
              rcases (show j = 1 ∨ j = 2 ∨ j = 3 ∨ j = 4 ∨ j = 5 ∨ j = 6 ∨ j = 7 ∨ j = 8 by omega) with rfl | rfl | rfl | rfl | rfl | rfl | rfl | rfl
              · show (am_wr (am_wr (am_wr (am_wr (am_wr (am_wr (am_wr (am_wr (am_wr (am_wr (μ, τ) (t + 1) S.2.1 (nI c)) (t + 2) S.2.1 (-1)) (t + 3) S.2.1 (nI S.1)) (t + 4) S.2.1 (-1)) (t + 5) S.2.1 (-1)) (t + 6) S.2.1 (nI S.2.1)) (t + 7) S.2.1 (nI S.2.1)) (t + 8) S.2.1 (nI 0)) t 8 (nI (S.2.1 + 1))) 44 2 (nI (S.1 + 1))).1 (t + 1) i = μ (t + 1) i
                rw [am_wr_ne _ (by omega), am_wr_ne _ (by omega), am_wr_ne _ (by omega), am_wr_ne _ (by omega), am_wr_ne _ (by omega), am_wr_ne _ (by omega), am_wr_ne _ (by omega), am_wr_ne _ (by omega), am_wr_ne _ (by omega), am_diff _ _ _ _ _ e]
              · show (am_wr (am_wr (am_wr (am_wr (am_wr (am_wr (am_wr (am_wr (am_wr (am_wr (μ, τ) (t + 1) S.2.1 (nI c)) (t + 2) S.2.1 (-1)) (t + 3) S.2.1 (nI S.1)) (t + 4) S.2.1 (-1)) (t + 5) S.2.1 (-1)) (t + 6) S.2.1 (nI S.2.1)) (t + 7) S.2.1 (nI S.2.1)) (t + 8) S.2.1 (nI 0)) t 8 (nI (S.2.1 + 1))) 44 2 (nI (S.1 + 1))).1 (t + 2) i = μ (t + 2) i
                rw [am_wr_ne _ (by omega), am_wr_ne _ (by omega), am_wr_ne _ (by omega), am_wr_ne _ (by omega), am_wr_ne _ (by omega), am_wr_ne _ (by omega), am_wr_ne _ (by omega), am_wr_ne _ (by omega), am_diff _ _ _ _ _ e, am_wr_ne _ (by omega)]
              · show (am_wr (am_wr (am_wr (am_wr (am_wr (am_wr (am_wr (am_wr (am_wr (am_wr (μ, τ) (t + 1) S.2.1 (nI c)) (t + 2) S.2.1 (-1)) (t + 3) S.2.1 (nI S.1)) (t + 4) S.2.1 (-1)) (t + 5) S.2.1 (-1)) (t + 6) S.2.1 (nI S.2.1)) (t + 7) S.2.1 (nI S.2.1)) (t + 8) S.2.1 (nI 0)) t 8 (nI (S.2.1 + 1))) 44 2 (nI (S.1 + 1))).1 (t + 3) i = μ (t + 3) i
                rw [am_wr_ne _ (by omega), am_wr_ne _ (by omega), am_wr_ne _ (by omega), am_wr_ne _ (by omega), am_wr_ne _ (by omega), am_wr_ne _ (by omega), am_wr_ne _ (by omega), am_diff _ _ _ _ _ e, am_wr_ne _ (by omega), am_wr_ne _ (by omega)]
              · show (am_wr (am_wr (am_wr (am_wr (am_wr (am_wr (am_wr (am_wr (am_wr (am_wr (μ, τ) (t + 1) S.2.1 (nI c)) (t + 2) S.2.1 (-1)) (t + 3) S.2.1 (nI S.1)) (t + 4) S.2.1 (-1)) (t + 5) S.2.1 (-1)) (t + 6) S.2.1 (nI S.2.1)) (t + 7) S.2.1 (nI S.2.1)) (t + 8) S.2.1 (nI 0)) t 8 (nI (S.2.1 + 1))) 44 2 (nI (S.1 + 1))).1 (t + 4) i = μ (t + 4) i
                rw [am_wr_ne _ (by omega), am_wr_ne _ (by omega), am_wr_ne _ (by omega), am_wr_ne _ (by omega), am_wr_ne _ (by omega), am_wr_ne _ (by omega), am_diff _ _ _ _ _ e, am_wr_ne _ (by omega), am_wr_ne _ (by omega), am_wr_ne _ (by omega)]
              · show (am_wr (am_wr (am_wr (am_wr (am_wr (am_wr (am_wr (am_wr (am_wr (am_wr (μ, τ) (t + 1) S.2.1 (nI c)) (t + 2) S.2.1 (-1)) (t + 3) S.2.1 (nI S.1)) (t + 4) S.2.1 (-1)) (t + 5) S.2.1 (-1)) (t + 6) S.2.1 (nI S.2.1)) (t + 7) S.2.1 (nI S.2.1)) (t + 8) S.2.1 (nI 0)) t 8 (nI (S.2.1 + 1))) 44 2 (nI (S.1 + 1))).1 (t + 5) i = μ (t + 5) i
                rw [am_wr_ne _ (by omega), am_wr_ne _ (by omega), am_wr_ne _ (by omega), am_wr_ne _ (by omega), am_wr_ne _ (by omega), am_diff _ _ _ _ _ e, am_wr_ne _ (by omega), am_wr_ne _ (by omega), am_wr_ne _ (by omega), am_wr_ne _ (by omega)]
              · show (am_wr (am_wr (am_wr (am_wr (am_wr (am_wr (am_wr (am_wr (am_wr (am_wr (μ, τ) (t + 1) S.2.1 (nI c)) (t + 2) S.2.1 (-1)) (t + 3) S.2.1 (nI S.1)) (t + 4) S.2.1 (-1)) (t + 5) S.2.1 (-1)) (t + 6) S.2.1 (nI S.2.1)) (t + 7) S.2.1 (nI S.2.1)) (t + 8) S.2.1 (nI 0)) t 8 (nI (S.2.1 + 1))) 44 2 (nI (S.1 + 1))).1 (t + 6) i = μ (t + 6) i
                rw [am_wr_ne _ (by omega), am_wr_ne _ (by omega), am_wr_ne _ (by omega), am_wr_ne _ (by omega), am_diff _ _ _ _ _ e, am_wr_ne _ (by omega), am_wr_ne _ (by omega), am_wr_ne _ (by omega), am_wr_ne _ (by omega), am_wr_ne _ (by omega)]
              · show (am_wr (am_wr (am_wr (am_wr (am_wr (am_wr (am_wr (am_wr (am_wr (am_wr (μ, τ) (t + 1) S.2.1 (nI c)) (t + 2) S.2.1 (-1)) (t + 3) S.2.1 (nI S.1)) (t + 4) S.2.1 (-1)) (t + 5) S.2.1 (-1)) (t + 6) S.2.1 (nI S.2.1)) (t + 7) S.2.1 (nI S.2.1)) (t + 8) S.2.1 (nI 0)) t 8 (nI (S.2.1 + 1))) 44 2 (nI (S.1 + 1))).1 (t + 7) i = μ (t + 7) i
                rw [am_wr_ne _ (by omega), am_wr_ne _ (by omega), am_wr_ne _ (by omega), am_diff _ _ _ _ _ e, am_wr_ne _ (by omega), am_wr_ne _ (by omega), am_wr_ne _ (by omega), am_wr_ne _ (by omega), am_wr_ne _ (by omega), am_wr_ne _ (by omega)]
              · show (am_wr (am_wr (am_wr (am_wr (am_wr (am_wr (am_wr (am_wr (am_wr (am_wr (μ, τ) (t + 1) S.2.1 (nI c)) (t + 2) S.2.1 (-1)) (t + 3) S.2.1 (nI S.1)) (t + 4) S.2.1 (-1)) (t + 5) S.2.1 (-1)) (t + 6) S.2.1 (nI S.2.1)) (t + 7) S.2.1 (nI S.2.1)) (t + 8) S.2.1 (nI 0)) t 8 (nI (S.2.1 + 1))) 44 2 (nI (S.1 + 1))).1 (t + 8) i = μ (t + 8) i
                rw [am_wr_ne _ (by omega), am_wr_ne _ (by omega), am_diff _ _ _ _ _ e, am_wr_ne _ (by omega), am_wr_ne _ (by omega), am_wr_ne _ (by omega), am_wr_ne _ (by omega), am_wr_ne _ (by omega), am_wr_ne _ (by omega), am_wr_ne _ (by omega)]
        · skip
          refine am_enter' (M := M_X6_begin) rfl rfl rfl (by omega) (ls := [some (.ref 44), some (.int (nI c)), some (.int (nI lc)), none]) rfl (fun d' hd' => ?_)
          refine am_run 2 (pc' := 4) (ls' := [some (.ref 44), some (.int (nI c)), some (.int (nI lc)), none]) (st' := [.ref (τ 44 1)]) (σ' := (μ, τ)) rfl ?_
          refine am_stk (st' := [.ref t]) (by rw [ht]) ?_
          refine am_run 1 (pc' := 5) (ls' := [some (.ref 44), some (.int (nI c)), some (.int (nI lc)), none]) (st' := [.int (nI c), .ref t]) (σ' := (μ, τ)) rfl ?_
          refine am_invv (y := 107) (b := t) (as := [.int (nI c)]) (rest := []) rfl rfl rfl rfl rfl rfl (t3_kind hT3) (Nat.le_of_ble_eq_true rfl) ?_
          refine am_enter' rfl rfl rfl (by omega) (ls := [some (.ref t), some (.int (nI c))]) rfl (fun d_1 hd_1 => ?_)
          refine am_run 1 (pc' := 1) (ls' := [some (.ref t), some (.int (nI c))]) (st' := [.ref t]) (σ' := (μ, τ)) rfl ?_
          refine am_getI (k := 8) rfl rfl (t3_kind hT3) rfl ?_
          refine am_top (v' := nI S.2.1) (c6) ?_
          refine am_run 1 (pc' := 6) (ls' := [some (.ref t), some (.int (nI c))]) (st' := [.int (nI 60), .int (nI S.2.1)]) (σ' := (μ, τ)) rfl ?_
          refine am_ic (ty := 9) (tn := 29) rfl (by decide) rfl rfl (fun (h_2 : nI S.2.1 < nI 60) => ?_) (fun (h_2 : ¬ (nI S.2.1 < nI 60)) => ?_)
          rotate_left
          · have h_2 : ¬ (S.2.1 < 60) := fun z => h_2 ((nI_ltI (by omega) (by omega)).mpr z)
            omega
          have h_2 : S.2.1 < 60 := (nI_ltI (by omega) (by omega)).mp h_2
          refine am_run 1 (pc' := 10) (ls' := [some (.ref t), some (.int (nI c))]) (st' := [.int (nI c)]) (σ' := (μ, τ)) rfl ?_
          refine am_invs (y := 108) (as := [.int (nI c)]) (rest := []) rfl rfl rfl rfl rfl rfl (Nat.le_of_ble_eq_true rfl) ?_
          refine c_isPP (by omega) hc (fun z => absurd (hp.symm.trans z) (by decide)) (fun _ => ?_)
          show am_G _ M_X8_hasRoomFor _ 13 [some (.ref t), some (.int (nI c))] [.int (nI 0)] (μ, τ)
          refine am_if (ty := 25) (tn := 16) rfl (by decide) rfl rfl (fun (h_3 : nI 0 = 0) => ?_) (fun (h_3 : ¬ (nI 0 = 0)) => ?_)
          rotate_left
          · exact absurd (by decide) h_3
          refine am_run 2 (pc' := 30) (ls' := [some (.ref t), some (.int (nI c))]) (st' := [.int (nI 1)]) (σ' := (μ, τ)) rfl ?_
          refine am_retz rfl rfl (by decide) ?_
          show am_G _ M_X6_begin _ 8 [some (.ref 44), some (.int (nI c)), some (.int (nI lc)), none] [.int (nI 1)] (μ, τ)
          refine am_if (ty := 11) (tn := 19) rfl (by decide) rfl rfl (fun (h_4 : nI 1 = 0) => ?_) (fun (h_4 : ¬ (nI 1 = 0)) => ?_)
          · exact absurd h_4 (by decide)
          refine am_run 2 (pc' := 22) (ls' := [some (.ref 44), some (.int (nI c)), some (.int (nI lc)), none]) (st' := [.int (nI 36), .int (nI c)]) (σ' := (μ, τ)) rfl ?_
          refine am_ic (ty := 25) (tn := 35) rfl (by decide) rfl rfl (fun (h_5 : nI c = nI 36) => ?_) (fun (h_5 : ¬ (nI c = nI 36)) => ?_)
          · have h_5 : c = 36 := (nI_eq (by omega) (by omega)).mp h_5
            omega
          have h_5 : ¬ (c = 36) := fun z => h_5 ((nI_eq (by omega) (by omega)).mpr z)
          refine am_run 1 (pc' := 36) (ls' := [some (.ref 44), some (.int (nI c)), some (.int (nI lc)), none]) (st' := [.ref 44]) (σ' := (μ, τ)) rfl ?_
          refine am_invv (y := 83) (b := 44) (as := []) (rest := []) rfl rfl rfl rfl rfl rfl rfl (Nat.le_of_ble_eq_true rfl) ?_
          refine am_enter' rfl rfl rfl (by omega) (ls := [some (.ref 44)]) rfl (fun d_6 hd_6 => ?_)
          refine am_run 2 (pc' := 4) (ls' := [some (.ref 44)]) (st' := [.int ((μ, τ).1 44 3)]) (σ' := (μ, τ)) rfl ?_
          refine am_top (v' := nI 0) (c5) ?_
          refine am_if (ty := 7) (tn := 11) rfl (by decide) rfl rfl (fun (h_7 : nI 0 = 0) => ?_) (fun (h_7 : ¬ (nI 0 = 0)) => ?_)
          rotate_left
          · exact absurd (by decide) h_7
          refine am_run 2 (pc' := 12) (ls' := [some (.ref 44)]) (st' := [.int (nI 1)]) (σ' := (μ, τ)) rfl ?_
          refine am_retz rfl rfl (by decide) ?_
          show am_G _ M_X6_begin _ 39 [some (.ref 44), some (.int (nI c)), some (.int (nI lc)), none] [.int (nI 1)] (μ, τ)
          refine am_if (ty := 42) (tn := 44) rfl (by decide) rfl rfl (fun (h_8 : nI 1 = 0) => ?_) (fun (h_8 : ¬ (nI 1 = 0)) => ?_)
          · exact absurd h_8 (by decide)
          refine am_run 2 (pc' := 48) (ls' := [some (.ref 44), some (.int (nI c)), some (.int (nI lc)), none]) (st' := [.ref (τ 44 1)]) (σ' := (μ, τ)) rfl ?_
          refine am_stk (st' := [.ref t]) (by rw [ht]) ?_
          refine am_run 3 (pc' := 53) (ls' := [some (.ref 44), some (.int (nI c)), some (.int (nI lc)), none]) (st' := [.int ((μ, τ).1 44 2), .int (nI c), .ref t]) (σ' := (μ, τ)) rfl ?_
          refine am_top (v' := nI S.1) (c4) ?_
          refine am_invv (y := 109) (b := t) (as := [.int (nI c), .int (nI S.1)]) (rest := []) rfl rfl rfl rfl rfl rfl (t3_kind hT3) (Nat.le_of_ble_eq_true rfl) ?_
          refine am_enter' rfl rfl rfl (by omega) (ls := [some (.ref t), some (.int (nI c)), some (.int (nI S.1)), none]) rfl (fun d_9 hd_9 => ?_)
          refine am_run 2 (pc' := 2) (ls' := [some (.ref t), some (.int (nI c)), some (.int (nI S.1)), none]) (st' := [.int (nI c), .ref t]) (σ' := (μ, τ)) rfl ?_
          refine am_invv (y := 107) (b := t) (as := [.int (nI c)]) (rest := []) rfl rfl rfl rfl rfl rfl (t3_kind hT3) (Nat.le_of_ble_eq_true rfl) ?_
          refine am_enter' rfl rfl rfl (by omega) (ls := [some (.ref t), some (.int (nI c))]) rfl (fun d_10 hd_10 => ?_)
          refine am_run 1 (pc' := 1) (ls' := [some (.ref t), some (.int (nI c))]) (st' := [.ref t]) (σ' := (μ, τ)) rfl ?_
          refine am_getI (k := 8) rfl rfl (t3_kind hT3) rfl ?_
          refine am_top (v' := nI S.2.1) (c6) ?_
          refine am_run 1 (pc' := 6) (ls' := [some (.ref t), some (.int (nI c))]) (st' := [.int (nI 60), .int (nI S.2.1)]) (σ' := (μ, τ)) rfl ?_
          refine am_ic (ty := 9) (tn := 29) rfl (by decide) rfl rfl (fun (h_11 : nI S.2.1 < nI 60) => ?_) (fun (h_11 : ¬ (nI S.2.1 < nI 60)) => ?_)
          rotate_left
          · have h_11 : ¬ (S.2.1 < 60) := fun z => h_11 ((nI_ltI (by omega) (by omega)).mpr z)
            omega
          have h_11 : S.2.1 < 60 := (nI_ltI (by omega) (by omega)).mp h_11
          refine am_run 1 (pc' := 10) (ls' := [some (.ref t), some (.int (nI c))]) (st' := [.int (nI c)]) (σ' := (μ, τ)) rfl ?_
          refine am_invs (y := 108) (as := [.int (nI c)]) (rest := []) rfl rfl rfl rfl rfl rfl (Nat.le_of_ble_eq_true rfl) ?_
          refine c_isPP (by omega) hc (fun z => absurd (hp.symm.trans z) (by decide)) (fun _ => ?_)
          show am_G _ M_X8_hasRoomFor _ 13 [some (.ref t), some (.int (nI c))] [.int (nI 0)] (μ, τ)
          refine am_if (ty := 25) (tn := 16) rfl (by decide) rfl rfl (fun (h_12 : nI 0 = 0) => ?_) (fun (h_12 : ¬ (nI 0 = 0)) => ?_)
          rotate_left
          · exact absurd (by decide) h_12
          refine am_run 2 (pc' := 30) (ls' := [some (.ref t), some (.int (nI c))]) (st' := [.int (nI 1)]) (σ' := (μ, τ)) rfl ?_
          refine am_retz rfl rfl (by decide) ?_
          show am_G _ M_X8_add _ 5 [some (.ref t), some (.int (nI c)), some (.int (nI S.1)), none] [.int (nI 1)] (μ, τ)
          refine am_if (ty := 15) (tn := 8) rfl (by decide) rfl rfl (fun (h_13 : nI 1 = 0) => ?_) (fun (h_13 : ¬ (nI 1 = 0)) => ?_)
          · exact absurd h_13 (by decide)
          refine am_run 1 (pc' := 9) (ls' := [some (.ref t), some (.int (nI c)), some (.int (nI S.1)), none]) (st' := [.ref t]) (σ' := (μ, τ)) rfl ?_
          refine am_getI (k := 8) rfl rfl (t3_kind hT3) rfl ?_
          refine am_top (v' := nI S.2.1) (c6) ?_
          refine am_if (ty := 15) (tn := 17) rfl (by decide) rfl rfl (fun (h_14 : nI S.2.1 < 0) => ?_) (fun (h_14 : ¬ (nI S.2.1 < 0)) => ?_)
          · have h_14 : S.2.1 < 0 := (am_nlt0 (by omega)).mp h_14
            exact absurd h_14 (Nat.not_lt_zero _)
          have h_14 : ¬ (S.2.1 < 0) := fun z => h_14 ((am_nlt0 (by omega)).mpr z)
          refine am_run 1 (pc' := 18) (ls' := [some (.ref t), some (.int (nI c)), some (.int (nI S.1)), none]) (st' := [.ref t]) (σ' := (μ, τ)) rfl ?_
          refine am_getI (k := 8) rfl rfl (t3_kind hT3) rfl ?_
          refine am_top (v' := nI S.2.1) (c6) ?_
          refine am_run 2 (pc' := 23) (ls' := [some (.ref t), some (.int (nI c)), some (.int (nI S.1)), some (.int (nI S.2.1))]) (st' := [.ref t]) (σ' := (μ, τ)) rfl ?_
          refine am_getT hT3 (k := 0) (k1 := 1) rfl rfl rfl (by decide) rfl ?_
          refine am_run 2 (pc' := 28) (ls' := [some (.ref t), some (.int (nI c)), some (.int (nI S.1)), some (.int (nI S.2.1))]) (st' := [.int (nI c), .int (nI S.2.1), .ref (t + 1)]) (σ' := (μ, τ)) rfl ?_
          refine am_iastN (n := 60) rfl (t3_arr hT3 (by decide)).1 (t3_arr hT3 (by decide)).2 (by omega) (by decide) ?_
          refine am_run 1 (pc' := 30) (ls' := [some (.ref t), some (.int (nI c)), some (.int (nI S.1)), some (.int (nI S.2.1))]) (st' := [.ref t]) (σ' := (am_wr (μ, τ) (t + 1) S.2.1 (nI c))) rfl ?_
          refine am_getT hT3 (k := 1) (k1 := 2) rfl rfl rfl (by decide) rfl ?_
          refine am_run 2 (pc' := 35) (ls' := [some (.ref t), some (.int (nI c)), some (.int (nI S.1)), some (.int (nI S.2.1))]) (st' := [.int (-1), .int (nI S.2.1), .ref (t + 2)]) (σ' := (am_wr (μ, τ) (t + 1) S.2.1 (nI c))) rfl ?_
          refine am_iastN (n := 60) rfl (t3_arr hT3 (by decide)).1 (t3_arr hT3 (by decide)).2 (by omega) (by decide) ?_
          refine am_run 1 (pc' := 37) (ls' := [some (.ref t), some (.int (nI c)), some (.int (nI S.1)), some (.int (nI S.2.1))]) (st' := [.ref t]) (σ' := (am_wr (am_wr (μ, τ) (t + 1) S.2.1 (nI c)) (t + 2) S.2.1 (-1))) rfl ?_
          refine am_getT hT3 (k := 2) (k1 := 3) rfl rfl rfl (by decide) rfl ?_
          refine am_run 2 (pc' := 42) (ls' := [some (.ref t), some (.int (nI c)), some (.int (nI S.1)), some (.int (nI S.2.1))]) (st' := [.int (nI S.1), .int (nI S.2.1), .ref (t + 3)]) (σ' := (am_wr (am_wr (μ, τ) (t + 1) S.2.1 (nI c)) (t + 2) S.2.1 (-1))) rfl ?_
          refine am_iastN (n := 60) rfl (t3_arr hT3 (by decide)).1 (t3_arr hT3 (by decide)).2 (by omega) (by decide) ?_
          refine am_run 1 (pc' := 44) (ls' := [some (.ref t), some (.int (nI c)), some (.int (nI S.1)), some (.int (nI S.2.1))]) (st' := [.ref t]) (σ' := (am_wr (am_wr (am_wr (μ, τ) (t + 1) S.2.1 (nI c)) (t + 2) S.2.1 (-1)) (t + 3) S.2.1 (nI S.1))) rfl ?_
          refine am_getT hT3 (k := 3) (k1 := 4) rfl rfl rfl (by decide) rfl ?_
          refine am_run 2 (pc' := 49) (ls' := [some (.ref t), some (.int (nI c)), some (.int (nI S.1)), some (.int (nI S.2.1))]) (st' := [.int (-1), .int (nI S.2.1), .ref (t + 4)]) (σ' := (am_wr (am_wr (am_wr (μ, τ) (t + 1) S.2.1 (nI c)) (t + 2) S.2.1 (-1)) (t + 3) S.2.1 (nI S.1))) rfl ?_
          refine am_iastN (n := 60) rfl (t3_arr hT3 (by decide)).1 (t3_arr hT3 (by decide)).2 (by omega) (by decide) ?_
          refine am_run 1 (pc' := 51) (ls' := [some (.ref t), some (.int (nI c)), some (.int (nI S.1)), some (.int (nI S.2.1))]) (st' := [.ref t]) (σ' := (am_wr (am_wr (am_wr (am_wr (μ, τ) (t + 1) S.2.1 (nI c)) (t + 2) S.2.1 (-1)) (t + 3) S.2.1 (nI S.1)) (t + 4) S.2.1 (-1))) rfl ?_
          refine am_getT hT3 (k := 4) (k1 := 5) rfl rfl rfl (by decide) rfl ?_
          refine am_run 2 (pc' := 56) (ls' := [some (.ref t), some (.int (nI c)), some (.int (nI S.1)), some (.int (nI S.2.1))]) (st' := [.int (-1), .int (nI S.2.1), .ref (t + 5)]) (σ' := (am_wr (am_wr (am_wr (am_wr (μ, τ) (t + 1) S.2.1 (nI c)) (t + 2) S.2.1 (-1)) (t + 3) S.2.1 (nI S.1)) (t + 4) S.2.1 (-1))) rfl ?_
          refine am_iastN (n := 60) rfl (t3_arr hT3 (by decide)).1 (t3_arr hT3 (by decide)).2 (by omega) (by decide) ?_
          refine am_run 1 (pc' := 58) (ls' := [some (.ref t), some (.int (nI c)), some (.int (nI S.1)), some (.int (nI S.2.1))]) (st' := [.ref t]) (σ' := (am_wr (am_wr (am_wr (am_wr (am_wr (μ, τ) (t + 1) S.2.1 (nI c)) (t + 2) S.2.1 (-1)) (t + 3) S.2.1 (nI S.1)) (t + 4) S.2.1 (-1)) (t + 5) S.2.1 (-1))) rfl ?_
          refine am_getT hT3 (k := 5) (k1 := 6) rfl rfl rfl (by decide) rfl ?_
          refine am_run 2 (pc' := 63) (ls' := [some (.ref t), some (.int (nI c)), some (.int (nI S.1)), some (.int (nI S.2.1))]) (st' := [.int (nI S.2.1), .int (nI S.2.1), .ref (t + 6)]) (σ' := (am_wr (am_wr (am_wr (am_wr (am_wr (μ, τ) (t + 1) S.2.1 (nI c)) (t + 2) S.2.1 (-1)) (t + 3) S.2.1 (nI S.1)) (t + 4) S.2.1 (-1)) (t + 5) S.2.1 (-1))) rfl ?_
          refine am_iastN (n := 60) rfl (t3_arr hT3 (by decide)).1 (t3_arr hT3 (by decide)).2 (by omega) (by decide) ?_
          refine am_run 1 (pc' := 65) (ls' := [some (.ref t), some (.int (nI c)), some (.int (nI S.1)), some (.int (nI S.2.1))]) (st' := [.ref t]) (σ' := (am_wr (am_wr (am_wr (am_wr (am_wr (am_wr (μ, τ) (t + 1) S.2.1 (nI c)) (t + 2) S.2.1 (-1)) (t + 3) S.2.1 (nI S.1)) (t + 4) S.2.1 (-1)) (t + 5) S.2.1 (-1)) (t + 6) S.2.1 (nI S.2.1))) rfl ?_
          refine am_getT hT3 (k := 6) (k1 := 7) rfl rfl rfl (by decide) rfl ?_
          refine am_run 2 (pc' := 70) (ls' := [some (.ref t), some (.int (nI c)), some (.int (nI S.1)), some (.int (nI S.2.1))]) (st' := [.int (nI S.2.1), .int (nI S.2.1), .ref (t + 7)]) (σ' := (am_wr (am_wr (am_wr (am_wr (am_wr (am_wr (μ, τ) (t + 1) S.2.1 (nI c)) (t + 2) S.2.1 (-1)) (t + 3) S.2.1 (nI S.1)) (t + 4) S.2.1 (-1)) (t + 5) S.2.1 (-1)) (t + 6) S.2.1 (nI S.2.1))) rfl ?_
          refine am_iastN (n := 60) rfl (t3_arr hT3 (by decide)).1 (t3_arr hT3 (by decide)).2 (by omega) (by decide) ?_
          refine am_run 1 (pc' := 72) (ls' := [some (.ref t), some (.int (nI c)), some (.int (nI S.1)), some (.int (nI S.2.1))]) (st' := [.ref t]) (σ' := (am_wr (am_wr (am_wr (am_wr (am_wr (am_wr (am_wr (μ, τ) (t + 1) S.2.1 (nI c)) (t + 2) S.2.1 (-1)) (t + 3) S.2.1 (nI S.1)) (t + 4) S.2.1 (-1)) (t + 5) S.2.1 (-1)) (t + 6) S.2.1 (nI S.2.1)) (t + 7) S.2.1 (nI S.2.1))) rfl ?_
          refine am_getT hT3 (k := 7) (k1 := 8) rfl rfl rfl (by decide) rfl ?_
          refine am_run 2 (pc' := 77) (ls' := [some (.ref t), some (.int (nI c)), some (.int (nI S.1)), some (.int (nI S.2.1))]) (st' := [.int (nI 0), .int (nI S.2.1), .ref (t + 8)]) (σ' := (am_wr (am_wr (am_wr (am_wr (am_wr (am_wr (am_wr (μ, τ) (t + 1) S.2.1 (nI c)) (t + 2) S.2.1 (-1)) (t + 3) S.2.1 (nI S.1)) (t + 4) S.2.1 (-1)) (t + 5) S.2.1 (-1)) (t + 6) S.2.1 (nI S.2.1)) (t + 7) S.2.1 (nI S.2.1))) rfl ?_
          refine am_iastN (n := 60) rfl (t3_arr hT3 (by decide)).1 (t3_arr hT3 (by decide)).2 (by omega) (by decide) ?_
          refine am_run 1 (pc' := 79) (ls' := [some (.ref t), some (.int (nI c)), some (.int (nI S.1)), some (.int (nI S.2.1))]) (st' := [.int (nI c)]) (σ' := (am_wr (am_wr (am_wr (am_wr (am_wr (am_wr (am_wr (am_wr (μ, τ) (t + 1) S.2.1 (nI c)) (t + 2) S.2.1 (-1)) (t + 3) S.2.1 (nI S.1)) (t + 4) S.2.1 (-1)) (t + 5) S.2.1 (-1)) (t + 6) S.2.1 (nI S.2.1)) (t + 7) S.2.1 (nI S.2.1)) (t + 8) S.2.1 (nI 0))) rfl ?_
          refine am_invs (y := 108) (as := [.int (nI c)]) (rest := []) rfl rfl rfl rfl rfl rfl (Nat.le_of_ble_eq_true rfl) ?_
          refine c_isPP (by omega) hc (fun z => absurd (hp.symm.trans z) (by decide)) (fun _ => ?_)
          show am_G _ M_X8_add _ 82 [some (.ref t), some (.int (nI c)), some (.int (nI S.1)), some (.int (nI S.2.1))] [.int (nI 0)] (am_wr (am_wr (am_wr (am_wr (am_wr (am_wr (am_wr (am_wr (μ, τ) (t + 1) S.2.1 (nI c)) (t + 2) S.2.1 (-1)) (t + 3) S.2.1 (nI S.1)) (t + 4) S.2.1 (-1)) (t + 5) S.2.1 (-1)) (t + 6) S.2.1 (nI S.2.1)) (t + 7) S.2.1 (nI S.2.1)) (t + 8) S.2.1 (nI 0))
          refine am_if (ty := 107) (tn := 85) rfl (by decide) rfl rfl (fun (h_15 : nI 0 = 0) => ?_) (fun (h_15 : ¬ (nI 0 = 0)) => ?_)
          rotate_left
          · exact absurd (by decide) h_15
          refine am_run 2 (pc' := 109) (ls' := [some (.ref t), some (.int (nI c)), some (.int (nI S.1)), some (.int (nI S.2.1))]) (st' := [.ref t, .ref t]) (σ' := (am_wr (am_wr (am_wr (am_wr (am_wr (am_wr (am_wr (am_wr (μ, τ) (t + 1) S.2.1 (nI c)) (t + 2) S.2.1 (-1)) (t + 3) S.2.1 (nI S.1)) (t + 4) S.2.1 (-1)) (t + 5) S.2.1 (-1)) (t + 6) S.2.1 (nI S.2.1)) (t + 7) S.2.1 (nI S.2.1)) (t + 8) S.2.1 (nI 0))) rfl ?_
          refine am_getI (k := 8) rfl rfl (t3_kind hT3) rfl ?_
          refine am_top (v' := nI S.2.1) (by rw [am_wr_ne _ (by omega), am_wr_ne _ (by omega), am_wr_ne _ (by omega), am_wr_ne _ (by omega), am_wr_ne _ (by omega), am_wr_ne _ (by omega), am_wr_ne _ (by omega), am_wr_ne _ (by omega)]; exact c6) ?_
          refine am_run 2 (pc' := 114) (ls' := [some (.ref t), some (.int (nI c)), some (.int (nI S.1)), some (.int (nI S.2.1))]) (st' := [.int (nI S.2.1 + nI 1), .ref t]) (σ' := (am_wr (am_wr (am_wr (am_wr (am_wr (am_wr (am_wr (am_wr (μ, τ) (t + 1) S.2.1 (nI c)) (t + 2) S.2.1 (-1)) (t + 3) S.2.1 (nI S.1)) (t + 4) S.2.1 (-1)) (t + 5) S.2.1 (-1)) (t + 6) S.2.1 (nI S.2.1)) (t + 7) S.2.1 (nI S.2.1)) (t + 8) S.2.1 (nI 0))) rfl ?_
          refine am_top (v' := nI (S.2.1 + 1)) (nI_add _ _) ?_
          refine am_putI (k := 8) rfl rfl (t3_kind hT3) rfl ?_
          refine am_run 1 (pc' := 118) (ls' := [some (.ref t), some (.int (nI c)), some (.int (nI S.1)), some (.int (nI S.2.1))]) (st' := [.int (nI S.2.1)]) (σ' := (am_wr (am_wr (am_wr (am_wr (am_wr (am_wr (am_wr (am_wr (am_wr (μ, τ) (t + 1) S.2.1 (nI c)) (t + 2) S.2.1 (-1)) (t + 3) S.2.1 (nI S.1)) (t + 4) S.2.1 (-1)) (t + 5) S.2.1 (-1)) (t + 6) S.2.1 (nI S.2.1)) (t + 7) S.2.1 (nI S.2.1)) (t + 8) S.2.1 (nI 0)) t 8 (nI (S.2.1 + 1)))) rfl ?_
          refine am_reti rfl rfl ?_
          show am_G _ M_X6_begin _ 56 [some (.ref 44), some (.int (nI c)), some (.int (nI lc)), none] [.int (nI S.2.1)] (am_wr (am_wr (am_wr (am_wr (am_wr (am_wr (am_wr (am_wr (am_wr (μ, τ) (t + 1) S.2.1 (nI c)) (t + 2) S.2.1 (-1)) (t + 3) S.2.1 (nI S.1)) (t + 4) S.2.1 (-1)) (t + 5) S.2.1 (-1)) (t + 6) S.2.1 (nI S.2.1)) (t + 7) S.2.1 (nI S.2.1)) (t + 8) S.2.1 (nI 0)) t 8 (nI (S.2.1 + 1)))
          refine am_run 4 (pc' := 62) (ls' := [some (.ref 44), some (.int (nI c)), some (.int (nI lc)), some (.int (nI S.2.1))]) (st' := [.int ((am_wr (am_wr (am_wr (am_wr (am_wr (am_wr (am_wr (am_wr (am_wr (μ, τ) (t + 1) S.2.1 (nI c)) (t + 2) S.2.1 (-1)) (t + 3) S.2.1 (nI S.1)) (t + 4) S.2.1 (-1)) (t + 5) S.2.1 (-1)) (t + 6) S.2.1 (nI S.2.1)) (t + 7) S.2.1 (nI S.2.1)) (t + 8) S.2.1 (nI 0)) t 8 (nI (S.2.1 + 1))).1 44 2), .ref 44]) (σ' := (am_wr (am_wr (am_wr (am_wr (am_wr (am_wr (am_wr (am_wr (am_wr (μ, τ) (t + 1) S.2.1 (nI c)) (t + 2) S.2.1 (-1)) (t + 3) S.2.1 (nI S.1)) (t + 4) S.2.1 (-1)) (t + 5) S.2.1 (-1)) (t + 6) S.2.1 (nI S.2.1)) (t + 7) S.2.1 (nI S.2.1)) (t + 8) S.2.1 (nI 0)) t 8 (nI (S.2.1 + 1)))) rfl ?_
          refine am_top (v' := nI S.1) (by rw [am_wr_ne _ (by omega), am_wr_ne _ (by omega), am_wr_ne _ (by omega), am_wr_ne _ (by omega), am_wr_ne _ (by omega), am_wr_ne _ (by omega), am_wr_ne _ (by omega), am_wr_ne _ (by omega), am_wr_ne _ (by omega)]; exact c4) ?_
          refine am_run 2 (pc' := 64) (ls' := [some (.ref 44), some (.int (nI c)), some (.int (nI lc)), some (.int (nI S.2.1))]) (st' := [.int (nI S.1 + nI 1), .ref 44]) (σ' := (am_wr (am_wr (am_wr (am_wr (am_wr (am_wr (am_wr (am_wr (am_wr (μ, τ) (t + 1) S.2.1 (nI c)) (t + 2) S.2.1 (-1)) (t + 3) S.2.1 (nI S.1)) (t + 4) S.2.1 (-1)) (t + 5) S.2.1 (-1)) (t + 6) S.2.1 (nI S.2.1)) (t + 7) S.2.1 (nI S.2.1)) (t + 8) S.2.1 (nI 0)) t 8 (nI (S.2.1 + 1)))) rfl ?_
          refine am_top (v' := nI (S.1 + 1)) (nI_add _ _) ?_
          refine am_run 2 (pc' := 68) (ls' := [some (.ref 44), some (.int (nI c)), some (.int (nI lc)), some (.int (nI S.2.1))]) (st' := [.int (nI S.2.1)]) (σ' := (am_wr (am_wr (am_wr (am_wr (am_wr (am_wr (am_wr (am_wr (am_wr (am_wr (μ, τ) (t + 1) S.2.1 (nI c)) (t + 2) S.2.1 (-1)) (t + 3) S.2.1 (nI S.1)) (t + 4) S.2.1 (-1)) (t + 5) S.2.1 (-1)) (t + 6) S.2.1 (nI S.2.1)) (t + 7) S.2.1 (nI S.2.1)) (t + 8) S.2.1 (nI 0)) t 8 (nI (S.2.1 + 1))) 44 2 (nI (S.1 + 1)))) rfl ?_
          refine am_reti rfl rfl ?_
          have hK : KC μ (am_wr (am_wr (am_wr (am_wr (am_wr (am_wr (am_wr (am_wr (am_wr (am_wr (μ, τ) (t + 1) S.2.1 (nI c)) (t + 2) S.2.1 (-1)) (t + 3) S.2.1 (nI S.1)) (t + 4) S.2.1 (-1)) (t + 5) S.2.1 (-1)) (t + 6) S.2.1 (nI S.2.1)) (t + 7) S.2.1 (nI S.2.1)) (t + 8) S.2.1 (nI 0)) t 8 (nI (S.2.1 + 1))) 44 2 (nI (S.1 + 1))).1 t := (((((((((((KC.rf μ t).wt (by omega) _ _).wt (by omega) _ _).wt (by omega) _ _).wt (by omega) _ _).wt (by omega) _ _).wt (by omega) _ _).wt (by omega) _ _).wt (by omega) _ _).wt (by omega) _ _).w44 _ _)
          have f2 : (am_wr (am_wr (am_wr (am_wr (am_wr (am_wr (am_wr (am_wr (am_wr (am_wr (μ, τ) (t + 1) S.2.1 (nI c)) (t + 2) S.2.1 (-1)) (t + 3) S.2.1 (nI S.1)) (t + 4) S.2.1 (-1)) (t + 5) S.2.1 (-1)) (t + 6) S.2.1 (nI S.2.1)) (t + 7) S.2.1 (nI S.2.1)) (t + 8) S.2.1 (nI 0)) t 8 (nI (S.2.1 + 1))) 44 2 (nI (S.1 + 1))).1 44 2 = nI (S.1 + 1) := by rw [am_same]
          have f8 : (am_wr (am_wr (am_wr (am_wr (am_wr (am_wr (am_wr (am_wr (am_wr (am_wr (μ, τ) (t + 1) S.2.1 (nI c)) (t + 2) S.2.1 (-1)) (t + 3) S.2.1 (nI S.1)) (t + 4) S.2.1 (-1)) (t + 5) S.2.1 (-1)) (t + 6) S.2.1 (nI S.2.1)) (t + 7) S.2.1 (nI S.2.1)) (t + 8) S.2.1 (nI 0)) t 8 (nI (S.2.1 + 1))) 44 2 (nI (S.1 + 1))).1 t 8 = nI (S.2.1 + 1) := by rw [am_wr_ne _ (by omega), am_same]
          refine hS (am_wr (am_wr (am_wr (am_wr (am_wr (am_wr (am_wr (am_wr (am_wr (am_wr (μ, τ) (t + 1) S.2.1 (nI c)) (t + 2) S.2.1 (-1)) (t + 3) S.2.1 (nI S.1)) (t + 4) S.2.1 (-1)) (t + 5) S.2.1 (-1)) (t + 6) S.2.1 (nI S.2.1)) (t + 7) S.2.1 (nI S.2.1)) (t + 8) S.2.1 (nI 0)) t 8 (nI (S.2.1 + 1))) 44 2 (nI (S.1 + 1))).1 (by unfold p_beg; rw [if_neg hr, if_neg h36]) hK (hK.xc hT3 hX) ⟨by show S.1 + 1 ≤ L; omega, by show S.2.1 + 1 ≤ 60; omega, by show S.2.2.1 + (if isP c = true then 1 else 0) ≤ 20; rw [if_neg (nfl hp)]; omega, f2, by rw [am_diff _ _ _ _ _ (by decide), am_wr_ne _ (by omega), am_wr_ne _ (by omega), am_wr_ne _ (by omega), am_wr_ne _ (by omega), am_wr_ne _ (by omega), am_wr_ne _ (by omega), am_wr_ne _ (by omega), am_wr_ne _ (by omega), am_wr_ne _ (by omega)]; exact c5, f8, ?_, fun i hi => ?_⟩
          · show (am_wr (am_wr (am_wr (am_wr (am_wr (am_wr (am_wr (am_wr (am_wr (am_wr (μ, τ) (t + 1) S.2.1 (nI c)) (t + 2) S.2.1 (-1)) (t + 3) S.2.1 (nI S.1)) (t + 4) S.2.1 (-1)) (t + 5) S.2.1 (-1)) (t + 6) S.2.1 (nI S.2.1)) (t + 7) S.2.1 (nI S.2.1)) (t + 8) S.2.1 (nI 0)) t 8 (nI (S.2.1 + 1))) 44 2 (nI (S.1 + 1))).1 t 9 = nI (S.2.2.1 + (if isP c = true then 1 else 0))
            rw [if_neg (nfl hp), Nat.add_zero]
            rw [am_wr_ne _ (by omega), am_diff _ _ _ _ _ (by decide), am_wr_ne _ (by omega), am_wr_ne _ (by omega), am_wr_ne _ (by omega), am_wr_ne _ (by omega), am_wr_ne _ (by omega), am_wr_ne _ (by omega), am_wr_ne _ (by omega), am_wr_ne _ (by omega)]; exact c7
          · have hi : i < S.2.1 + 1 := hi
            by_cases e : i = S.2.1
            · subst e
              have r1 : (am_wr (am_wr (am_wr (am_wr (am_wr (am_wr (am_wr (am_wr (am_wr (am_wr (μ, τ) (t + 1) S.2.1 (nI c)) (t + 2) S.2.1 (-1)) (t + 3) S.2.1 (nI S.1)) (t + 4) S.2.1 (-1)) (t + 5) S.2.1 (-1)) (t + 6) S.2.1 (nI S.2.1)) (t + 7) S.2.1 (nI S.2.1)) (t + 8) S.2.1 (nI 0)) t 8 (nI (S.2.1 + 1))) 44 2 (nI (S.1 + 1))).1 (t + 1) S.2.1 = nI c := by rw [am_wr_ne _ (by omega), am_wr_ne _ (by omega), am_wr_ne _ (by omega), am_wr_ne _ (by omega), am_wr_ne _ (by omega), am_wr_ne _ (by omega), am_wr_ne _ (by omega), am_wr_ne _ (by omega), am_wr_ne _ (by omega), am_same]
              have r2 : (am_wr (am_wr (am_wr (am_wr (am_wr (am_wr (am_wr (am_wr (am_wr (am_wr (μ, τ) (t + 1) S.2.1 (nI c)) (t + 2) S.2.1 (-1)) (t + 3) S.2.1 (nI S.1)) (t + 4) S.2.1 (-1)) (t + 5) S.2.1 (-1)) (t + 6) S.2.1 (nI S.2.1)) (t + 7) S.2.1 (nI S.2.1)) (t + 8) S.2.1 (nI 0)) t 8 (nI (S.2.1 + 1))) 44 2 (nI (S.1 + 1))).1 (t + 2) S.2.1 = -1 := by rw [am_wr_ne _ (by omega), am_wr_ne _ (by omega), am_wr_ne _ (by omega), am_wr_ne _ (by omega), am_wr_ne _ (by omega), am_wr_ne _ (by omega), am_wr_ne _ (by omega), am_wr_ne _ (by omega), am_same]
              have r3 : (am_wr (am_wr (am_wr (am_wr (am_wr (am_wr (am_wr (am_wr (am_wr (am_wr (μ, τ) (t + 1) S.2.1 (nI c)) (t + 2) S.2.1 (-1)) (t + 3) S.2.1 (nI S.1)) (t + 4) S.2.1 (-1)) (t + 5) S.2.1 (-1)) (t + 6) S.2.1 (nI S.2.1)) (t + 7) S.2.1 (nI S.2.1)) (t + 8) S.2.1 (nI 0)) t 8 (nI (S.2.1 + 1))) 44 2 (nI (S.1 + 1))).1 (t + 3) S.2.1 = nI S.1 := by rw [am_wr_ne _ (by omega), am_wr_ne _ (by omega), am_wr_ne _ (by omega), am_wr_ne _ (by omega), am_wr_ne _ (by omega), am_wr_ne _ (by omega), am_wr_ne _ (by omega), am_same]
              have r4 : (am_wr (am_wr (am_wr (am_wr (am_wr (am_wr (am_wr (am_wr (am_wr (am_wr (μ, τ) (t + 1) S.2.1 (nI c)) (t + 2) S.2.1 (-1)) (t + 3) S.2.1 (nI S.1)) (t + 4) S.2.1 (-1)) (t + 5) S.2.1 (-1)) (t + 6) S.2.1 (nI S.2.1)) (t + 7) S.2.1 (nI S.2.1)) (t + 8) S.2.1 (nI 0)) t 8 (nI (S.2.1 + 1))) 44 2 (nI (S.1 + 1))).1 (t + 4) S.2.1 = -1 := by rw [am_wr_ne _ (by omega), am_wr_ne _ (by omega), am_wr_ne _ (by omega), am_wr_ne _ (by omega), am_wr_ne _ (by omega), am_wr_ne _ (by omega), am_same]
              have r5 : (am_wr (am_wr (am_wr (am_wr (am_wr (am_wr (am_wr (am_wr (am_wr (am_wr (μ, τ) (t + 1) S.2.1 (nI c)) (t + 2) S.2.1 (-1)) (t + 3) S.2.1 (nI S.1)) (t + 4) S.2.1 (-1)) (t + 5) S.2.1 (-1)) (t + 6) S.2.1 (nI S.2.1)) (t + 7) S.2.1 (nI S.2.1)) (t + 8) S.2.1 (nI 0)) t 8 (nI (S.2.1 + 1))) 44 2 (nI (S.1 + 1))).1 (t + 5) S.2.1 = -1 := by rw [am_wr_ne _ (by omega), am_wr_ne _ (by omega), am_wr_ne _ (by omega), am_wr_ne _ (by omega), am_wr_ne _ (by omega), am_same]
              have r6 : (am_wr (am_wr (am_wr (am_wr (am_wr (am_wr (am_wr (am_wr (am_wr (am_wr (μ, τ) (t + 1) S.2.1 (nI c)) (t + 2) S.2.1 (-1)) (t + 3) S.2.1 (nI S.1)) (t + 4) S.2.1 (-1)) (t + 5) S.2.1 (-1)) (t + 6) S.2.1 (nI S.2.1)) (t + 7) S.2.1 (nI S.2.1)) (t + 8) S.2.1 (nI 0)) t 8 (nI (S.2.1 + 1))) 44 2 (nI (S.1 + 1))).1 (t + 6) S.2.1 = nI S.2.1 := by rw [am_wr_ne _ (by omega), am_wr_ne _ (by omega), am_wr_ne _ (by omega), am_wr_ne _ (by omega), am_same]
              have r7 : (am_wr (am_wr (am_wr (am_wr (am_wr (am_wr (am_wr (am_wr (am_wr (am_wr (μ, τ) (t + 1) S.2.1 (nI c)) (t + 2) S.2.1 (-1)) (t + 3) S.2.1 (nI S.1)) (t + 4) S.2.1 (-1)) (t + 5) S.2.1 (-1)) (t + 6) S.2.1 (nI S.2.1)) (t + 7) S.2.1 (nI S.2.1)) (t + 8) S.2.1 (nI 0)) t 8 (nI (S.2.1 + 1))) 44 2 (nI (S.1 + 1))).1 (t + 7) S.2.1 = nI S.2.1 := by rw [am_wr_ne _ (by omega), am_wr_ne _ (by omega), am_wr_ne _ (by omega), am_same]
              have r8 : (am_wr (am_wr (am_wr (am_wr (am_wr (am_wr (am_wr (am_wr (am_wr (am_wr (μ, τ) (t + 1) S.2.1 (nI c)) (t + 2) S.2.1 (-1)) (t + 3) S.2.1 (nI S.1)) (t + 4) S.2.1 (-1)) (t + 5) S.2.1 (-1)) (t + 6) S.2.1 (nI S.2.1)) (t + 7) S.2.1 (nI S.2.1)) (t + 8) S.2.1 (nI 0)) t 8 (nI (S.2.1 + 1))) 44 2 (nI (S.1 + 1))).1 (t + 8) S.2.1 = nI 0 := by rw [am_wr_ne _ (by omega), am_wr_ne _ (by omega), am_same]
              exact RW.new (by omega) (fun z => absurd (hp.symm.trans z) (by decide)) r1 r2 r3 r4 r5 r6 r7 (by rw [r8, if_neg (nfl hp)])
            · refine (c8 i (by omega)).old (fun a => if_neg e) (fun j hj => ?_)
              rcases (show j = 1 ∨ j = 2 ∨ j = 3 ∨ j = 4 ∨ j = 5 ∨ j = 6 ∨ j = 7 ∨ j = 8 by omega) with rfl | rfl | rfl | rfl | rfl | rfl | rfl | rfl
              · show (am_wr (am_wr (am_wr (am_wr (am_wr (am_wr (am_wr (am_wr (am_wr (am_wr (μ, τ) (t + 1) S.2.1 (nI c)) (t + 2) S.2.1 (-1)) (t + 3) S.2.1 (nI S.1)) (t + 4) S.2.1 (-1)) (t + 5) S.2.1 (-1)) (t + 6) S.2.1 (nI S.2.1)) (t + 7) S.2.1 (nI S.2.1)) (t + 8) S.2.1 (nI 0)) t 8 (nI (S.2.1 + 1))) 44 2 (nI (S.1 + 1))).1 (t + 1) i = μ (t + 1) i
                rw [am_wr_ne _ (by omega), am_wr_ne _ (by omega), am_wr_ne _ (by omega), am_wr_ne _ (by omega), am_wr_ne _ (by omega), am_wr_ne _ (by omega), am_wr_ne _ (by omega), am_wr_ne _ (by omega), am_wr_ne _ (by omega), am_diff _ _ _ _ _ e]
              · show (am_wr (am_wr (am_wr (am_wr (am_wr (am_wr (am_wr (am_wr (am_wr (am_wr (μ, τ) (t + 1) S.2.1 (nI c)) (t + 2) S.2.1 (-1)) (t + 3) S.2.1 (nI S.1)) (t + 4) S.2.1 (-1)) (t + 5) S.2.1 (-1)) (t + 6) S.2.1 (nI S.2.1)) (t + 7) S.2.1 (nI S.2.1)) (t + 8) S.2.1 (nI 0)) t 8 (nI (S.2.1 + 1))) 44 2 (nI (S.1 + 1))).1 (t + 2) i = μ (t + 2) i
                rw [am_wr_ne _ (by omega), am_wr_ne _ (by omega), am_wr_ne _ (by omega), am_wr_ne _ (by omega), am_wr_ne _ (by omega), am_wr_ne _ (by omega), am_wr_ne _ (by omega), am_wr_ne _ (by omega), am_diff _ _ _ _ _ e, am_wr_ne _ (by omega)]
              · show (am_wr (am_wr (am_wr (am_wr (am_wr (am_wr (am_wr (am_wr (am_wr (am_wr (μ, τ) (t + 1) S.2.1 (nI c)) (t + 2) S.2.1 (-1)) (t + 3) S.2.1 (nI S.1)) (t + 4) S.2.1 (-1)) (t + 5) S.2.1 (-1)) (t + 6) S.2.1 (nI S.2.1)) (t + 7) S.2.1 (nI S.2.1)) (t + 8) S.2.1 (nI 0)) t 8 (nI (S.2.1 + 1))) 44 2 (nI (S.1 + 1))).1 (t + 3) i = μ (t + 3) i
                rw [am_wr_ne _ (by omega), am_wr_ne _ (by omega), am_wr_ne _ (by omega), am_wr_ne _ (by omega), am_wr_ne _ (by omega), am_wr_ne _ (by omega), am_wr_ne _ (by omega), am_diff _ _ _ _ _ e, am_wr_ne _ (by omega), am_wr_ne _ (by omega)]
              · show (am_wr (am_wr (am_wr (am_wr (am_wr (am_wr (am_wr (am_wr (am_wr (am_wr (μ, τ) (t + 1) S.2.1 (nI c)) (t + 2) S.2.1 (-1)) (t + 3) S.2.1 (nI S.1)) (t + 4) S.2.1 (-1)) (t + 5) S.2.1 (-1)) (t + 6) S.2.1 (nI S.2.1)) (t + 7) S.2.1 (nI S.2.1)) (t + 8) S.2.1 (nI 0)) t 8 (nI (S.2.1 + 1))) 44 2 (nI (S.1 + 1))).1 (t + 4) i = μ (t + 4) i
                rw [am_wr_ne _ (by omega), am_wr_ne _ (by omega), am_wr_ne _ (by omega), am_wr_ne _ (by omega), am_wr_ne _ (by omega), am_wr_ne _ (by omega), am_diff _ _ _ _ _ e, am_wr_ne _ (by omega), am_wr_ne _ (by omega), am_wr_ne _ (by omega)]
              · show (am_wr (am_wr (am_wr (am_wr (am_wr (am_wr (am_wr (am_wr (am_wr (am_wr (μ, τ) (t + 1) S.2.1 (nI c)) (t + 2) S.2.1 (-1)) (t + 3) S.2.1 (nI S.1)) (t + 4) S.2.1 (-1)) (t + 5) S.2.1 (-1)) (t + 6) S.2.1 (nI S.2.1)) (t + 7) S.2.1 (nI S.2.1)) (t + 8) S.2.1 (nI 0)) t 8 (nI (S.2.1 + 1))) 44 2 (nI (S.1 + 1))).1 (t + 5) i = μ (t + 5) i
                rw [am_wr_ne _ (by omega), am_wr_ne _ (by omega), am_wr_ne _ (by omega), am_wr_ne _ (by omega), am_wr_ne _ (by omega), am_diff _ _ _ _ _ e, am_wr_ne _ (by omega), am_wr_ne _ (by omega), am_wr_ne _ (by omega), am_wr_ne _ (by omega)]
              · show (am_wr (am_wr (am_wr (am_wr (am_wr (am_wr (am_wr (am_wr (am_wr (am_wr (μ, τ) (t + 1) S.2.1 (nI c)) (t + 2) S.2.1 (-1)) (t + 3) S.2.1 (nI S.1)) (t + 4) S.2.1 (-1)) (t + 5) S.2.1 (-1)) (t + 6) S.2.1 (nI S.2.1)) (t + 7) S.2.1 (nI S.2.1)) (t + 8) S.2.1 (nI 0)) t 8 (nI (S.2.1 + 1))) 44 2 (nI (S.1 + 1))).1 (t + 6) i = μ (t + 6) i
                rw [am_wr_ne _ (by omega), am_wr_ne _ (by omega), am_wr_ne _ (by omega), am_wr_ne _ (by omega), am_diff _ _ _ _ _ e, am_wr_ne _ (by omega), am_wr_ne _ (by omega), am_wr_ne _ (by omega), am_wr_ne _ (by omega), am_wr_ne _ (by omega)]
              · show (am_wr (am_wr (am_wr (am_wr (am_wr (am_wr (am_wr (am_wr (am_wr (am_wr (μ, τ) (t + 1) S.2.1 (nI c)) (t + 2) S.2.1 (-1)) (t + 3) S.2.1 (nI S.1)) (t + 4) S.2.1 (-1)) (t + 5) S.2.1 (-1)) (t + 6) S.2.1 (nI S.2.1)) (t + 7) S.2.1 (nI S.2.1)) (t + 8) S.2.1 (nI 0)) t 8 (nI (S.2.1 + 1))) 44 2 (nI (S.1 + 1))).1 (t + 7) i = μ (t + 7) i
                rw [am_wr_ne _ (by omega), am_wr_ne _ (by omega), am_wr_ne _ (by omega), am_diff _ _ _ _ _ e, am_wr_ne _ (by omega), am_wr_ne _ (by omega), am_wr_ne _ (by omega), am_wr_ne _ (by omega), am_wr_ne _ (by omega), am_wr_ne _ (by omega)]
              · show (am_wr (am_wr (am_wr (am_wr (am_wr (am_wr (am_wr (am_wr (am_wr (am_wr (μ, τ) (t + 1) S.2.1 (nI c)) (t + 2) S.2.1 (-1)) (t + 3) S.2.1 (nI S.1)) (t + 4) S.2.1 (-1)) (t + 5) S.2.1 (-1)) (t + 6) S.2.1 (nI S.2.1)) (t + 7) S.2.1 (nI S.2.1)) (t + 8) S.2.1 (nI 0)) t 8 (nI (S.2.1 + 1))) 44 2 (nI (S.1 + 1))).1 (t + 8) i = μ (t + 8) i
                rw [am_wr_ne _ (by omega), am_wr_ne _ (by omega), am_diff _ _ _ _ _ e, am_wr_ne _ (by omega), am_wr_ne _ (by omega), am_wr_ne _ (by omega), am_wr_ne _ (by omega), am_wr_ne _ (by omega), am_wr_ne _ (by omega), am_wr_ne _ (by omega)]

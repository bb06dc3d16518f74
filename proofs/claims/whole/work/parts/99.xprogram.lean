/-! program -/
/-- the class's memory when a place has got the tree t -/
def MCx (μ : Nat → Nat → Int32) (τ : Nat → Nat → Nat) (q t tq : Nat) : am_M := am_wr (am_wr (am_wr (am_wrR (am_wrR (am_wr (am_wr (μ, τ) 42 1 (nI 0)) 41 7 (nI 0)) 44 1 tq) q 1 t) q 2 (nI 1)) q 3 (nI 1048576)) q 4 (nI 0)
set_option maxRecDepth 10000 in
set_option maxHeartbeats 2000000 in
theorem c_x_program0 {d : Nat} (hd : 322 ≤ d) {μ : Nat → Nat → Int32} {τ : Nat → Nat → Nat} {t tq L : Nat} {tx : Nat → Nat} (hT3 : T3 t) (ht : τ 44 1 = t) (htq : τ 73 1 = tq) (hX : XC μ L tx) {Q : am_Q} (hA : ∀ k fp μ', p_rt tx L = .inl (k, fp) → KC μ μ' t → FR μ' k fp → Q (some (.int (Int32.ofInt (-100) - nI fp))) (am_wr (am_wr (μ', τ) 42 1 (nI 0)) 41 7 (nI k))) (hB : ∀ S r μ', p_rt tx L = .inr (S, r) → fz S.2.2.2 S.2.1 S.2.1 < S.2.1 → KC μ μ' t → Q (some (.int (Int32.ofInt (-100) - nI (S.2.2.2 5 (fz S.2.2.2 S.2.1 S.2.1))))) (am_wr (am_wr (μ', τ) 42 1 (nI 0)) 41 7 (nI 5))) (hC : ∀ S q r μ', p_rt tx L = .inr (S, r) → fz S.2.2.2 S.2.1 S.2.1 = S.2.1 → KC μ μ' t → CR μ' t L (ps_at S q) → μ' t 10 = nI r → Q (some (.int (nI S.2.2.1))) (MCx μ' τ 73 t tq)) : am_C d 124 [.ref 41, .int (nI 0)] (μ, τ) Q := by
  have tT := hT3
  unfold T3 at tT
  refine am_enter' (M := M_X9_program) rfl rfl rfl (by omega) (ls := [some (.ref 41), some (.int (nI 0)), none]) rfl (fun d' hd' => ?_)
  refine am_run 2 (pc' := 2) (ls' := [some (.ref 41), some (.int (nI 0)), none]) (st' := [.int (nI 0), .ref 41]) (σ' := (μ, τ)) rfl ?_
  refine am_invv (y := 139) (b := 41) (as := [.int (nI 0)]) (rest := []) rfl rfl rfl rfl rfl rfl rfl (Nat.le_of_ble_eq_true rfl) ?_
  refine am_enter' rfl rfl rfl (by omega) (ls := [some (.ref 41), some (.int (nI 0))]) rfl (fun d_1 hd_1 => ?_)
  refine am_run 1 (pc' := 1) (ls' := [some (.ref 41), some (.int (nI 0))]) (st' := [.int (nI 0)]) (σ' := (μ, τ)) rfl ?_
  refine am_if (ty := 22) (tn := 4) rfl (by decide) rfl rfl (fun (h_2 : nI 0 < 0) => ?_) (fun (h_2 : ¬ (nI 0 < 0)) => ?_)
  · exact absurd h_2 (by decide)
  refine am_run 4 (pc' := 10) (ls' := [some (.ref 41), some (.int (nI 0))]) (st' := [.int (nI 2), .int (nI 0)]) (σ' := (μ, τ)) rfl ?_
  refine am_ic (ty := 13) (tn := 22) rfl (by decide) rfl rfl (fun (h_3 : nI 0 < nI 2) => ?_) (fun (h_3 : ¬ (nI 0 < nI 2)) => ?_)
  rotate_left
  · exact absurd (by decide) h_3
  refine am_run 3 (pc' := 18) (ls' := [some (.ref 41), some (.int (nI 0))]) (st' := [.int (nI 0), .ref 72]) (σ' := (μ, τ)) rfl ?_
  refine am_aald (n := 2) rfl rfl rfl (vp_in_nI (by decide) (by decide)) ?_
  refine am_run 0 (pc' := 19) (ls' := [some (.ref 41), some (.int (nI 0))]) (st' := [.ref 73]) (σ' := (μ, τ)) rfl ?_
  refine am_run 1 (pc' := 23) (ls' := [some (.ref 41), some (.int (nI 0))]) (st' := [.ref 73]) (σ' := (μ, τ)) rfl ?_
  refine am_reta rfl rfl (Or.inr ⟨_, rfl⟩) ?_
  show am_G _ M_X9_program _ 5 [some (.ref 41), some (.int (nI 0)), none] [.ref 73] (μ, τ)
  refine am_run 5 (pc' := 17) (ls' := [some (.ref 41), some (.int (nI 0)), some (.ref 73)]) (st' := [.ref 44]) (σ' := (μ, τ)) rfl ?_
  refine am_invv (y := 82) (b := 44) (as := []) (rest := []) rfl rfl rfl rfl rfl rfl rfl (Nat.le_of_ble_eq_true rfl) ?_
  refine c_readText (by omega) hT3 ht hX (fun k fp μ2 hx hK2 hX2 hF2 => ?_) (fun S r μ2 hx hz hK2 hX2 hF2 => ?_) (fun S q r μ2 hx hz hK2 hX2 hC2 hr => ?_)
  · have hkk := hF2.2.2
    show am_G _ M_X9_program _ 20 [some (.ref 41), some (.int (nI 0)), some (.ref 73)] [] (μ2, τ)
    refine am_run 2 (pc' := 24) (ls' := [some (.ref 41), some (.int (nI 0)), some (.ref 73)]) (st' := [.ref 42]) (σ' := (μ2, τ)) rfl ?_
    refine am_invv (y := 100) (b := 42) (as := []) (rest := []) rfl rfl rfl rfl rfl rfl rfl (Nat.le_of_ble_eq_true rfl) ?_
    refine am_enter' rfl rfl rfl (by omega) (ls := [some (.ref 42)]) rfl (fun d_4 hd_4 => ?_)
    refine am_run 3 (pc' := 5) (ls' := [some (.ref 42)]) (st' := []) (σ' := (am_wr (μ2, τ) 42 1 (nI 0))) rfl ?_
    refine am_retv rfl rfl ?_
    show am_G _ M_X9_program _ 27 [some (.ref 41), some (.int (nI 0)), some (.ref 73)] [] (am_wr (μ2, τ) 42 1 (nI 0))
    refine am_run 3 (pc' := 32) (ls' := [some (.ref 41), some (.int (nI 0)), some (.ref 73)]) (st' := [.ref 44, .ref 41]) (σ' := (am_wr (μ2, τ) 42 1 (nI 0))) rfl ?_
    refine am_invv (y := 79) (b := 44) (as := []) (rest := [.ref 41]) rfl rfl rfl rfl rfl rfl rfl (Nat.le_of_ble_eq_true rfl) ?_
    refine am_enter' rfl rfl rfl (by omega) (ls := [some (.ref 44)]) rfl (fun d_5 hd_5 => ?_)
    refine am_run 2 (pc' := 4) (ls' := [some (.ref 44)]) (st' := [.int ((μ2, τ).1 44 3)]) (σ' := (am_wr (μ2, τ) 42 1 (nI 0))) rfl ?_
    refine am_top (v' := nI k) hF2.1 ?_
    refine am_reti rfl rfl ?_
    show am_G _ M_X9_program _ 35 [some (.ref 41), some (.int (nI 0)), some (.ref 73)] [.int (nI k), .ref 41] (am_wr (μ2, τ) 42 1 (nI 0))
    refine am_run 3 (pc' := 42) (ls' := [some (.ref 41), some (.int (nI 0)), some (.ref 73)]) (st' := [.int (nI k)]) (σ' := (am_wr (am_wr (μ2, τ) 42 1 (nI 0)) 41 7 (nI k))) rfl ?_
    refine am_if (ty := 56) (tn := 45) rfl (by decide) rfl rfl (fun (h_6 : nI k = 0) => ?_) (fun (h_6 : ¬ (nI k = 0)) => ?_)
    · have h_6 : k = 0 := (am_n0 (by omega)).mp h_6
      omega
    have h_6 : ¬ (k = 0) := fun z => h_6 ((am_n0 (by omega)).mpr z)
    refine am_run 3 (pc' := 51) (ls' := [some (.ref 41), some (.int (nI 0)), some (.ref 73)]) (st' := [.ref 44, .int (Int32.ofInt (-100))]) (σ' := (am_wr (am_wr (μ2, τ) 42 1 (nI 0)) 41 7 (nI k))) rfl ?_
    refine am_invv (y := 80) (b := 44) (as := []) (rest := [.int (Int32.ofInt (-100))]) rfl rfl rfl rfl rfl rfl rfl (Nat.le_of_ble_eq_true rfl) ?_
    refine am_enter' rfl rfl rfl (by omega) (ls := [some (.ref 44)]) rfl (fun d_7 hd_7 => ?_)
    refine am_run 2 (pc' := 4) (ls' := [some (.ref 44)]) (st' := [.int ((μ2, τ).1 44 4)]) (σ' := (am_wr (am_wr (μ2, τ) 42 1 (nI 0)) 41 7 (nI k))) rfl ?_
    refine am_top (v' := nI fp) hF2.2.1 ?_
    refine am_reti rfl rfl ?_
    show am_G _ M_X9_program _ 54 [some (.ref 41), some (.int (nI 0)), some (.ref 73)] [.int (nI fp), .int (Int32.ofInt (-100))] (am_wr (am_wr (μ2, τ) 42 1 (nI 0)) 41 7 (nI k))
    refine am_run 1 (pc' := 55) (ls' := [some (.ref 41), some (.int (nI 0)), some (.ref 73)]) (st' := [.int ((Int32.ofInt (-100)) - nI fp)]) (σ' := (am_wr (am_wr (μ2, τ) 42 1 (nI 0)) 41 7 (nI k))) rfl ?_
    refine am_reti rfl rfl ?_
    exact hA k fp μ2 hx hK2 hF2
  · have hkk := hF2.2.2
    show am_G _ M_X9_program _ 20 [some (.ref 41), some (.int (nI 0)), some (.ref 73)] [] ((μ2), τ)
    refine am_run 2 (pc' := 24) (ls' := [some (.ref 41), some (.int (nI 0)), some (.ref 73)]) (st' := [.ref 42]) (σ' := ((μ2), τ)) rfl ?_
    refine am_invv (y := 100) (b := 42) (as := []) (rest := []) rfl rfl rfl rfl rfl rfl rfl (Nat.le_of_ble_eq_true rfl) ?_
    refine am_enter' rfl rfl rfl (by omega) (ls := [some (.ref 42)]) rfl (fun d_8 hd_8 => ?_)
    refine am_run 3 (pc' := 5) (ls' := [some (.ref 42)]) (st' := []) (σ' := (am_wr ((μ2), τ) 42 1 (nI 0))) rfl ?_
    refine am_retv rfl rfl ?_
    show am_G _ M_X9_program _ 27 [some (.ref 41), some (.int (nI 0)), some (.ref 73)] [] (am_wr ((μ2), τ) 42 1 (nI 0))
    refine am_run 3 (pc' := 32) (ls' := [some (.ref 41), some (.int (nI 0)), some (.ref 73)]) (st' := [.ref 44, .ref 41]) (σ' := (am_wr ((μ2), τ) 42 1 (nI 0))) rfl ?_
    refine am_invv (y := 79) (b := 44) (as := []) (rest := [.ref 41]) rfl rfl rfl rfl rfl rfl rfl (Nat.le_of_ble_eq_true rfl) ?_
    refine am_enter' rfl rfl rfl (by omega) (ls := [some (.ref 44)]) rfl (fun d_9 hd_9 => ?_)
    refine am_run 2 (pc' := 4) (ls' := [some (.ref 44)]) (st' := [.int (((μ2), τ).1 44 3)]) (σ' := (am_wr ((μ2), τ) 42 1 (nI 0))) rfl ?_
    refine am_top (v' := nI 5) hF2.1 ?_
    refine am_reti rfl rfl ?_
    show am_G _ M_X9_program _ 35 [some (.ref 41), some (.int (nI 0)), some (.ref 73)] [.int (nI 5), .ref 41] (am_wr ((μ2), τ) 42 1 (nI 0))
    refine am_run 3 (pc' := 42) (ls' := [some (.ref 41), some (.int (nI 0)), some (.ref 73)]) (st' := [.int (nI 5)]) (σ' := (am_wr (am_wr ((μ2), τ) 42 1 (nI 0)) 41 7 (nI 5))) rfl ?_
    refine am_if (ty := 56) (tn := 45) rfl (by decide) rfl rfl (fun (h_10 : nI 5 = 0) => ?_) (fun (h_10 : ¬ (nI 5 = 0)) => ?_)
    · exact absurd h_10 (by decide)
    refine am_run 3 (pc' := 51) (ls' := [some (.ref 41), some (.int (nI 0)), some (.ref 73)]) (st' := [.ref 44, .int (Int32.ofInt (-100))]) (σ' := (am_wr (am_wr ((μ2), τ) 42 1 (nI 0)) 41 7 (nI 5))) rfl ?_
    refine am_invv (y := 80) (b := 44) (as := []) (rest := [.int (Int32.ofInt (-100))]) rfl rfl rfl rfl rfl rfl rfl (Nat.le_of_ble_eq_true rfl) ?_
    refine am_enter' rfl rfl rfl (by omega) (ls := [some (.ref 44)]) rfl (fun d_11 hd_11 => ?_)
    refine am_run 2 (pc' := 4) (ls' := [some (.ref 44)]) (st' := [.int (((μ2), τ).1 44 4)]) (σ' := (am_wr (am_wr ((μ2), τ) 42 1 (nI 0)) 41 7 (nI 5))) rfl ?_
    refine am_top (v' := nI (S.2.2.2 5 (fz S.2.2.2 S.2.1 S.2.1))) hF2.2.1 ?_
    refine am_reti rfl rfl ?_
    show am_G _ M_X9_program _ 54 [some (.ref 41), some (.int (nI 0)), some (.ref 73)] [.int (nI (S.2.2.2 5 (fz S.2.2.2 S.2.1 S.2.1))), .int (Int32.ofInt (-100))] (am_wr (am_wr ((μ2), τ) 42 1 (nI 0)) 41 7 (nI 5))
    refine am_run 1 (pc' := 55) (ls' := [some (.ref 41), some (.int (nI 0)), some (.ref 73)]) (st' := [.int ((Int32.ofInt (-100)) - nI (S.2.2.2 5 (fz S.2.2.2 S.2.1 S.2.1)))]) (σ' := (am_wr (am_wr ((μ2), τ) 42 1 (nI 0)) 41 7 (nI 5))) rfl ?_
    refine am_reti rfl rfl ?_
    exact hB S r μ2 hx hz hK2
  · obtain ⟨c1, c2, c3, c4, c5, c6, c7, c8⟩ := id hC2
    show am_G _ M_X9_program _ 20 [some (.ref 41), some (.int (nI 0)), some (.ref 73)] [] ((μ2), (τ))
    refine am_run 2 (pc' := 24) (ls' := [some (.ref 41), some (.int (nI 0)), some (.ref 73)]) (st' := [.ref 42]) (σ' := ((μ2), (τ))) rfl ?_
    refine am_invv (y := 100) (b := 42) (as := []) (rest := []) rfl rfl rfl rfl rfl rfl rfl (Nat.le_of_ble_eq_true rfl) ?_
    refine am_enter' rfl rfl rfl (by omega) (ls := [some (.ref 42)]) rfl (fun d_12 hd_12 => ?_)
    refine am_run 3 (pc' := 5) (ls' := [some (.ref 42)]) (st' := []) (σ' := (am_wr ((μ2), (τ)) 42 1 (nI 0))) rfl ?_
    refine am_retv rfl rfl ?_
    show am_G _ M_X9_program _ 27 [some (.ref 41), some (.int (nI 0)), some (.ref 73)] [] (am_wr ((μ2), (τ)) 42 1 (nI 0))
    refine am_run 3 (pc' := 32) (ls' := [some (.ref 41), some (.int (nI 0)), some (.ref 73)]) (st' := [.ref 44, .ref 41]) (σ' := (am_wr ((μ2), (τ)) 42 1 (nI 0))) rfl ?_
    refine am_invv (y := 79) (b := 44) (as := []) (rest := [.ref 41]) rfl rfl rfl rfl rfl rfl rfl (Nat.le_of_ble_eq_true rfl) ?_
    refine am_enter' rfl rfl rfl (by omega) (ls := [some (.ref 44)]) rfl (fun d_13 hd_13 => ?_)
    refine am_run 2 (pc' := 4) (ls' := [some (.ref 44)]) (st' := [.int (((μ2), (τ)).1 44 3)]) (σ' := (am_wr ((μ2), (τ)) 42 1 (nI 0))) rfl ?_
    refine am_top (v' := nI 0) c5 ?_
    refine am_reti rfl rfl ?_
    show am_G _ M_X9_program _ 35 [some (.ref 41), some (.int (nI 0)), some (.ref 73)] [.int (nI 0), .ref 41] (am_wr ((μ2), (τ)) 42 1 (nI 0))
    refine am_run 3 (pc' := 42) (ls' := [some (.ref 41), some (.int (nI 0)), some (.ref 73)]) (st' := [.int (nI 0)]) (σ' := (am_wr (am_wr ((μ2), (τ)) 42 1 (nI 0)) 41 7 (nI 0))) rfl ?_
    refine am_if (ty := 56) (tn := 45) rfl (by decide) rfl rfl (fun (h_14 : nI 0 = 0) => ?_) (fun (h_14 : ¬ (nI 0 = 0)) => ?_)
    rotate_left
    · exact absurd (by decide) h_14
    refine am_run 4 (pc' := 62) (ls' := [some (.ref 41), some (.int (nI 0)), some (.ref 73)]) (st' := [.ref 73, .ref 44, .ref 73]) (σ' := (am_wr (am_wr ((μ2), (τ)) 42 1 (nI 0)) 41 7 (nI 0))) rfl ?_
    refine am_invv (y := 66) (b := 73) (as := []) (rest := [.ref 44, .ref 73]) rfl rfl rfl rfl rfl rfl rfl (Nat.le_of_ble_eq_true rfl) ?_
    refine am_enter' rfl rfl rfl (by omega) (ls := [some (.ref 73)]) rfl (fun d_15 hd_15 => ?_)
    refine am_run 2 (pc' := 4) (ls' := [some (.ref 73)]) (st' := [.ref (τ 73 1)]) (σ' := (am_wr (am_wr ((μ2), (τ)) 42 1 (nI 0)) 41 7 (nI 0))) rfl ?_
    refine am_stk (st' := [.ref tq]) (by rw [htq]) ?_
    refine am_reta rfl rfl (Or.inr ⟨_, rfl⟩) ?_
    show am_G _ M_X9_program _ 65 [some (.ref 41), some (.int (nI 0)), some (.ref 73)] [.ref tq, .ref 44, .ref 73] (am_wr (am_wr ((μ2), (τ)) 42 1 (nI 0)) 41 7 (nI 0))
    refine am_invv (y := 81) (b := 44) (as := [.ref tq]) (rest := [.ref 73]) rfl rfl rfl rfl rfl rfl rfl (Nat.le_of_ble_eq_true rfl) ?_
    refine am_enter' rfl rfl rfl (by omega) (ls := [some (.ref 44), some (.ref tq), none]) rfl (fun d_16 hd_16 => ?_)
    refine am_run 2 (pc' := 4) (ls' := [some (.ref 44), some (.ref tq), none]) (st' := [.ref (τ 44 1)]) (σ' := (am_wr (am_wr ((μ2), (τ)) 42 1 (nI 0)) 41 7 (nI 0))) rfl ?_
    refine am_stk (st' := [.ref t]) (by rw [ht]) ?_
    refine am_run 5 (pc' := 11) (ls' := [some (.ref 44), some (.ref tq), some (.ref t)]) (st' := [.ref t]) (σ' := (am_wrR (am_wr (am_wr ((μ2), (τ)) 42 1 (nI 0)) 41 7 (nI 0)) 44 1 tq)) rfl ?_
    refine am_reta rfl rfl (Or.inr ⟨_, rfl⟩) ?_
    show am_G _ M_X9_program _ 68 [some (.ref 41), some (.int (nI 0)), some (.ref 73)] [.ref t, .ref 73] (am_wrR (am_wr (am_wr ((μ2), (τ)) 42 1 (nI 0)) 41 7 (nI 0)) 44 1 tq)
    refine am_invv (y := 69) (b := 73) (as := [.ref t]) (rest := []) rfl rfl rfl rfl rfl rfl rfl (Nat.le_of_ble_eq_true rfl) ?_
    refine am_enter' rfl rfl rfl (by omega) (ls := [some (.ref 73), some (.ref t)]) rfl (fun d_17 hd_17 => ?_)
    refine am_run 7 (pc' := 11) (ls' := [some (.ref 73), some (.ref t)]) (st' := [.ref 73]) (σ' := (am_wr (am_wrR (am_wrR (am_wr (am_wr ((μ2), (τ)) 42 1 (nI 0)) 41 7 (nI 0)) 44 1 tq) 73 1 t) 73 2 (nI 1))) rfl ?_
    refine am_invv (y := 70) (b := 73) (as := []) (rest := []) rfl rfl rfl rfl rfl rfl rfl (Nat.le_of_ble_eq_true rfl) ?_
    refine am_enter' rfl rfl rfl (by omega) (ls := [some (.ref 73)]) rfl (fun d_18 hd_18 => ?_)
    refine am_run 6 (pc' := 11) (ls' := [some (.ref 73)]) (st' := []) (σ' := (am_wr (am_wr (am_wr (am_wrR (am_wrR (am_wr (am_wr ((μ2), (τ)) 42 1 (nI 0)) 41 7 (nI 0)) 44 1 tq) 73 1 t) 73 2 (nI 1)) 73 3 (nI 1048576)) 73 4 (nI 0))) rfl ?_
    refine am_retv rfl rfl ?_
    show am_G _ M_X4_load _ 14 [some (.ref 73), some (.ref t)] [] (am_wr (am_wr (am_wr (am_wrR (am_wrR (am_wr (am_wr ((μ2), (τ)) 42 1 (nI 0)) 41 7 (nI 0)) 44 1 tq) 73 1 t) 73 2 (nI 1)) 73 3 (nI 1048576)) 73 4 (nI 0))
    refine am_retv rfl rfl ?_
    show am_G _ M_X9_program _ 71 [some (.ref 41), some (.int (nI 0)), some (.ref 73)] [] (am_wr (am_wr (am_wr (am_wrR (am_wrR (am_wr (am_wr ((μ2), (τ)) 42 1 (nI 0)) 41 7 (nI 0)) 44 1 tq) 73 1 t) 73 2 (nI 1)) 73 3 (nI 1048576)) 73 4 (nI 0))
    refine am_run 1 (pc' := 72) (ls' := [some (.ref 41), some (.int (nI 0)), some (.ref 73)]) (st' := [.ref 73]) (σ' := (am_wr (am_wr (am_wr (am_wrR (am_wrR (am_wr (am_wr ((μ2), (τ)) 42 1 (nI 0)) 41 7 (nI 0)) 44 1 tq) 73 1 t) 73 2 (nI 1)) 73 3 (nI 1048576)) 73 4 (nI 0))) rfl ?_
    refine am_invv (y := 66) (b := 73) (as := []) (rest := []) rfl rfl rfl rfl rfl rfl rfl (Nat.le_of_ble_eq_true rfl) ?_
    refine am_enter' rfl rfl rfl (by omega) (ls := [some (.ref 73)]) rfl (fun d_19 hd_19 => ?_)
    refine am_run 2 (pc' := 4) (ls' := [some (.ref 73)]) (st' := [.ref t]) (σ' := (am_wr (am_wr (am_wr (am_wrR (am_wrR (am_wr (am_wr ((μ2), (τ)) 42 1 (nI 0)) 41 7 (nI 0)) 44 1 tq) 73 1 t) 73 2 (nI 1)) 73 3 (nI 1048576)) 73 4 (nI 0))) rfl ?_
    refine am_reta rfl rfl (Or.inr ⟨_, rfl⟩) ?_
    show am_G _ M_X9_program _ 75 [some (.ref 41), some (.int (nI 0)), some (.ref 73)] [.ref t] (am_wr (am_wr (am_wr (am_wrR (am_wrR (am_wr (am_wr ((μ2), (τ)) 42 1 (nI 0)) 41 7 (nI 0)) 44 1 tq) 73 1 t) 73 2 (nI 1)) 73 3 (nI 1048576)) 73 4 (nI 0))
    refine am_invv (y := 103) (b := t) (as := []) (rest := []) rfl rfl rfl rfl rfl rfl (t3_kind hT3) (Nat.le_of_ble_eq_true rfl) ?_
    refine am_enter' rfl rfl rfl (by omega) (ls := [some (.ref t)]) rfl (fun d_20 hd_20 => ?_)
    refine am_run 1 (pc' := 1) (ls' := [some (.ref t)]) (st' := [.ref t]) (σ' := (am_wr (am_wr (am_wr (am_wrR (am_wrR (am_wr (am_wr ((μ2), (τ)) 42 1 (nI 0)) 41 7 (nI 0)) 44 1 tq) 73 1 t) 73 2 (nI 1)) 73 3 (nI 1048576)) 73 4 (nI 0))) rfl ?_
    refine am_getI (k := 9) rfl rfl (t3_kind hT3) rfl ?_
    refine am_top (v' := nI S.2.2.1) (by rw [am_wr_ne _ (by omega), am_wr_ne _ (by omega), am_wr_ne _ (by omega)]; show (am_wr (am_wr (μ2, τ) 42 1 (nI 0)) 41 7 (nI 0)).1 t 9 = nI S.2.2.1; rw [am_wr_ne _ (by omega), am_wr_ne _ (by omega)]; exact c7) ?_
    refine am_reti rfl rfl ?_
    show am_G _ M_X9_program _ 78 [some (.ref 41), some (.int (nI 0)), some (.ref 73)] [.int (nI S.2.2.1)] (am_wr (am_wr (am_wr (am_wrR (am_wrR (am_wr (am_wr ((μ2), (τ)) 42 1 (nI 0)) 41 7 (nI 0)) 44 1 tq) 73 1 t) 73 2 (nI 1)) 73 3 (nI 1048576)) 73 4 (nI 0))
    refine am_reti rfl rfl ?_
    exact hC S q r μ2 hx hz hK2 hC2 hr
set_option maxRecDepth 10000 in
set_option maxHeartbeats 2000000 in
theorem c_x_program1 {d : Nat} (hd : 322 ≤ d) {μ : Nat → Nat → Int32} {τ : Nat → Nat → Nat} {t tq L : Nat} {tx : Nat → Nat} (hT3 : T3 t) (ht : τ 44 1 = t) (htq : τ 75 1 = tq) (hX : XC μ L tx) {Q : am_Q} (hA : ∀ k fp μ', p_rt tx L = .inl (k, fp) → KC μ μ' t → FR μ' k fp → Q (some (.int (Int32.ofInt (-100) - nI fp))) (am_wr (am_wr (μ', τ) 42 1 (nI 0)) 41 7 (nI k))) (hB : ∀ S r μ', p_rt tx L = .inr (S, r) → fz S.2.2.2 S.2.1 S.2.1 < S.2.1 → KC μ μ' t → Q (some (.int (Int32.ofInt (-100) - nI (S.2.2.2 5 (fz S.2.2.2 S.2.1 S.2.1))))) (am_wr (am_wr (μ', τ) 42 1 (nI 0)) 41 7 (nI 5))) (hC : ∀ S q r μ', p_rt tx L = .inr (S, r) → fz S.2.2.2 S.2.1 S.2.1 = S.2.1 → KC μ μ' t → CR μ' t L (ps_at S q) → μ' t 10 = nI r → Q (some (.int (nI S.2.2.1))) (MCx μ' τ 75 t tq)) : am_C d 124 [.ref 41, .int (nI 1)] (μ, τ) Q := by
  have tT := hT3
  unfold T3 at tT
  refine am_enter' (M := M_X9_program) rfl rfl rfl (by omega) (ls := [some (.ref 41), some (.int (nI 1)), none]) rfl (fun d' hd' => ?_)
  refine am_run 2 (pc' := 2) (ls' := [some (.ref 41), some (.int (nI 1)), none]) (st' := [.int (nI 1), .ref 41]) (σ' := (μ, τ)) rfl ?_
  refine am_invv (y := 139) (b := 41) (as := [.int (nI 1)]) (rest := []) rfl rfl rfl rfl rfl rfl rfl (Nat.le_of_ble_eq_true rfl) ?_
  refine am_enter' rfl rfl rfl (by omega) (ls := [some (.ref 41), some (.int (nI 1))]) rfl (fun d_1 hd_1 => ?_)
  refine am_run 1 (pc' := 1) (ls' := [some (.ref 41), some (.int (nI 1))]) (st' := [.int (nI 1)]) (σ' := (μ, τ)) rfl ?_
  refine am_if (ty := 22) (tn := 4) rfl (by decide) rfl rfl (fun (h_2 : nI 1 < 0) => ?_) (fun (h_2 : ¬ (nI 1 < 0)) => ?_)
  · exact absurd h_2 (by decide)
  refine am_run 4 (pc' := 10) (ls' := [some (.ref 41), some (.int (nI 1))]) (st' := [.int (nI 2), .int (nI 1)]) (σ' := (μ, τ)) rfl ?_
  refine am_ic (ty := 13) (tn := 22) rfl (by decide) rfl rfl (fun (h_3 : nI 1 < nI 2) => ?_) (fun (h_3 : ¬ (nI 1 < nI 2)) => ?_)
  rotate_left
  · exact absurd (by decide) h_3
  refine am_run 3 (pc' := 18) (ls' := [some (.ref 41), some (.int (nI 1))]) (st' := [.int (nI 1), .ref 72]) (σ' := (μ, τ)) rfl ?_
  refine am_aald (n := 2) rfl rfl rfl (vp_in_nI (by decide) (by decide)) ?_
  refine am_run 0 (pc' := 19) (ls' := [some (.ref 41), some (.int (nI 1))]) (st' := [.ref 75]) (σ' := (μ, τ)) rfl ?_
  refine am_run 1 (pc' := 23) (ls' := [some (.ref 41), some (.int (nI 1))]) (st' := [.ref 75]) (σ' := (μ, τ)) rfl ?_
  refine am_reta rfl rfl (Or.inr ⟨_, rfl⟩) ?_
  show am_G _ M_X9_program _ 5 [some (.ref 41), some (.int (nI 1)), none] [.ref 75] (μ, τ)
  refine am_run 5 (pc' := 17) (ls' := [some (.ref 41), some (.int (nI 1)), some (.ref 75)]) (st' := [.ref 44]) (σ' := (μ, τ)) rfl ?_
  refine am_invv (y := 82) (b := 44) (as := []) (rest := []) rfl rfl rfl rfl rfl rfl rfl (Nat.le_of_ble_eq_true rfl) ?_
  refine c_readText (by omega) hT3 ht hX (fun k fp μ2 hx hK2 hX2 hF2 => ?_) (fun S r μ2 hx hz hK2 hX2 hF2 => ?_) (fun S q r μ2 hx hz hK2 hX2 hC2 hr => ?_)
  · have hkk := hF2.2.2
    show am_G _ M_X9_program _ 20 [some (.ref 41), some (.int (nI 1)), some (.ref 75)] [] (μ2, τ)
    refine am_run 2 (pc' := 24) (ls' := [some (.ref 41), some (.int (nI 1)), some (.ref 75)]) (st' := [.ref 42]) (σ' := (μ2, τ)) rfl ?_
    refine am_invv (y := 100) (b := 42) (as := []) (rest := []) rfl rfl rfl rfl rfl rfl rfl (Nat.le_of_ble_eq_true rfl) ?_
    refine am_enter' rfl rfl rfl (by omega) (ls := [some (.ref 42)]) rfl (fun d_4 hd_4 => ?_)
    refine am_run 3 (pc' := 5) (ls' := [some (.ref 42)]) (st' := []) (σ' := (am_wr (μ2, τ) 42 1 (nI 0))) rfl ?_
    refine am_retv rfl rfl ?_
    show am_G _ M_X9_program _ 27 [some (.ref 41), some (.int (nI 1)), some (.ref 75)] [] (am_wr (μ2, τ) 42 1 (nI 0))
    refine am_run 3 (pc' := 32) (ls' := [some (.ref 41), some (.int (nI 1)), some (.ref 75)]) (st' := [.ref 44, .ref 41]) (σ' := (am_wr (μ2, τ) 42 1 (nI 0))) rfl ?_
    refine am_invv (y := 79) (b := 44) (as := []) (rest := [.ref 41]) rfl rfl rfl rfl rfl rfl rfl (Nat.le_of_ble_eq_true rfl) ?_
    refine am_enter' rfl rfl rfl (by omega) (ls := [some (.ref 44)]) rfl (fun d_5 hd_5 => ?_)
    refine am_run 2 (pc' := 4) (ls' := [some (.ref 44)]) (st' := [.int ((μ2, τ).1 44 3)]) (σ' := (am_wr (μ2, τ) 42 1 (nI 0))) rfl ?_
    refine am_top (v' := nI k) hF2.1 ?_
    refine am_reti rfl rfl ?_
    show am_G _ M_X9_program _ 35 [some (.ref 41), some (.int (nI 1)), some (.ref 75)] [.int (nI k), .ref 41] (am_wr (μ2, τ) 42 1 (nI 0))
    refine am_run 3 (pc' := 42) (ls' := [some (.ref 41), some (.int (nI 1)), some (.ref 75)]) (st' := [.int (nI k)]) (σ' := (am_wr (am_wr (μ2, τ) 42 1 (nI 0)) 41 7 (nI k))) rfl ?_
    refine am_if (ty := 56) (tn := 45) rfl (by decide) rfl rfl (fun (h_6 : nI k = 0) => ?_) (fun (h_6 : ¬ (nI k = 0)) => ?_)
    · have h_6 : k = 0 := (am_n0 (by omega)).mp h_6
      omega
    have h_6 : ¬ (k = 0) := fun z => h_6 ((am_n0 (by omega)).mpr z)
    refine am_run 3 (pc' := 51) (ls' := [some (.ref 41), some (.int (nI 1)), some (.ref 75)]) (st' := [.ref 44, .int (Int32.ofInt (-100))]) (σ' := (am_wr (am_wr (μ2, τ) 42 1 (nI 0)) 41 7 (nI k))) rfl ?_
    refine am_invv (y := 80) (b := 44) (as := []) (rest := [.int (Int32.ofInt (-100))]) rfl rfl rfl rfl rfl rfl rfl (Nat.le_of_ble_eq_true rfl) ?_
    refine am_enter' rfl rfl rfl (by omega) (ls := [some (.ref 44)]) rfl (fun d_7 hd_7 => ?_)
    refine am_run 2 (pc' := 4) (ls' := [some (.ref 44)]) (st' := [.int ((μ2, τ).1 44 4)]) (σ' := (am_wr (am_wr (μ2, τ) 42 1 (nI 0)) 41 7 (nI k))) rfl ?_
    refine am_top (v' := nI fp) hF2.2.1 ?_
    refine am_reti rfl rfl ?_
    show am_G _ M_X9_program _ 54 [some (.ref 41), some (.int (nI 1)), some (.ref 75)] [.int (nI fp), .int (Int32.ofInt (-100))] (am_wr (am_wr (μ2, τ) 42 1 (nI 0)) 41 7 (nI k))
    refine am_run 1 (pc' := 55) (ls' := [some (.ref 41), some (.int (nI 1)), some (.ref 75)]) (st' := [.int ((Int32.ofInt (-100)) - nI fp)]) (σ' := (am_wr (am_wr (μ2, τ) 42 1 (nI 0)) 41 7 (nI k))) rfl ?_
    refine am_reti rfl rfl ?_
    exact hA k fp μ2 hx hK2 hF2
  · have hkk := hF2.2.2
    show am_G _ M_X9_program _ 20 [some (.ref 41), some (.int (nI 1)), some (.ref 75)] [] ((μ2), τ)
    refine am_run 2 (pc' := 24) (ls' := [some (.ref 41), some (.int (nI 1)), some (.ref 75)]) (st' := [.ref 42]) (σ' := ((μ2), τ)) rfl ?_
    refine am_invv (y := 100) (b := 42) (as := []) (rest := []) rfl rfl rfl rfl rfl rfl rfl (Nat.le_of_ble_eq_true rfl) ?_
    refine am_enter' rfl rfl rfl (by omega) (ls := [some (.ref 42)]) rfl (fun d_8 hd_8 => ?_)
    refine am_run 3 (pc' := 5) (ls' := [some (.ref 42)]) (st' := []) (σ' := (am_wr ((μ2), τ) 42 1 (nI 0))) rfl ?_
    refine am_retv rfl rfl ?_
    show am_G _ M_X9_program _ 27 [some (.ref 41), some (.int (nI 1)), some (.ref 75)] [] (am_wr ((μ2), τ) 42 1 (nI 0))
    refine am_run 3 (pc' := 32) (ls' := [some (.ref 41), some (.int (nI 1)), some (.ref 75)]) (st' := [.ref 44, .ref 41]) (σ' := (am_wr ((μ2), τ) 42 1 (nI 0))) rfl ?_
    refine am_invv (y := 79) (b := 44) (as := []) (rest := [.ref 41]) rfl rfl rfl rfl rfl rfl rfl (Nat.le_of_ble_eq_true rfl) ?_
    refine am_enter' rfl rfl rfl (by omega) (ls := [some (.ref 44)]) rfl (fun d_9 hd_9 => ?_)
    refine am_run 2 (pc' := 4) (ls' := [some (.ref 44)]) (st' := [.int (((μ2), τ).1 44 3)]) (σ' := (am_wr ((μ2), τ) 42 1 (nI 0))) rfl ?_
    refine am_top (v' := nI 5) hF2.1 ?_
    refine am_reti rfl rfl ?_
    show am_G _ M_X9_program _ 35 [some (.ref 41), some (.int (nI 1)), some (.ref 75)] [.int (nI 5), .ref 41] (am_wr ((μ2), τ) 42 1 (nI 0))
    refine am_run 3 (pc' := 42) (ls' := [some (.ref 41), some (.int (nI 1)), some (.ref 75)]) (st' := [.int (nI 5)]) (σ' := (am_wr (am_wr ((μ2), τ) 42 1 (nI 0)) 41 7 (nI 5))) rfl ?_
    refine am_if (ty := 56) (tn := 45) rfl (by decide) rfl rfl (fun (h_10 : nI 5 = 0) => ?_) (fun (h_10 : ¬ (nI 5 = 0)) => ?_)
    · exact absurd h_10 (by decide)
    refine am_run 3 (pc' := 51) (ls' := [some (.ref 41), some (.int (nI 1)), some (.ref 75)]) (st' := [.ref 44, .int (Int32.ofInt (-100))]) (σ' := (am_wr (am_wr ((μ2), τ) 42 1 (nI 0)) 41 7 (nI 5))) rfl ?_
    refine am_invv (y := 80) (b := 44) (as := []) (rest := [.int (Int32.ofInt (-100))]) rfl rfl rfl rfl rfl rfl rfl (Nat.le_of_ble_eq_true rfl) ?_
    refine am_enter' rfl rfl rfl (by omega) (ls := [some (.ref 44)]) rfl (fun d_11 hd_11 => ?_)
    refine am_run 2 (pc' := 4) (ls' := [some (.ref 44)]) (st' := [.int (((μ2), τ).1 44 4)]) (σ' := (am_wr (am_wr ((μ2), τ) 42 1 (nI 0)) 41 7 (nI 5))) rfl ?_
    refine am_top (v' := nI (S.2.2.2 5 (fz S.2.2.2 S.2.1 S.2.1))) hF2.2.1 ?_
    refine am_reti rfl rfl ?_
    show am_G _ M_X9_program _ 54 [some (.ref 41), some (.int (nI 1)), some (.ref 75)] [.int (nI (S.2.2.2 5 (fz S.2.2.2 S.2.1 S.2.1))), .int (Int32.ofInt (-100))] (am_wr (am_wr ((μ2), τ) 42 1 (nI 0)) 41 7 (nI 5))
    refine am_run 1 (pc' := 55) (ls' := [some (.ref 41), some (.int (nI 1)), some (.ref 75)]) (st' := [.int ((Int32.ofInt (-100)) - nI (S.2.2.2 5 (fz S.2.2.2 S.2.1 S.2.1)))]) (σ' := (am_wr (am_wr ((μ2), τ) 42 1 (nI 0)) 41 7 (nI 5))) rfl ?_
    refine am_reti rfl rfl ?_
    exact hB S r μ2 hx hz hK2
  · obtain ⟨c1, c2, c3, c4, c5, c6, c7, c8⟩ := id hC2
    show am_G _ M_X9_program _ 20 [some (.ref 41), some (.int (nI 1)), some (.ref 75)] [] ((μ2), (τ))
    refine am_run 2 (pc' := 24) (ls' := [some (.ref 41), some (.int (nI 1)), some (.ref 75)]) (st' := [.ref 42]) (σ' := ((μ2), (τ))) rfl ?_
    refine am_invv (y := 100) (b := 42) (as := []) (rest := []) rfl rfl rfl rfl rfl rfl rfl (Nat.le_of_ble_eq_true rfl) ?_
    refine am_enter' rfl rfl rfl (by omega) (ls := [some (.ref 42)]) rfl (fun d_12 hd_12 => ?_)
    refine am_run 3 (pc' := 5) (ls' := [some (.ref 42)]) (st' := []) (σ' := (am_wr ((μ2), (τ)) 42 1 (nI 0))) rfl ?_
    refine am_retv rfl rfl ?_
    show am_G _ M_X9_program _ 27 [some (.ref 41), some (.int (nI 1)), some (.ref 75)] [] (am_wr ((μ2), (τ)) 42 1 (nI 0))
    refine am_run 3 (pc' := 32) (ls' := [some (.ref 41), some (.int (nI 1)), some (.ref 75)]) (st' := [.ref 44, .ref 41]) (σ' := (am_wr ((μ2), (τ)) 42 1 (nI 0))) rfl ?_
    refine am_invv (y := 79) (b := 44) (as := []) (rest := [.ref 41]) rfl rfl rfl rfl rfl rfl rfl (Nat.le_of_ble_eq_true rfl) ?_
    refine am_enter' rfl rfl rfl (by omega) (ls := [some (.ref 44)]) rfl (fun d_13 hd_13 => ?_)
    refine am_run 2 (pc' := 4) (ls' := [some (.ref 44)]) (st' := [.int (((μ2), (τ)).1 44 3)]) (σ' := (am_wr ((μ2), (τ)) 42 1 (nI 0))) rfl ?_
    refine am_top (v' := nI 0) c5 ?_
    refine am_reti rfl rfl ?_
    show am_G _ M_X9_program _ 35 [some (.ref 41), some (.int (nI 1)), some (.ref 75)] [.int (nI 0), .ref 41] (am_wr ((μ2), (τ)) 42 1 (nI 0))
    refine am_run 3 (pc' := 42) (ls' := [some (.ref 41), some (.int (nI 1)), some (.ref 75)]) (st' := [.int (nI 0)]) (σ' := (am_wr (am_wr ((μ2), (τ)) 42 1 (nI 0)) 41 7 (nI 0))) rfl ?_
    refine am_if (ty := 56) (tn := 45) rfl (by decide) rfl rfl (fun (h_14 : nI 0 = 0) => ?_) (fun (h_14 : ¬ (nI 0 = 0)) => ?_)
    rotate_left
    · exact absurd (by decide) h_14
    refine am_run 4 (pc' := 62) (ls' := [some (.ref 41), some (.int (nI 1)), some (.ref 75)]) (st' := [.ref 75, .ref 44, .ref 75]) (σ' := (am_wr (am_wr ((μ2), (τ)) 42 1 (nI 0)) 41 7 (nI 0))) rfl ?_
    refine am_invv (y := 66) (b := 75) (as := []) (rest := [.ref 44, .ref 75]) rfl rfl rfl rfl rfl rfl rfl (Nat.le_of_ble_eq_true rfl) ?_
    refine am_enter' rfl rfl rfl (by omega) (ls := [some (.ref 75)]) rfl (fun d_15 hd_15 => ?_)
    refine am_run 2 (pc' := 4) (ls' := [some (.ref 75)]) (st' := [.ref (τ 75 1)]) (σ' := (am_wr (am_wr ((μ2), (τ)) 42 1 (nI 0)) 41 7 (nI 0))) rfl ?_
    refine am_stk (st' := [.ref tq]) (by rw [htq]) ?_
    refine am_reta rfl rfl (Or.inr ⟨_, rfl⟩) ?_
    show am_G _ M_X9_program _ 65 [some (.ref 41), some (.int (nI 1)), some (.ref 75)] [.ref tq, .ref 44, .ref 75] (am_wr (am_wr ((μ2), (τ)) 42 1 (nI 0)) 41 7 (nI 0))
    refine am_invv (y := 81) (b := 44) (as := [.ref tq]) (rest := [.ref 75]) rfl rfl rfl rfl rfl rfl rfl (Nat.le_of_ble_eq_true rfl) ?_
    refine am_enter' rfl rfl rfl (by omega) (ls := [some (.ref 44), some (.ref tq), none]) rfl (fun d_16 hd_16 => ?_)
    refine am_run 2 (pc' := 4) (ls' := [some (.ref 44), some (.ref tq), none]) (st' := [.ref (τ 44 1)]) (σ' := (am_wr (am_wr ((μ2), (τ)) 42 1 (nI 0)) 41 7 (nI 0))) rfl ?_
    refine am_stk (st' := [.ref t]) (by rw [ht]) ?_
    refine am_run 5 (pc' := 11) (ls' := [some (.ref 44), some (.ref tq), some (.ref t)]) (st' := [.ref t]) (σ' := (am_wrR (am_wr (am_wr ((μ2), (τ)) 42 1 (nI 0)) 41 7 (nI 0)) 44 1 tq)) rfl ?_
    refine am_reta rfl rfl (Or.inr ⟨_, rfl⟩) ?_
    show am_G _ M_X9_program _ 68 [some (.ref 41), some (.int (nI 1)), some (.ref 75)] [.ref t, .ref 75] (am_wrR (am_wr (am_wr ((μ2), (τ)) 42 1 (nI 0)) 41 7 (nI 0)) 44 1 tq)
    refine am_invv (y := 69) (b := 75) (as := [.ref t]) (rest := []) rfl rfl rfl rfl rfl rfl rfl (Nat.le_of_ble_eq_true rfl) ?_
    refine am_enter' rfl rfl rfl (by omega) (ls := [some (.ref 75), some (.ref t)]) rfl (fun d_17 hd_17 => ?_)
    refine am_run 7 (pc' := 11) (ls' := [some (.ref 75), some (.ref t)]) (st' := [.ref 75]) (σ' := (am_wr (am_wrR (am_wrR (am_wr (am_wr ((μ2), (τ)) 42 1 (nI 0)) 41 7 (nI 0)) 44 1 tq) 75 1 t) 75 2 (nI 1))) rfl ?_
    refine am_invv (y := 70) (b := 75) (as := []) (rest := []) rfl rfl rfl rfl rfl rfl rfl (Nat.le_of_ble_eq_true rfl) ?_
    refine am_enter' rfl rfl rfl (by omega) (ls := [some (.ref 75)]) rfl (fun d_18 hd_18 => ?_)
    refine am_run 6 (pc' := 11) (ls' := [some (.ref 75)]) (st' := []) (σ' := (am_wr (am_wr (am_wr (am_wrR (am_wrR (am_wr (am_wr ((μ2), (τ)) 42 1 (nI 0)) 41 7 (nI 0)) 44 1 tq) 75 1 t) 75 2 (nI 1)) 75 3 (nI 1048576)) 75 4 (nI 0))) rfl ?_
    refine am_retv rfl rfl ?_
    show am_G _ M_X4_load _ 14 [some (.ref 75), some (.ref t)] [] (am_wr (am_wr (am_wr (am_wrR (am_wrR (am_wr (am_wr ((μ2), (τ)) 42 1 (nI 0)) 41 7 (nI 0)) 44 1 tq) 75 1 t) 75 2 (nI 1)) 75 3 (nI 1048576)) 75 4 (nI 0))
    refine am_retv rfl rfl ?_
    show am_G _ M_X9_program _ 71 [some (.ref 41), some (.int (nI 1)), some (.ref 75)] [] (am_wr (am_wr (am_wr (am_wrR (am_wrR (am_wr (am_wr ((μ2), (τ)) 42 1 (nI 0)) 41 7 (nI 0)) 44 1 tq) 75 1 t) 75 2 (nI 1)) 75 3 (nI 1048576)) 75 4 (nI 0))
    refine am_run 1 (pc' := 72) (ls' := [some (.ref 41), some (.int (nI 1)), some (.ref 75)]) (st' := [.ref 75]) (σ' := (am_wr (am_wr (am_wr (am_wrR (am_wrR (am_wr (am_wr ((μ2), (τ)) 42 1 (nI 0)) 41 7 (nI 0)) 44 1 tq) 75 1 t) 75 2 (nI 1)) 75 3 (nI 1048576)) 75 4 (nI 0))) rfl ?_
    refine am_invv (y := 66) (b := 75) (as := []) (rest := []) rfl rfl rfl rfl rfl rfl rfl (Nat.le_of_ble_eq_true rfl) ?_
    refine am_enter' rfl rfl rfl (by omega) (ls := [some (.ref 75)]) rfl (fun d_19 hd_19 => ?_)
    refine am_run 2 (pc' := 4) (ls' := [some (.ref 75)]) (st' := [.ref t]) (σ' := (am_wr (am_wr (am_wr (am_wrR (am_wrR (am_wr (am_wr ((μ2), (τ)) 42 1 (nI 0)) 41 7 (nI 0)) 44 1 tq) 75 1 t) 75 2 (nI 1)) 75 3 (nI 1048576)) 75 4 (nI 0))) rfl ?_
    refine am_reta rfl rfl (Or.inr ⟨_, rfl⟩) ?_
    show am_G _ M_X9_program _ 75 [some (.ref 41), some (.int (nI 1)), some (.ref 75)] [.ref t] (am_wr (am_wr (am_wr (am_wrR (am_wrR (am_wr (am_wr ((μ2), (τ)) 42 1 (nI 0)) 41 7 (nI 0)) 44 1 tq) 75 1 t) 75 2 (nI 1)) 75 3 (nI 1048576)) 75 4 (nI 0))
    refine am_invv (y := 103) (b := t) (as := []) (rest := []) rfl rfl rfl rfl rfl rfl (t3_kind hT3) (Nat.le_of_ble_eq_true rfl) ?_
    refine am_enter' rfl rfl rfl (by omega) (ls := [some (.ref t)]) rfl (fun d_20 hd_20 => ?_)
    refine am_run 1 (pc' := 1) (ls' := [some (.ref t)]) (st' := [.ref t]) (σ' := (am_wr (am_wr (am_wr (am_wrR (am_wrR (am_wr (am_wr ((μ2), (τ)) 42 1 (nI 0)) 41 7 (nI 0)) 44 1 tq) 75 1 t) 75 2 (nI 1)) 75 3 (nI 1048576)) 75 4 (nI 0))) rfl ?_
    refine am_getI (k := 9) rfl rfl (t3_kind hT3) rfl ?_
    refine am_top (v' := nI S.2.2.1) (by rw [am_wr_ne _ (by omega), am_wr_ne _ (by omega), am_wr_ne _ (by omega)]; show (am_wr (am_wr (μ2, τ) 42 1 (nI 0)) 41 7 (nI 0)).1 t 9 = nI S.2.2.1; rw [am_wr_ne _ (by omega), am_wr_ne _ (by omega)]; exact c7) ?_
    refine am_reti rfl rfl ?_
    show am_G _ M_X9_program _ 78 [some (.ref 41), some (.int (nI 1)), some (.ref 75)] [.int (nI S.2.2.1)] (am_wr (am_wr (am_wr (am_wrR (am_wrR (am_wr (am_wr ((μ2), (τ)) 42 1 (nI 0)) 41 7 (nI 0)) 44 1 tq) 75 1 t) 75 2 (nI 1)) 75 3 (nI 1048576)) 75 4 (nI 0))
    refine am_reti rfl rfl ?_
    exact hC S q r μ2 hx hz hK2 hC2 hr

theorem CR.same {μ μ' : Nat → Nat → Int32} {t L : Nat} {S S' : PS} (h : CR μ t L S) (h1 : S'.1 = S.1 ∧ S'.2.1 = S.2.1 ∧ S'.2.2.1 = S.2.2.1) (h44 : μ' 44 = μ 44) (h8 : μ' t = μ t) (hr : ∀ i, i < S.2.1 → RW μ' t S'.2.2.2 i) : CR μ' t L S' := by
  obtain ⟨c1, c2, c3, c4, c5, c6, c7, c8⟩ := h
  obtain ⟨e1, e2, e3⟩ := h1
  refine ⟨by rw [e1]; exact c1, by rw [e2]; exact c2, by rw [e3]; exact c3, by rw [h44, e1]; exact c4, by rw [h44]; exact c5, by rw [h8, e2]; exact c6, by rw [h8, e3]; exact c7, fun i hi => hr i (by rw [← e2]; exact hi)⟩
set_option maxRecDepth 10000 in
set_option maxHeartbeats 2000000 in
theorem c_setDetail {d : Nat} (hd : 2 ≤ d) {μ : Nat → Nat → Int32} {τ : Nat → Nat → Nat} {t L : Nat} {S : PS} (hT3 : T3 t) (hC : CR μ t L S) {st v : Nat} (hst : st < S.2.1) {Q : am_Q} (hq : ∀ μ', KC μ μ' t → μ' 44 = μ 44 → CR μ' t L (ps_det S st v) → Q none (μ', τ)) : am_C d 110 [.ref t, .int (nI st), .int (nI v)] (μ, τ) Q := by
  obtain ⟨c1, c2, c3, c4, c5, c6, c7, c8⟩ := id hC
  have ht4 := t3_44 hT3
  refine am_enter' (M := M_X8_setDetail) rfl rfl rfl (by omega) (ls := [some (.ref t), some (.int (nI st)), some (.int (nI v))]) rfl (fun d' hd' => ?_)
  refine am_run 2 (pc' := 2) (ls' := [some (.ref t), some (.int (nI st)), some (.int (nI v))]) (st' := [.int (nI st), .ref t]) (σ' := (μ, τ)) rfl ?_
  refine am_invv (y := 106) (b := t) (as := [.int (nI st)]) (rest := []) rfl rfl rfl rfl rfl rfl (t3_kind hT3) (Nat.le_of_ble_eq_true rfl) ?_
  refine am_enter' rfl rfl rfl (by omega) (ls := [some (.ref t), some (.int (nI st))]) rfl (fun d_1 hd_1 => ?_)
  refine am_run 1 (pc' := 1) (ls' := [some (.ref t), some (.int (nI st))]) (st' := [.int (nI st)]) (σ' := (μ, τ)) rfl ?_
  refine am_if (ty := 22) (tn := 4) rfl (by decide) rfl rfl (fun (h_2 : nI st < 0) => ?_) (fun (h_2 : ¬ (nI st < 0)) => ?_)
  · have h_2 : st < 0 := (am_nlt0 (by omega)).mp h_2
    exact absurd h_2 (Nat.not_lt_zero _)
  have h_2 : ¬ (st < 0) := fun z => h_2 ((am_nlt0 (by omega)).mpr z)
  refine am_run 2 (pc' := 6) (ls' := [some (.ref t), some (.int (nI st))]) (st' := [.ref t, .int (nI st)]) (σ' := (μ, τ)) rfl ?_
  refine am_getI (k := 8) rfl rfl (t3_kind hT3) rfl ?_
  refine am_top (v' := nI S.2.1) (c6) ?_
  refine am_ic (ty := 12) (tn := 22) rfl (by decide) rfl rfl (fun (h_3 : nI st < nI S.2.1) => ?_) (fun (h_3 : ¬ (nI st < nI S.2.1)) => ?_)
  rotate_left
  · have h_3 : ¬ (st < S.2.1) := fun z => h_3 ((nI_ltI (by omega) (by omega)).mpr z)
    omega
  have h_3 : st < S.2.1 := (nI_ltI (by omega) (by omega)).mp h_3
  refine am_run 2 (pc' := 15) (ls' := [some (.ref t), some (.int (nI st))]) (st' := [.int (nI 60), .int (nI st)]) (σ' := (μ, τ)) rfl ?_
  refine am_ic (ty := 18) (tn := 22) rfl (by decide) rfl rfl (fun (h_4 : nI st < nI 60) => ?_) (fun (h_4 : ¬ (nI st < nI 60)) => ?_)
  rotate_left
  · have h_4 : ¬ (st < 60) := fun z => h_4 ((nI_ltI (by omega) (by omega)).mpr z)
    omega
  have h_4 : st < 60 := (nI_ltI (by omega) (by omega)).mp h_4
  refine am_run 2 (pc' := 23) (ls' := [some (.ref t), some (.int (nI st))]) (st' := [.int (nI 1)]) (σ' := (μ, τ)) rfl ?_
  refine am_retz rfl rfl (by decide) ?_
  show am_G _ M_X8_setDetail _ 5 [some (.ref t), some (.int (nI st)), some (.int (nI v))] [.int (nI 1)] (μ, τ)
  refine am_if (ty := 15) (tn := 8) rfl (by decide) rfl rfl (fun (h_5 : nI 1 = 0) => ?_) (fun (h_5 : ¬ (nI 1 = 0)) => ?_)
  · exact absurd h_5 (by decide)
  refine am_run 1 (pc' := 9) (ls' := [some (.ref t), some (.int (nI st)), some (.int (nI v))]) (st' := [.ref t]) (σ' := (μ, τ)) rfl ?_
  refine am_getT hT3 (k := 1) (k1 := 2) rfl rfl rfl (by decide) rfl ?_
  refine am_run 2 (pc' := 14) (ls' := [some (.ref t), some (.int (nI st)), some (.int (nI v))]) (st' := [.int (nI v), .int (nI st), .ref (t + 2)]) (σ' := (μ, τ)) rfl ?_
  refine am_iastN (n := 60) rfl (t3_arr hT3 (by decide)).1 (t3_arr hT3 (by decide)).2 (by omega) (by decide) ?_
  refine am_retv rfl rfl ?_
  refine hq (am_wr (μ, τ) (t + 2) st (nI v)).1 ((KC.rf μ t).wt (by omega) _ _) (am_wr_ne _ (by omega)) (hC.same ⟨rfl, rfl, rfl⟩ (am_wr_ne _ (by omega)) (am_wr_ne _ (by omega)) (fun i hi => ?_))
  by_cases e : i = st
  · subst e
    have h8 := c8 i hi
    unfold RW at h8 ⊢
    obtain ⟨g1, g2, g3, g4, g5, g6, g7, g8, g9⟩ := h8
    rw [am_wr_ne _ (by omega), am_same, am_wr_ne _ (by omega), am_wr_ne _ (by omega), am_wr_ne _ (by omega), am_wr_ne _ (by omega), am_wr_ne _ (by omega), am_wr_ne _ (by omega)]
    have p1 : (ps_det S i v).2.2.2 1 i = v + 1 := if_pos ⟨rfl, rfl⟩
    have po : ∀ a, a ≠ 1 → (ps_det S i v).2.2.2 a i = S.2.2.2 a i := fun a ha => if_neg (fun z => ha z.2)
    rw [p1, oI_s, po 0 (by decide), po 2 (by decide), po 3 (by decide), po 4 (by decide), po 5 (by decide), po 6 (by decide), po 7 (by decide)]
    exact ⟨g1, rfl, g3, g4, g5, g6, g7, g8, g9⟩
  · refine (c8 i hi).old (fun a => if_neg (fun z => e z.1)) (fun j hj => ?_)
    by_cases z : j = 2
    · subst z; exact am_diff _ _ _ _ _ e
    · rw [am_wr_ne _ (by omega)]
set_option maxRecDepth 10000 in
set_option maxHeartbeats 2000000 in
theorem c_setDetail_f {d : Nat} (hd : 2 ≤ d) {μ : Nat → Nat → Int32} {τ : Nat → Nat → Nat} {t : Nat} (hT3 : T3 t) {y z : Int32} {Q : am_Q} (hq : ∀ μ', KC μ μ' t → μ' 44 = μ 44 → Q none (μ', τ)) : am_C d 110 [.ref t, .int y, .int z] (μ, τ) Q := by
  have ht4 := t3_44 hT3
  refine am_enter' (M := M_X8_setDetail) rfl rfl rfl (by omega) (ls := [some (.ref t), some (.int y), some (.int z)]) rfl (fun d' hd' => ?_)
  refine am_run 2 (pc' := 2) (ls' := [some (.ref t), some (.int y), some (.int z)]) (st' := [.int y, .ref t]) (σ' := (μ, τ)) rfl ?_
  refine am_invv (y := 106) (b := t) (as := [.int y]) (rest := []) rfl rfl rfl rfl rfl rfl (t3_kind hT3) (Nat.le_of_ble_eq_true rfl) ?_
  refine am_enter' rfl rfl rfl (by omega) (ls := [some (.ref t), some (.int y)]) rfl (fun d_1 hd_1 => ?_)
  refine am_run 1 (pc' := 1) (ls' := [some (.ref t), some (.int y)]) (st' := [.int y]) (σ' := (μ, τ)) rfl ?_
  refine am_if (ty := 22) (tn := 4) rfl (by decide) rfl rfl (fun (h_2 : y < 0) => ?_) (fun (h_2 : ¬ (y < 0)) => ?_)
  · refine am_run 1 (pc' := 23) (ls' := [some (.ref t), some (.int y)]) (st' := [.int (nI 0)]) (σ' := (μ, τ)) rfl ?_
    refine am_retz rfl rfl (by decide) ?_
    show am_G _ M_X8_setDetail _ 5 [some (.ref t), some (.int y), some (.int z)] [.int (nI 0)] (μ, τ)
    refine am_if (ty := 15) (tn := 8) rfl (by decide) rfl rfl (fun (h_3 : nI 0 = 0) => ?_) (fun (h_3 : ¬ (nI 0 = 0)) => ?_)
    rotate_left
    · exact absurd (by decide) h_3
    refine am_retv rfl rfl ?_
    exact hq μ (KC.rf μ t) rfl
  · refine am_run 2 (pc' := 6) (ls' := [some (.ref t), some (.int y)]) (st' := [.ref t, .int y]) (σ' := (μ, τ)) rfl ?_
    refine am_getI (k := 8) rfl rfl (t3_kind hT3) rfl ?_
    refine am_ic (ty := 12) (tn := 22) rfl (by decide) rfl rfl (fun (h_4 : y < (μ, τ).1 t 8) => ?_) (fun (h_4 : ¬ (y < (μ, τ).1 t 8)) => ?_)
    · refine am_run 2 (pc' := 15) (ls' := [some (.ref t), some (.int y)]) (st' := [.int (nI 60), .int y]) (σ' := (μ, τ)) rfl ?_
      refine am_ic (ty := 18) (tn := 22) rfl (by decide) rfl rfl (fun (h_5 : y < nI 60) => ?_) (fun (h_5 : ¬ (y < nI 60)) => ?_)
      · refine am_run 2 (pc' := 23) (ls' := [some (.ref t), some (.int y)]) (st' := [.int (nI 1)]) (σ' := (μ, τ)) rfl ?_
        refine am_retz rfl rfl (by decide) ?_
        show am_G _ M_X8_setDetail _ 5 [some (.ref t), some (.int y), some (.int z)] [.int (nI 1)] (μ, τ)
        refine am_if (ty := 15) (tn := 8) rfl (by decide) rfl rfl (fun (h_6 : nI 1 = 0) => ?_) (fun (h_6 : ¬ (nI 1 = 0)) => ?_)
        · exact absurd h_6 (by decide)
        refine am_run 1 (pc' := 9) (ls' := [some (.ref t), some (.int y), some (.int z)]) (st' := [.ref t]) (σ' := (μ, τ)) rfl ?_
        refine am_getT hT3 (k := 1) (k1 := 2) rfl rfl rfl (by decide) rfl ?_
        refine am_run 2 (pc' := 14) (ls' := [some (.ref t), some (.int y), some (.int z)]) (st' := [.int z, .int y, .ref (t + 2)]) (σ' := (μ, τ)) rfl ?_
        refine am_iast (n := 60) rfl (t3_arr hT3 (by decide)).1 (t3_arr hT3 (by decide)).2 (vp_of (by decide) (by assumption) (by assumption)) ?_
        refine am_retv rfl rfl ?_
        exact hq (am_wr (μ, τ) (t + 2) y.toNatClampNeg z).1 ((KC.rf μ t).wt (by omega) _ _) (by rw [am_wr_ne _ (by omega)])
      · refine am_run 1 (pc' := 23) (ls' := [some (.ref t), some (.int y)]) (st' := [.int (nI 0)]) (σ' := (μ, τ)) rfl ?_
        refine am_retz rfl rfl (by decide) ?_
        show am_G _ M_X8_setDetail _ 5 [some (.ref t), some (.int y), some (.int z)] [.int (nI 0)] (μ, τ)
        refine am_if (ty := 15) (tn := 8) rfl (by decide) rfl rfl (fun (h_7 : nI 0 = 0) => ?_) (fun (h_7 : ¬ (nI 0 = 0)) => ?_)
        rotate_left
        · exact absurd (by decide) h_7
        refine am_retv rfl rfl ?_
        exact hq μ (KC.rf μ t) rfl
    · refine am_run 1 (pc' := 23) (ls' := [some (.ref t), some (.int y)]) (st' := [.int (nI 0)]) (σ' := (μ, τ)) rfl ?_
      refine am_retz rfl rfl (by decide) ?_
      show am_G _ M_X8_setDetail _ 5 [some (.ref t), some (.int y), some (.int z)] [.int (nI 0)] (μ, τ)
      refine am_if (ty := 15) (tn := 8) rfl (by decide) rfl rfl (fun (h_8 : nI 0 = 0) => ?_) (fun (h_8 : ¬ (nI 0 = 0)) => ?_)
      rotate_left
      · exact absurd (by decide) h_8
      refine am_retv rfl rfl ?_
      exact hq μ (KC.rf μ t) rfl
set_option maxRecDepth 10000 in
set_option maxHeartbeats 2000000 in
theorem c_has_any {d : Nat} (hd : 1 ≤ d) {σ : am_M} {t : Nat} (hT3 : T3 t) {y : Int32} {Q : am_Q} (h1 : ¬ y < 0 → y < nI 60 → Q (some (.int (nI 1))) σ) (h0 : Q (some (.int (nI 0))) σ) : am_C d 106 [.ref t, .int y] σ Q := by
  refine am_enter' (M := M_X8_has) rfl rfl rfl (by omega) (ls := [some (.ref t), some (.int y)]) rfl (fun d' hd' => ?_)
  refine am_run 1 (pc' := 1) (ls' := [some (.ref t), some (.int y)]) (st' := [.int y]) (σ' := σ) rfl ?_
  refine am_if (ty := 22) (tn := 4) rfl (by decide) rfl rfl (fun (h_1 : y < 0) => ?_) (fun (h_1 : ¬ (y < 0)) => ?_)
  · refine am_run 1 (pc' := 23) (ls' := [some (.ref t), some (.int y)]) (st' := [.int (nI 0)]) (σ' := σ) rfl ?_
    refine am_retz rfl rfl (by decide) ?_
    exact h0
  · refine am_run 2 (pc' := 6) (ls' := [some (.ref t), some (.int y)]) (st' := [.ref t, .int y]) (σ' := σ) rfl ?_
    refine am_getI (k := 8) rfl rfl (t3_kind hT3) rfl ?_
    refine am_ic (ty := 12) (tn := 22) rfl (by decide) rfl rfl (fun (h_2 : y < σ.1 t 8) => ?_) (fun (h_2 : ¬ (y < σ.1 t 8)) => ?_)
    · refine am_run 2 (pc' := 15) (ls' := [some (.ref t), some (.int y)]) (st' := [.int (nI 60), .int y]) (σ' := σ) rfl ?_
      refine am_ic (ty := 18) (tn := 22) rfl (by decide) rfl rfl (fun (h_3 : y < nI 60) => ?_) (fun (h_3 : ¬ (y < nI 60)) => ?_)
      · refine am_run 2 (pc' := 23) (ls' := [some (.ref t), some (.int y)]) (st' := [.int (nI 1)]) (σ' := σ) rfl ?_
        refine am_retz rfl rfl (by decide) ?_
        exact h1 (by assumption) (by assumption)
      · refine am_run 1 (pc' := 23) (ls' := [some (.ref t), some (.int y)]) (st' := [.int (nI 0)]) (σ' := σ) rfl ?_
        refine am_retz rfl rfl (by decide) ?_
        exact h0
    · refine am_run 1 (pc' := 23) (ls' := [some (.ref t), some (.int y)]) (st' := [.int (nI 0)]) (σ' := σ) rfl ?_
      refine am_retz rfl rfl (by decide) ?_
      exact h0
set_option maxRecDepth 10000 in
set_option maxHeartbeats 2000000 in
theorem c_pausesOf_any {d : Nat} (hd : 2 ≤ d) {σ : am_M} {t : Nat} (hT3 : T3 t) {y : Int32} {Q : am_Q} (hq : ∀ v, Q (some (.int v)) σ) : am_C d 117 [.ref t, .int y] σ Q := by
  refine am_enter' (M := M_X8_pausesOf) rfl rfl rfl (by omega) (ls := [some (.ref t), some (.int y)]) rfl (fun d' hd' => ?_)
  refine am_run 2 (pc' := 2) (ls' := [some (.ref t), some (.int y)]) (st' := [.int y, .ref t]) (σ' := σ) rfl ?_
  refine am_invv (y := 106) (b := t) (as := [.int y]) (rest := []) rfl rfl rfl rfl rfl rfl (t3_kind hT3) (Nat.le_of_ble_eq_true rfl) ?_
  refine c_has_any (by omega) hT3 (fun ha_1 hb_1 => ?_) ?_
  · show am_G _ M_X8_pausesOf _ 5 [some (.ref t), some (.int y)] [.int (nI 1)] σ
    refine am_if (ty := 17) (tn := 8) rfl (by decide) rfl rfl (fun (h_2 : nI 1 = 0) => ?_) (fun (h_2 : ¬ (nI 1 = 0)) => ?_)
    · exact absurd h_2 (by decide)
    refine am_run 1 (pc' := 9) (ls' := [some (.ref t), some (.int y)]) (st' := [.ref t]) (σ' := σ) rfl ?_
    refine am_getT hT3 (k := 7) (k1 := 8) rfl rfl rfl (by decide) rfl ?_
    refine am_run 1 (pc' := 13) (ls' := [some (.ref t), some (.int y)]) (st' := [.int y, .ref (t + 8)]) (σ' := σ) rfl ?_
    refine am_iald (n := 60) rfl (t3_arr hT3 (by decide)).1 (t3_arr hT3 (by decide)).2 (vp_of (by decide) (by assumption) (by assumption)) ?_
    refine am_run 1 (pc' := 18) (ls' := [some (.ref t), some (.int y)]) (st' := [.int (σ.1 (t + 8) y.toNatClampNeg)]) (σ' := σ) rfl ?_
    refine am_reti rfl rfl ?_
    exact hq _
  · show am_G _ M_X8_pausesOf _ 5 [some (.ref t), some (.int y)] [.int (nI 0)] σ
    refine am_if (ty := 17) (tn := 8) rfl (by decide) rfl rfl (fun (h_3 : nI 0 = 0) => ?_) (fun (h_3 : ¬ (nI 0 = 0)) => ?_)
    rotate_left
    · exact absurd (by decide) h_3
    refine am_run 1 (pc' := 18) (ls' := [some (.ref t), some (.int y)]) (st' := [.int (nI 0)]) (σ' := σ) rfl ?_
    refine am_reti rfl rfl ?_
    exact hq _
set_option maxRecDepth 10000 in
set_option maxHeartbeats 2000000 in
theorem c_setOps_f {d : Nat} (hd : 3 ≤ d) {μ : Nat → Nat → Int32} {τ : Nat → Nat → Nat} {t : Nat} (hT3 : T3 t) {y z v : Int32} {Q : am_Q} (hq : ∀ μ', KC μ μ' t → μ' 44 = μ 44 → Q none (μ', τ)) : am_C d 111 [.ref t, .int y, .int z, .int v] (μ, τ) Q := by
  have ht4 := t3_44 hT3
  refine am_enter' (M := M_X8_setOperands) rfl rfl rfl (by omega) (ls := [some (.ref t), some (.int y), some (.int z), some (.int v)]) rfl (fun d' hd' => ?_)
  refine am_run 2 (pc' := 2) (ls' := [some (.ref t), some (.int y), some (.int z), some (.int v)]) (st' := [.int y, .ref t]) (σ' := (μ, τ)) rfl ?_
  refine am_invv (y := 106) (b := t) (as := [.int y]) (rest := []) rfl rfl rfl rfl rfl rfl (t3_kind hT3) (Nat.le_of_ble_eq_true rfl) ?_
  refine c_has_any (by omega) hT3 (fun ha_1 hb_1 => ?_) ?_
  · show am_G _ M_X8_setOperands _ 5 [some (.ref t), some (.int y), some (.int z), some (.int v)] [.int (nI 1)] (μ, τ)
    refine am_if (ty := 108) (tn := 8) rfl (by decide) rfl rfl (fun (h_2 : nI 1 = 0) => ?_) (fun (h_2 : ¬ (nI 1 = 0)) => ?_)
    · exact absurd h_2 (by decide)
    refine am_run 1 (pc' := 9) (ls' := [some (.ref t), some (.int y), some (.int z), some (.int v)]) (st' := [.ref t]) (σ' := (μ, τ)) rfl ?_
    refine am_getT hT3 (k := 3) (k1 := 4) rfl rfl rfl (by decide) rfl ?_
    refine am_run 2 (pc' := 14) (ls' := [some (.ref t), some (.int y), some (.int z), some (.int v)]) (st' := [.int z, .int y, .ref (t + 4)]) (σ' := (μ, τ)) rfl ?_
    refine am_iast (n := 60) rfl (t3_arr hT3 (by decide)).1 (t3_arr hT3 (by decide)).2 (vp_of (by decide) (by assumption) (by assumption)) ?_
    have hKm3 : KC μ (am_wr (μ, τ) (t + 4) y.toNatClampNeg z).1 t := (KC.rf μ t).wt (by omega) _ _
    have h44m3 : (am_wr (μ, τ) (t + 4) y.toNatClampNeg z).1 44 = μ 44 := am_wr_ne _ (by omega)
    refine am_mem (σ' := ((am_wr (μ, τ) (t + 4) y.toNatClampNeg z).1, τ)) rfl ?_
    generalize (am_wr (μ, τ) (t + 4) y.toNatClampNeg z).1 = μm3 at hKm3 h44m3 ⊢
    refine am_run 1 (pc' := 16) (ls' := [some (.ref t), some (.int y), some (.int z), some (.int v)]) (st' := [.ref t]) (σ' := (μm3, τ)) rfl ?_
    refine am_getT hT3 (k := 4) (k1 := 5) rfl rfl rfl (by decide) rfl ?_
    refine am_run 2 (pc' := 21) (ls' := [some (.ref t), some (.int y), some (.int z), some (.int v)]) (st' := [.int v, .int y, .ref (t + 5)]) (σ' := (μm3, τ)) rfl ?_
    refine am_iast (n := 60) rfl (t3_arr hT3 (by decide)).1 (t3_arr hT3 (by decide)).2 (vp_of (by decide) (by assumption) (by assumption)) ?_
    have hKm4 : KC μ (am_wr (μm3, τ) (t + 5) y.toNatClampNeg v).1 t := hKm3.wt (by omega) _ _
    have h44m4 : (am_wr (μm3, τ) (t + 5) y.toNatClampNeg v).1 44 = μ 44 := (am_wr_ne _ (by omega)).trans h44m3
    refine am_mem (σ' := ((am_wr (μm3, τ) (t + 5) y.toNatClampNeg v).1, τ)) rfl ?_
    generalize (am_wr (μm3, τ) (t + 5) y.toNatClampNeg v).1 = μm4 at hKm4 h44m4 ⊢
    refine am_run 1 (pc' := 23) (ls' := [some (.ref t), some (.int y), some (.int z), some (.int v)]) (st' := [.ref t]) (σ' := (μm4, τ)) rfl ?_
    refine am_getT hT3 (k := 7) (k1 := 8) rfl rfl rfl (by decide) rfl ?_
    refine am_run 3 (pc' := 29) (ls' := [some (.ref t), some (.int y), some (.int z), some (.int v)]) (st' := [.int z, .ref t, .int y, .ref (t + 8)]) (σ' := (μm4, τ)) rfl ?_
    refine am_invv (y := 117) (b := t) (as := [.int z]) (rest := [.int y, .ref (t + 8)]) rfl rfl rfl rfl rfl rfl (t3_kind hT3) (Nat.le_of_ble_eq_true rfl) ?_
    refine c_pausesOf_any (by omega) hT3 (fun v_5 => ?_)
    show am_G _ M_X8_setOperands _ 32 [some (.ref t), some (.int y), some (.int z), some (.int v)] [.int v_5, .int y, .ref (t + 8)] (μm4, τ)
    refine am_run 2 (pc' := 34) (ls' := [some (.ref t), some (.int y), some (.int z), some (.int v)]) (st' := [.int v, .ref t, .int v_5, .int y, .ref (t + 8)]) (σ' := (μm4, τ)) rfl ?_
    refine am_invv (y := 117) (b := t) (as := [.int v]) (rest := [.int v_5, .int y, .ref (t + 8)]) rfl rfl rfl rfl rfl rfl (t3_kind hT3) (Nat.le_of_ble_eq_true rfl) ?_
    refine c_pausesOf_any (by omega) hT3 (fun v_6 => ?_)
    show am_G _ M_X8_setOperands _ 37 [some (.ref t), some (.int y), some (.int z), some (.int v)] [.int v_6, .int v_5, .int y, .ref (t + 8)] (μm4, τ)
    refine am_run 1 (pc' := 38) (ls' := [some (.ref t), some (.int y), some (.int z), some (.int v)]) (st' := [.int (v_5 ||| v_6), .int y, .ref (t + 8)]) (σ' := (μm4, τ)) rfl ?_
    refine am_iast (n := 60) rfl (t3_arr hT3 (by decide)).1 (t3_arr hT3 (by decide)).2 (vp_of (by decide) (by assumption) (by assumption)) ?_
    have hKm7 : KC μ (am_wr (μm4, τ) (t + 8) y.toNatClampNeg (v_5 ||| v_6)).1 t := hKm4.wt (by omega) _ _
    have h44m7 : (am_wr (μm4, τ) (t + 8) y.toNatClampNeg (v_5 ||| v_6)).1 44 = μ 44 := (am_wr_ne _ (by omega)).trans h44m4
    refine am_mem (σ' := ((am_wr (μm4, τ) (t + 8) y.toNatClampNeg (v_5 ||| v_6)).1, τ)) rfl ?_
    generalize (am_wr (μm4, τ) (t + 8) y.toNatClampNeg (v_5 ||| v_6)).1 = μm7 at hKm7 h44m7 ⊢
    refine am_run 2 (pc' := 41) (ls' := [some (.ref t), some (.int y), some (.int z), some (.int v)]) (st' := [.int z, .ref t]) (σ' := (μm7, τ)) rfl ?_
    refine am_invv (y := 106) (b := t) (as := [.int z]) (rest := []) rfl rfl rfl rfl rfl rfl (t3_kind hT3) (Nat.le_of_ble_eq_true rfl) ?_
    refine c_has_any (by omega) hT3 (fun ha_8 hb_8 => ?_) ?_
    · show am_G _ M_X8_setOperands _ 44 [some (.ref t), some (.int y), some (.int z), some (.int v)] [.int (nI 1)] (μm7, τ)
      refine am_if (ty := 79) (tn := 47) rfl (by decide) rfl rfl (fun (h_9 : nI 1 = 0) => ?_) (fun (h_9 : ¬ (nI 1 = 0)) => ?_)
      · exact absurd h_9 (by decide)
      refine am_run 1 (pc' := 48) (ls' := [some (.ref t), some (.int y), some (.int z), some (.int v)]) (st' := [.ref t]) (σ' := (μm7, τ)) rfl ?_
      refine am_getT hT3 (k := 5) (k1 := 6) rfl rfl rfl (by decide) rfl ?_
      refine am_run 3 (pc' := 54) (ls' := [some (.ref t), some (.int y), some (.int z), some (.int v)]) (st' := [.ref t, .int y, .int y, .ref (t + 6)]) (σ' := (μm7, τ)) rfl ?_
      refine am_getT hT3 (k := 5) (k1 := 6) rfl rfl rfl (by decide) rfl ?_
      refine am_run 1 (pc' := 58) (ls' := [some (.ref t), some (.int y), some (.int z), some (.int v)]) (st' := [.int z, .ref (t + 6), .int y, .int y, .ref (t + 6)]) (σ' := (μm7, τ)) rfl ?_
      refine am_iald (n := 60) rfl (t3_arr hT3 (by decide)).1 (t3_arr hT3 (by decide)).2 (vp_of (by decide) (by assumption) (by assumption)) ?_
      generalize (μm7, τ).1 (t + 6) z.toNatClampNeg = gv_10
      refine am_mxr (b := false) rfl rfl (Nat.le_of_ble_eq_true rfl) ?_
      refine am_iast (n := 60) rfl (t3_arr hT3 (by decide)).1 (t3_arr hT3 (by decide)).2 (vp_of (by decide) (by assumption) (by assumption)) ?_
      have hKm11 : KC μ (am_wr (μm7, τ) (t + 6) y.toNatClampNeg (am_mx false y gv_10)).1 t := hKm7.wt (by omega) _ _
      have h44m11 : (am_wr (μm7, τ) (t + 6) y.toNatClampNeg (am_mx false y gv_10)).1 44 = μ 44 := (am_wr_ne _ (by omega)).trans h44m7
      refine am_mem (σ' := ((am_wr (μm7, τ) (t + 6) y.toNatClampNeg (am_mx false y gv_10)).1, τ)) rfl ?_
      generalize (am_wr (μm7, τ) (t + 6) y.toNatClampNeg (am_mx false y gv_10)).1 = μm11 at hKm11 h44m11 ⊢
      refine am_run 1 (pc' := 64) (ls' := [some (.ref t), some (.int y), some (.int z), some (.int v)]) (st' := [.ref t]) (σ' := (μm11, τ)) rfl ?_
      refine am_getT hT3 (k := 6) (k1 := 7) rfl rfl rfl (by decide) rfl ?_
      refine am_run 3 (pc' := 70) (ls' := [some (.ref t), some (.int y), some (.int z), some (.int v)]) (st' := [.ref t, .int y, .int y, .ref (t + 7)]) (σ' := (μm11, τ)) rfl ?_
      refine am_getT hT3 (k := 6) (k1 := 7) rfl rfl rfl (by decide) rfl ?_
      refine am_run 1 (pc' := 74) (ls' := [some (.ref t), some (.int y), some (.int z), some (.int v)]) (st' := [.int z, .ref (t + 7), .int y, .int y, .ref (t + 7)]) (σ' := (μm11, τ)) rfl ?_
      refine am_iald (n := 60) rfl (t3_arr hT3 (by decide)).1 (t3_arr hT3 (by decide)).2 (vp_of (by decide) (by assumption) (by assumption)) ?_
      generalize (μm11, τ).1 (t + 7) z.toNatClampNeg = gv_12
      refine am_mxr (b := true) rfl rfl (Nat.le_of_ble_eq_true rfl) ?_
      refine am_iast (n := 60) rfl (t3_arr hT3 (by decide)).1 (t3_arr hT3 (by decide)).2 (vp_of (by decide) (by assumption) (by assumption)) ?_
      have hKm13 : KC μ (am_wr (μm11, τ) (t + 7) y.toNatClampNeg (am_mx true y gv_12)).1 t := hKm11.wt (by omega) _ _
      have h44m13 : (am_wr (μm11, τ) (t + 7) y.toNatClampNeg (am_mx true y gv_12)).1 44 = μ 44 := (am_wr_ne _ (by omega)).trans h44m11
      refine am_mem (σ' := ((am_wr (μm11, τ) (t + 7) y.toNatClampNeg (am_mx true y gv_12)).1, τ)) rfl ?_
      generalize (am_wr (μm11, τ) (t + 7) y.toNatClampNeg (am_mx true y gv_12)).1 = μm13 at hKm13 h44m13 ⊢
      refine am_run 2 (pc' := 81) (ls' := [some (.ref t), some (.int y), some (.int z), some (.int v)]) (st' := [.int v, .ref t]) (σ' := (μm13, τ)) rfl ?_
      refine am_invv (y := 106) (b := t) (as := [.int v]) (rest := []) rfl rfl rfl rfl rfl rfl (t3_kind hT3) (Nat.le_of_ble_eq_true rfl) ?_
      refine c_has_any (by omega) hT3 (fun ha_14 hb_14 => ?_) ?_
      · show am_G _ M_X8_setOperands _ 84 [some (.ref t), some (.int y), some (.int z), some (.int v)] [.int (nI 1)] (μm13, τ)
        refine am_if (ty := 108) (tn := 87) rfl (by decide) rfl rfl (fun (h_15 : nI 1 = 0) => ?_) (fun (h_15 : ¬ (nI 1 = 0)) => ?_)
        · exact absurd h_15 (by decide)
        refine am_run 1 (pc' := 88) (ls' := [some (.ref t), some (.int y), some (.int z), some (.int v)]) (st' := [.ref t]) (σ' := (μm13, τ)) rfl ?_
        refine am_getT hT3 (k := 6) (k1 := 7) rfl rfl rfl (by decide) rfl ?_
        refine am_run 2 (pc' := 93) (ls' := [some (.ref t), some (.int y), some (.int z), some (.int v)]) (st' := [.ref t, .int y, .ref (t + 7)]) (σ' := (μm13, τ)) rfl ?_
        refine am_getT hT3 (k := 6) (k1 := 7) rfl rfl rfl (by decide) rfl ?_
        refine am_run 1 (pc' := 97) (ls' := [some (.ref t), some (.int y), some (.int z), some (.int v)]) (st' := [.int y, .ref (t + 7), .int y, .ref (t + 7)]) (σ' := (μm13, τ)) rfl ?_
        refine am_iald (n := 60) rfl (t3_arr hT3 (by decide)).1 (t3_arr hT3 (by decide)).2 (vp_of (by decide) (by assumption) (by assumption)) ?_
        generalize (μm13, τ).1 (t + 7) y.toNatClampNeg = gv_16
        refine am_run 1 (pc' := 99) (ls' := [some (.ref t), some (.int y), some (.int z), some (.int v)]) (st' := [.ref t, .int gv_16, .int y, .ref (t + 7)]) (σ' := (μm13, τ)) rfl ?_
        refine am_getT hT3 (k := 6) (k1 := 7) rfl rfl rfl (by decide) rfl ?_
        refine am_run 1 (pc' := 103) (ls' := [some (.ref t), some (.int y), some (.int z), some (.int v)]) (st' := [.int v, .ref (t + 7), .int gv_16, .int y, .ref (t + 7)]) (σ' := (μm13, τ)) rfl ?_
        refine am_iald (n := 60) rfl (t3_arr hT3 (by decide)).1 (t3_arr hT3 (by decide)).2 (vp_of (by decide) (by assumption) (by assumption)) ?_
        generalize (μm13, τ).1 (t + 7) v.toNatClampNeg = gv_17
        refine am_mxr (b := true) rfl rfl (Nat.le_of_ble_eq_true rfl) ?_
        refine am_iast (n := 60) rfl (t3_arr hT3 (by decide)).1 (t3_arr hT3 (by decide)).2 (vp_of (by decide) (by assumption) (by assumption)) ?_
        have hKm18 : KC μ (am_wr (μm13, τ) (t + 7) y.toNatClampNeg (am_mx true gv_16 gv_17)).1 t := hKm13.wt (by omega) _ _
        have h44m18 : (am_wr (μm13, τ) (t + 7) y.toNatClampNeg (am_mx true gv_16 gv_17)).1 44 = μ 44 := (am_wr_ne _ (by omega)).trans h44m13
        refine am_mem (σ' := ((am_wr (μm13, τ) (t + 7) y.toNatClampNeg (am_mx true gv_16 gv_17)).1, τ)) rfl ?_
        generalize (am_wr (μm13, τ) (t + 7) y.toNatClampNeg (am_mx true gv_16 gv_17)).1 = μm18 at hKm18 h44m18 ⊢
        refine am_retv rfl rfl ?_
        exact hq μm18 hKm18 h44m18
      · show am_G _ M_X8_setOperands _ 84 [some (.ref t), some (.int y), some (.int z), some (.int v)] [.int (nI 0)] (μm13, τ)
        refine am_if (ty := 108) (tn := 87) rfl (by decide) rfl rfl (fun (h_19 : nI 0 = 0) => ?_) (fun (h_19 : ¬ (nI 0 = 0)) => ?_)
        rotate_left
        · exact absurd (by decide) h_19
        refine am_retv rfl rfl ?_
        exact hq μm13 hKm13 h44m13
    · show am_G _ M_X8_setOperands _ 44 [some (.ref t), some (.int y), some (.int z), some (.int v)] [.int (nI 0)] (μm7, τ)
      refine am_if (ty := 79) (tn := 47) rfl (by decide) rfl rfl (fun (h_20 : nI 0 = 0) => ?_) (fun (h_20 : ¬ (nI 0 = 0)) => ?_)
      rotate_left
      · exact absurd (by decide) h_20
      refine am_run 2 (pc' := 81) (ls' := [some (.ref t), some (.int y), some (.int z), some (.int v)]) (st' := [.int v, .ref t]) (σ' := (μm7, τ)) rfl ?_
      refine am_invv (y := 106) (b := t) (as := [.int v]) (rest := []) rfl rfl rfl rfl rfl rfl (t3_kind hT3) (Nat.le_of_ble_eq_true rfl) ?_
      refine c_has_any (by omega) hT3 (fun ha_21 hb_21 => ?_) ?_
      · show am_G _ M_X8_setOperands _ 84 [some (.ref t), some (.int y), some (.int z), some (.int v)] [.int (nI 1)] (μm7, τ)
        refine am_if (ty := 108) (tn := 87) rfl (by decide) rfl rfl (fun (h_22 : nI 1 = 0) => ?_) (fun (h_22 : ¬ (nI 1 = 0)) => ?_)
        · exact absurd h_22 (by decide)
        refine am_run 1 (pc' := 88) (ls' := [some (.ref t), some (.int y), some (.int z), some (.int v)]) (st' := [.ref t]) (σ' := (μm7, τ)) rfl ?_
        refine am_getT hT3 (k := 6) (k1 := 7) rfl rfl rfl (by decide) rfl ?_
        refine am_run 2 (pc' := 93) (ls' := [some (.ref t), some (.int y), some (.int z), some (.int v)]) (st' := [.ref t, .int y, .ref (t + 7)]) (σ' := (μm7, τ)) rfl ?_
        refine am_getT hT3 (k := 6) (k1 := 7) rfl rfl rfl (by decide) rfl ?_
        refine am_run 1 (pc' := 97) (ls' := [some (.ref t), some (.int y), some (.int z), some (.int v)]) (st' := [.int y, .ref (t + 7), .int y, .ref (t + 7)]) (σ' := (μm7, τ)) rfl ?_
        refine am_iald (n := 60) rfl (t3_arr hT3 (by decide)).1 (t3_arr hT3 (by decide)).2 (vp_of (by decide) (by assumption) (by assumption)) ?_
        generalize (μm7, τ).1 (t + 7) y.toNatClampNeg = gv_23
        refine am_run 1 (pc' := 99) (ls' := [some (.ref t), some (.int y), some (.int z), some (.int v)]) (st' := [.ref t, .int gv_23, .int y, .ref (t + 7)]) (σ' := (μm7, τ)) rfl ?_
        refine am_getT hT3 (k := 6) (k1 := 7) rfl rfl rfl (by decide) rfl ?_
        refine am_run 1 (pc' := 103) (ls' := [some (.ref t), some (.int y), some (.int z), some (.int v)]) (st' := [.int v, .ref (t + 7), .int gv_23, .int y, .ref (t + 7)]) (σ' := (μm7, τ)) rfl ?_
        refine am_iald (n := 60) rfl (t3_arr hT3 (by decide)).1 (t3_arr hT3 (by decide)).2 (vp_of (by decide) (by assumption) (by assumption)) ?_
        generalize (μm7, τ).1 (t + 7) v.toNatClampNeg = gv_24
        refine am_mxr (b := true) rfl rfl (Nat.le_of_ble_eq_true rfl) ?_
        refine am_iast (n := 60) rfl (t3_arr hT3 (by decide)).1 (t3_arr hT3 (by decide)).2 (vp_of (by decide) (by assumption) (by assumption)) ?_
        have hKm25 : KC μ (am_wr (μm7, τ) (t + 7) y.toNatClampNeg (am_mx true gv_23 gv_24)).1 t := hKm7.wt (by omega) _ _
        have h44m25 : (am_wr (μm7, τ) (t + 7) y.toNatClampNeg (am_mx true gv_23 gv_24)).1 44 = μ 44 := (am_wr_ne _ (by omega)).trans h44m7
        refine am_mem (σ' := ((am_wr (μm7, τ) (t + 7) y.toNatClampNeg (am_mx true gv_23 gv_24)).1, τ)) rfl ?_
        generalize (am_wr (μm7, τ) (t + 7) y.toNatClampNeg (am_mx true gv_23 gv_24)).1 = μm25 at hKm25 h44m25 ⊢
        refine am_retv rfl rfl ?_
        exact hq μm25 hKm25 h44m25
      · show am_G _ M_X8_setOperands _ 84 [some (.ref t), some (.int y), some (.int z), some (.int v)] [.int (nI 0)] (μm7, τ)
        refine am_if (ty := 108) (tn := 87) rfl (by decide) rfl rfl (fun (h_26 : nI 0 = 0) => ?_) (fun (h_26 : ¬ (nI 0 = 0)) => ?_)
        rotate_left
        · exact absurd (by decide) h_26
        refine am_retv rfl rfl ?_
        exact hq μm7 hKm7 h44m7
  · show am_G _ M_X8_setOperands _ 5 [some (.ref t), some (.int y), some (.int z), some (.int v)] [.int (nI 0)] (μ, τ)
    refine am_if (ty := 108) (tn := 8) rfl (by decide) rfl rfl (fun (h_27 : nI 0 = 0) => ?_) (fun (h_27 : ¬ (nI 0 = 0)) => ?_)
    rotate_left
    · exact absurd (by decide) h_27
    refine am_retv rfl rfl ?_
    exact hq μ (KC.rf μ t) rfl
set_option maxRecDepth 10000 in
set_option maxHeartbeats 2000000 in
theorem c_hasN {d : Nat} (hd : 1 ≤ d) {σ : am_M} {t n k : Nat} (hT3 : T3 t) (hsz : σ.1 t 8 = nI n) (hn60 : n ≤ 60) (hk : k < n) {Q : am_Q} (hq : Q (some (.int (nI 1))) σ) : am_C d 106 [.ref t, .int (nI k)] σ Q := by
  refine am_enter' (M := M_X8_has) rfl rfl rfl (by omega) (ls := [some (.ref t), some (.int (nI k))]) rfl (fun d' hd' => ?_)
  refine am_run 1 (pc' := 1) (ls' := [some (.ref t), some (.int (nI k))]) (st' := [.int (nI k)]) (σ' := σ) rfl ?_
  refine am_if (ty := 22) (tn := 4) rfl (by decide) rfl rfl (fun (h_1 : nI k < 0) => ?_) (fun (h_1 : ¬ (nI k < 0)) => ?_)
  · have h_1 : k < 0 := (am_nlt0 (by omega)).mp h_1
    exact absurd h_1 (Nat.not_lt_zero _)
  have h_1 : ¬ (k < 0) := fun z => h_1 ((am_nlt0 (by omega)).mpr z)
  refine am_run 2 (pc' := 6) (ls' := [some (.ref t), some (.int (nI k))]) (st' := [.ref t, .int (nI k)]) (σ' := σ) rfl ?_
  refine am_getI (k := 8) rfl rfl (t3_kind hT3) rfl ?_
  refine am_top (v' := nI n) hsz ?_
  refine am_ic (ty := 12) (tn := 22) rfl (by decide) rfl rfl (fun (h_2 : nI k < nI n) => ?_) (fun (h_2 : ¬ (nI k < nI n)) => ?_)
  rotate_left
  · have h_2 : ¬ (k < n) := fun z => h_2 ((nI_ltI (by omega) (by omega)).mpr z)
    omega
  have h_2 : k < n := (nI_ltI (by omega) (by omega)).mp h_2
  refine am_run 2 (pc' := 15) (ls' := [some (.ref t), some (.int (nI k))]) (st' := [.int (nI 60), .int (nI k)]) (σ' := σ) rfl ?_
  refine am_ic (ty := 18) (tn := 22) rfl (by decide) rfl rfl (fun (h_3 : nI k < nI 60) => ?_) (fun (h_3 : ¬ (nI k < nI 60)) => ?_)
  rotate_left
  · have h_3 : ¬ (k < 60) := fun z => h_3 ((nI_ltI (by omega) (by omega)).mpr z)
    omega
  have h_3 : k < 60 := (nI_ltI (by omega) (by omega)).mp h_3
  refine am_run 2 (pc' := 23) (ls' := [some (.ref t), some (.int (nI k))]) (st' := [.int (nI 1)]) (σ' := σ) rfl ?_
  refine am_retz rfl rfl (by decide) ?_
  exact hq
set_option maxRecDepth 10000 in
set_option maxHeartbeats 2000000 in
theorem c_hasM {d : Nat} (hd : 1 ≤ d) {σ : am_M} {t : Nat} (hT3 : T3 t) {Q : am_Q} (hq : Q (some (.int (nI 0))) σ) : am_C d 106 [.ref t, .int (-1)] σ Q := by
  refine am_enter' (M := M_X8_has) rfl rfl rfl (by omega) (ls := [some (.ref t), some (.int (-1))]) rfl (fun d' hd' => ?_)
  refine am_run 1 (pc' := 1) (ls' := [some (.ref t), some (.int (-1))]) (st' := [.int (-1)]) (σ' := σ) rfl ?_
  refine am_if (ty := 22) (tn := 4) rfl (by decide) rfl rfl (fun (h_1 : -1 < 0) => ?_) (fun (h_1 : ¬ (-1 < 0)) => ?_)
  rotate_left
  · exact absurd (by decide) h_1
  refine am_run 1 (pc' := 23) (ls' := [some (.ref t), some (.int (-1))]) (st' := [.int (nI 0)]) (σ' := σ) rfl ?_
  refine am_retz rfl rfl (by decide) ?_
  exact hq
set_option maxRecDepth 10000 in
set_option maxHeartbeats 2000000 in
theorem c_setOps {d : Nat} (hd : 4 ≤ d) {μ : Nat → Nat → Int32} {τ : Nat → Nat → Nat} {t L : Nat} {S : PS} (hT3 : T3 t) (hC : CR μ t L S) {st l r : Nat} (hst : st < S.2.1) (hl : l < S.2.1) (hls : l ≠ st) (hr : r ≤ S.2.1) (hrs : r ≠ st + 1) {Q : am_Q} (hq : ∀ μ', KC μ μ' t → μ' 44 = μ 44 → CR μ' t L (ps_ops S st (l + 1) r) → Q none (μ', τ)) : am_C d 111 [.ref t, .int (nI st), .int (nI l), .int (oI r)] (μ, τ) Q := by
  obtain ⟨c1, c2, c3, c4, c5, c6, c7, c8⟩ := id hC
  have ht4 := t3_44 hT3
  obtain ⟨l1, l2, l3, l4, l5, l6, l7, l8, l9, l10, l11⟩ := c8 l hl
  obtain ⟨s1, s2, s3, s4, s5, s6, s7, s8, s9, s10, s11⟩ := c8 st hst
  have fin : ∀ (μ' : Nat → Nat → Int32) (A : Nat), A = pz S.2.2.2 r → (∀ c, c ≠ t + 4 → c ≠ t + 5 → c ≠ t + 6 → c ≠ t + 7 → c ≠ t + 8 → μ' c = μ c) → (∀ j i, i ≠ st → μ' (t + j) i = μ (t + j) i) → μ' (t + 4) st = nI l → μ' (t + 5) st = oI r → μ' (t + 6) st = nI (min st (S.2.2.2 6 l)) → μ' (t + 7) st = nI ((ps_ops S st (l + 1) r).2.2.2 7 st) → (ps_ops S st (l + 1) r).2.2.2 7 st < 60 → μ' (t + 8) st = nI (S.2.2.2 4 l ||| A) → A < 1048576 → Q none (μ', τ) := by
    intro μ' A hA k1 k2 k4 k5 k6 k7 k7b k8 hAb
    have hK : KC μ μ' t := fun c a b => k1 c (by omega) (by omega) (by omega) (by omega) (by omega)
    refine hq μ' hK (k1 44 (by omega) (by omega) (by omega) (by omega) (by omega)) (hC.same ⟨rfl, rfl, rfl⟩ (k1 44 (by omega) (by omega) (by omega) (by omega) (by omega)) (k1 t (by omega) (by omega) (by omega) (by omega) (by omega)) (fun i hi => ?_))
    by_cases e : i = st
    · subst e
      unfold RW
      rw [k1 (t + 1) (by omega) (by omega) (by omega) (by omega) (by omega), k1 (t + 2) (by omega) (by omega) (by omega) (by omega) (by omega), k1 (t + 3) (by omega) (by omega) (by omega) (by omega) (by omega), k4, k5, k6, k7, k8]
      have e0 : (ps_ops S i (l + 1) r).2.2.2 0 i = S.2.2.2 0 i := if_pos rfl
      have e1 : (ps_ops S i (l + 1) r).2.2.2 1 i = S.2.2.2 1 i := if_pos rfl
      have e5 : (ps_ops S i (l + 1) r).2.2.2 5 i = S.2.2.2 5 i := if_pos rfl
      have e2 : (ps_ops S i (l + 1) r).2.2.2 2 i = l + 1 := if_pos rfl
      have e3 : (ps_ops S i (l + 1) r).2.2.2 3 i = r := if_pos rfl
      have e4 : (ps_ops S i (l + 1) r).2.2.2 4 i = S.2.2.2 4 l ||| A := by rw [hA]; exact if_pos rfl
      have e6 : (ps_ops S i (l + 1) r).2.2.2 6 i = min i (S.2.2.2 6 l) := if_pos rfl
      rw [e0, e1, e2, e3, e4, e5, e6, oI_s]
      exact ⟨s1, s2, s3, rfl, rfl, rfl, rfl, rfl, or_lt20 l9 hAb, by omega, k7b⟩
    · exact (c8 i hi).old (fun a => if_neg e) (fun j hj => k2 j i e)
  cases r with
  | zero =>
    rw [oI_0]
    have fin := fin
    refine am_enter' (M := M_X8_setOperands) rfl rfl rfl (by omega) (ls := [some (.ref t), some (.int (nI st)), some (.int (nI l)), some (.int (-1))]) rfl (fun d' hd' => ?_)
    refine am_run 2 (pc' := 2) (ls' := [some (.ref t), some (.int (nI st)), some (.int (nI l)), some (.int (-1))]) (st' := [.int (nI st), .ref t]) (σ' := (μ, τ)) rfl ?_
    refine am_invv (y := 106) (b := t) (as := [.int (nI st)]) (rest := []) rfl rfl rfl rfl rfl rfl (t3_kind hT3) (Nat.le_of_ble_eq_true rfl) ?_
    refine c_hasN (by omega) hT3 (n := S.2.1) (c6) c2 (by omega) ?_
    show am_G _ M_X8_setOperands _ 5 [some (.ref t), some (.int (nI st)), some (.int (nI l)), some (.int (-1))] [.int (nI 1)] (μ, τ)
    refine am_if (ty := 108) (tn := 8) rfl (by decide) rfl rfl (fun (h_1 : nI 1 = 0) => ?_) (fun (h_1 : ¬ (nI 1 = 0)) => ?_)
    · exact absurd h_1 (by decide)
    refine am_run 1 (pc' := 9) (ls' := [some (.ref t), some (.int (nI st)), some (.int (nI l)), some (.int (-1))]) (st' := [.ref t]) (σ' := (μ, τ)) rfl ?_
    refine am_getT hT3 (k := 3) (k1 := 4) rfl rfl rfl (by decide) rfl ?_
    refine am_run 2 (pc' := 14) (ls' := [some (.ref t), some (.int (nI st)), some (.int (nI l)), some (.int (-1))]) (st' := [.int (nI l), .int (nI st), .ref (t + 4)]) (σ' := (μ, τ)) rfl ?_
    refine am_iastN (n := 60) rfl (t3_arr hT3 (by decide)).1 (t3_arr hT3 (by decide)).2 (by omega) (by decide) ?_
    refine am_run 1 (pc' := 16) (ls' := [some (.ref t), some (.int (nI st)), some (.int (nI l)), some (.int (-1))]) (st' := [.ref t]) (σ' := (am_wr (μ, τ) (t + 4) st (nI l))) rfl ?_
    refine am_getT hT3 (k := 4) (k1 := 5) rfl rfl rfl (by decide) rfl ?_
    refine am_run 2 (pc' := 21) (ls' := [some (.ref t), some (.int (nI st)), some (.int (nI l)), some (.int (-1))]) (st' := [.int (-1), .int (nI st), .ref (t + 5)]) (σ' := (am_wr (μ, τ) (t + 4) st (nI l))) rfl ?_
    refine am_iastN (n := 60) rfl (t3_arr hT3 (by decide)).1 (t3_arr hT3 (by decide)).2 (by omega) (by decide) ?_
    refine am_run 1 (pc' := 23) (ls' := [some (.ref t), some (.int (nI st)), some (.int (nI l)), some (.int (-1))]) (st' := [.ref t]) (σ' := (am_wr (am_wr (μ, τ) (t + 4) st (nI l)) (t + 5) st (-1))) rfl ?_
    refine am_getT hT3 (k := 7) (k1 := 8) rfl rfl rfl (by decide) rfl ?_
    refine am_run 3 (pc' := 29) (ls' := [some (.ref t), some (.int (nI st)), some (.int (nI l)), some (.int (-1))]) (st' := [.int (nI l), .ref t, .int (nI st), .ref (t + 8)]) (σ' := (am_wr (am_wr (μ, τ) (t + 4) st (nI l)) (t + 5) st (-1))) rfl ?_
    refine am_invv (y := 117) (b := t) (as := [.int (nI l)]) (rest := [.int (nI st), .ref (t + 8)]) rfl rfl rfl rfl rfl rfl (t3_kind hT3) (Nat.le_of_ble_eq_true rfl) ?_
    refine am_enter' rfl rfl rfl (by omega) (ls := [some (.ref t), some (.int (nI l))]) rfl (fun d_2 hd_2 => ?_)
    refine am_run 2 (pc' := 2) (ls' := [some (.ref t), some (.int (nI l))]) (st' := [.int (nI l), .ref t]) (σ' := (am_wr (am_wr (μ, τ) (t + 4) st (nI l)) (t + 5) st (-1))) rfl ?_
    refine am_invv (y := 106) (b := t) (as := [.int (nI l)]) (rest := []) rfl rfl rfl rfl rfl rfl (t3_kind hT3) (Nat.le_of_ble_eq_true rfl) ?_
    refine c_hasN (by omega) hT3 (n := S.2.1) (by rw [am_wr_ne _ (by omega), am_wr_ne _ (by omega)]; exact c6) c2 (by omega) ?_
    show am_G _ M_X8_pausesOf _ 5 [some (.ref t), some (.int (nI l))] [.int (nI 1)] (am_wr (am_wr (μ, τ) (t + 4) st (nI l)) (t + 5) st (-1))
    refine am_if (ty := 17) (tn := 8) rfl (by decide) rfl rfl (fun (h_3 : nI 1 = 0) => ?_) (fun (h_3 : ¬ (nI 1 = 0)) => ?_)
    · exact absurd h_3 (by decide)
    refine am_run 1 (pc' := 9) (ls' := [some (.ref t), some (.int (nI l))]) (st' := [.ref t]) (σ' := (am_wr (am_wr (μ, τ) (t + 4) st (nI l)) (t + 5) st (-1))) rfl ?_
    refine am_getT hT3 (k := 7) (k1 := 8) rfl rfl rfl (by decide) rfl ?_
    refine am_run 1 (pc' := 13) (ls' := [some (.ref t), some (.int (nI l))]) (st' := [.int (nI l), .ref (t + 8)]) (σ' := (am_wr (am_wr (μ, τ) (t + 4) st (nI l)) (t + 5) st (-1))) rfl ?_
    refine am_ialdN (n := 60) (v := nI (S.2.2.2 4 l)) rfl (t3_arr hT3 (by decide)).1 (t3_arr hT3 (by decide)).2 (by omega) (by rw [am_wr_ne _ (by omega), am_wr_ne _ (by omega)]; exact l8) (by decide) ?_
    refine am_run 1 (pc' := 18) (ls' := [some (.ref t), some (.int (nI l))]) (st' := [.int (nI (S.2.2.2 4 l))]) (σ' := (am_wr (am_wr (μ, τ) (t + 4) st (nI l)) (t + 5) st (-1))) rfl ?_
    refine am_reti rfl rfl ?_
    show am_G _ M_X8_setOperands _ 32 [some (.ref t), some (.int (nI st)), some (.int (nI l)), some (.int (-1))] [.int (nI (S.2.2.2 4 l)), .int (nI st), .ref (t + 8)] (am_wr (am_wr (μ, τ) (t + 4) st (nI l)) (t + 5) st (-1))
    refine am_run 2 (pc' := 34) (ls' := [some (.ref t), some (.int (nI st)), some (.int (nI l)), some (.int (-1))]) (st' := [.int (-1), .ref t, .int (nI (S.2.2.2 4 l)), .int (nI st), .ref (t + 8)]) (σ' := (am_wr (am_wr (μ, τ) (t + 4) st (nI l)) (t + 5) st (-1))) rfl ?_
    refine am_invv (y := 117) (b := t) (as := [.int (-1)]) (rest := [.int (nI (S.2.2.2 4 l)), .int (nI st), .ref (t + 8)]) rfl rfl rfl rfl rfl rfl (t3_kind hT3) (Nat.le_of_ble_eq_true rfl) ?_
    refine am_enter' rfl rfl rfl (by omega) (ls := [some (.ref t), some (.int (-1))]) rfl (fun d_4 hd_4 => ?_)
    refine am_run 2 (pc' := 2) (ls' := [some (.ref t), some (.int (-1))]) (st' := [.int (-1), .ref t]) (σ' := (am_wr (am_wr (μ, τ) (t + 4) st (nI l)) (t + 5) st (-1))) rfl ?_
    refine am_invv (y := 106) (b := t) (as := [.int (-1)]) (rest := []) rfl rfl rfl rfl rfl rfl (t3_kind hT3) (Nat.le_of_ble_eq_true rfl) ?_
    refine c_hasM (by omega) hT3 ?_
    show am_G _ M_X8_pausesOf _ 5 [some (.ref t), some (.int (-1))] [.int (nI 0)] (am_wr (am_wr (μ, τ) (t + 4) st (nI l)) (t + 5) st (-1))
    refine am_if (ty := 17) (tn := 8) rfl (by decide) rfl rfl (fun (h_5 : nI 0 = 0) => ?_) (fun (h_5 : ¬ (nI 0 = 0)) => ?_)
    rotate_left
    · exact absurd (by decide) h_5
    refine am_run 1 (pc' := 18) (ls' := [some (.ref t), some (.int (-1))]) (st' := [.int (nI 0)]) (σ' := (am_wr (am_wr (μ, τ) (t + 4) st (nI l)) (t + 5) st (-1))) rfl ?_
    refine am_reti rfl rfl ?_
    show am_G _ M_X8_setOperands _ 37 [some (.ref t), some (.int (nI st)), some (.int (nI l)), some (.int (-1))] [.int (nI 0), .int (nI (S.2.2.2 4 l)), .int (nI st), .ref (t + 8)] (am_wr (am_wr (μ, τ) (t + 4) st (nI l)) (t + 5) st (-1))
    refine am_run 1 (pc' := 38) (ls' := [some (.ref t), some (.int (nI st)), some (.int (nI l)), some (.int (-1))]) (st' := [.int (nI (S.2.2.2 4 l) ||| nI 0), .int (nI st), .ref (t + 8)]) (σ' := (am_wr (am_wr (μ, τ) (t + 4) st (nI l)) (t + 5) st (-1))) rfl ?_
    refine am_top (v' := nI (S.2.2.2 4 l ||| 0)) (nx_or _ _) ?_
    refine am_iastN (n := 60) rfl (t3_arr hT3 (by decide)).1 (t3_arr hT3 (by decide)).2 (by omega) (by decide) ?_
    refine am_run 2 (pc' := 41) (ls' := [some (.ref t), some (.int (nI st)), some (.int (nI l)), some (.int (-1))]) (st' := [.int (nI l), .ref t]) (σ' := (am_wr (am_wr (am_wr (μ, τ) (t + 4) st (nI l)) (t + 5) st (-1)) (t + 8) st (nI (S.2.2.2 4 l ||| 0)))) rfl ?_
    refine am_invv (y := 106) (b := t) (as := [.int (nI l)]) (rest := []) rfl rfl rfl rfl rfl rfl (t3_kind hT3) (Nat.le_of_ble_eq_true rfl) ?_
    refine c_hasN (by omega) hT3 (n := S.2.1) (by rw [am_wr_ne _ (by omega), am_wr_ne _ (by omega), am_wr_ne _ (by omega)]; exact c6) c2 (by omega) ?_
    show am_G _ M_X8_setOperands _ 44 [some (.ref t), some (.int (nI st)), some (.int (nI l)), some (.int (-1))] [.int (nI 1)] (am_wr (am_wr (am_wr (μ, τ) (t + 4) st (nI l)) (t + 5) st (-1)) (t + 8) st (nI (S.2.2.2 4 l ||| 0)))
    refine am_if (ty := 79) (tn := 47) rfl (by decide) rfl rfl (fun (h_6 : nI 1 = 0) => ?_) (fun (h_6 : ¬ (nI 1 = 0)) => ?_)
    · exact absurd h_6 (by decide)
    refine am_run 1 (pc' := 48) (ls' := [some (.ref t), some (.int (nI st)), some (.int (nI l)), some (.int (-1))]) (st' := [.ref t]) (σ' := (am_wr (am_wr (am_wr (μ, τ) (t + 4) st (nI l)) (t + 5) st (-1)) (t + 8) st (nI (S.2.2.2 4 l ||| 0)))) rfl ?_
    refine am_getT hT3 (k := 5) (k1 := 6) rfl rfl rfl (by decide) rfl ?_
    refine am_run 3 (pc' := 54) (ls' := [some (.ref t), some (.int (nI st)), some (.int (nI l)), some (.int (-1))]) (st' := [.ref t, .int (nI st), .int (nI st), .ref (t + 6)]) (σ' := (am_wr (am_wr (am_wr (μ, τ) (t + 4) st (nI l)) (t + 5) st (-1)) (t + 8) st (nI (S.2.2.2 4 l ||| 0)))) rfl ?_
    refine am_getT hT3 (k := 5) (k1 := 6) rfl rfl rfl (by decide) rfl ?_
    refine am_run 1 (pc' := 58) (ls' := [some (.ref t), some (.int (nI st)), some (.int (nI l)), some (.int (-1))]) (st' := [.int (nI l), .ref (t + 6), .int (nI st), .int (nI st), .ref (t + 6)]) (σ' := (am_wr (am_wr (am_wr (μ, τ) (t + 4) st (nI l)) (t + 5) st (-1)) (t + 8) st (nI (S.2.2.2 4 l ||| 0)))) rfl ?_
    refine am_ialdN (n := 60) (v := nI (S.2.2.2 6 l)) rfl (t3_arr hT3 (by decide)).1 (t3_arr hT3 (by decide)).2 (by omega) (by rw [am_wr_ne _ (by omega), am_wr_ne _ (by omega), am_wr_ne _ (by omega)]; exact l6) (by decide) ?_
    refine am_mxr (b := false) rfl rfl (Nat.le_of_ble_eq_true rfl) ?_
    refine am_top (v' := nI (min st (S.2.2.2 6 l))) (pq_min (by omega) (by omega)) ?_
    refine am_iastN (n := 60) rfl (t3_arr hT3 (by decide)).1 (t3_arr hT3 (by decide)).2 (by omega) (by decide) ?_
    refine am_run 1 (pc' := 64) (ls' := [some (.ref t), some (.int (nI st)), some (.int (nI l)), some (.int (-1))]) (st' := [.ref t]) (σ' := (am_wr (am_wr (am_wr (am_wr (μ, τ) (t + 4) st (nI l)) (t + 5) st (-1)) (t + 8) st (nI (S.2.2.2 4 l ||| 0))) (t + 6) st (nI (min st (S.2.2.2 6 l))))) rfl ?_
    refine am_getT hT3 (k := 6) (k1 := 7) rfl rfl rfl (by decide) rfl ?_
    refine am_run 3 (pc' := 70) (ls' := [some (.ref t), some (.int (nI st)), some (.int (nI l)), some (.int (-1))]) (st' := [.ref t, .int (nI st), .int (nI st), .ref (t + 7)]) (σ' := (am_wr (am_wr (am_wr (am_wr (μ, τ) (t + 4) st (nI l)) (t + 5) st (-1)) (t + 8) st (nI (S.2.2.2 4 l ||| 0))) (t + 6) st (nI (min st (S.2.2.2 6 l))))) rfl ?_
    refine am_getT hT3 (k := 6) (k1 := 7) rfl rfl rfl (by decide) rfl ?_
    refine am_run 1 (pc' := 74) (ls' := [some (.ref t), some (.int (nI st)), some (.int (nI l)), some (.int (-1))]) (st' := [.int (nI l), .ref (t + 7), .int (nI st), .int (nI st), .ref (t + 7)]) (σ' := (am_wr (am_wr (am_wr (am_wr (μ, τ) (t + 4) st (nI l)) (t + 5) st (-1)) (t + 8) st (nI (S.2.2.2 4 l ||| 0))) (t + 6) st (nI (min st (S.2.2.2 6 l))))) rfl ?_
    refine am_ialdN (n := 60) (v := nI (S.2.2.2 7 l)) rfl (t3_arr hT3 (by decide)).1 (t3_arr hT3 (by decide)).2 (by omega) (by rw [am_wr_ne _ (by omega), am_wr_ne _ (by omega), am_wr_ne _ (by omega), am_wr_ne _ (by omega)]; exact l7) (by decide) ?_
    refine am_mxr (b := true) rfl rfl (Nat.le_of_ble_eq_true rfl) ?_
    refine am_top (v' := nI (max st (S.2.2.2 7 l))) (pq_max (by omega) (by omega)) ?_
    refine am_iastN (n := 60) rfl (t3_arr hT3 (by decide)).1 (t3_arr hT3 (by decide)).2 (by omega) (by decide) ?_
    refine am_run 2 (pc' := 81) (ls' := [some (.ref t), some (.int (nI st)), some (.int (nI l)), some (.int (-1))]) (st' := [.int (-1), .ref t]) (σ' := (am_wr (am_wr (am_wr (am_wr (am_wr (μ, τ) (t + 4) st (nI l)) (t + 5) st (-1)) (t + 8) st (nI (S.2.2.2 4 l ||| 0))) (t + 6) st (nI (min st (S.2.2.2 6 l)))) (t + 7) st (nI (max st (S.2.2.2 7 l))))) rfl ?_
    refine am_invv (y := 106) (b := t) (as := [.int (-1)]) (rest := []) rfl rfl rfl rfl rfl rfl (t3_kind hT3) (Nat.le_of_ble_eq_true rfl) ?_
    refine c_hasM (by omega) hT3 ?_
    show am_G _ M_X8_setOperands _ 84 [some (.ref t), some (.int (nI st)), some (.int (nI l)), some (.int (-1))] [.int (nI 0)] (am_wr (am_wr (am_wr (am_wr (am_wr (μ, τ) (t + 4) st (nI l)) (t + 5) st (-1)) (t + 8) st (nI (S.2.2.2 4 l ||| 0))) (t + 6) st (nI (min st (S.2.2.2 6 l)))) (t + 7) st (nI (max st (S.2.2.2 7 l))))
    refine am_if (ty := 108) (tn := 87) rfl (by decide) rfl rfl (fun (h_7 : nI 0 = 0) => ?_) (fun (h_7 : ¬ (nI 0 = 0)) => ?_)
    rotate_left
    · exact absurd (by decide) h_7
    refine am_retv rfl rfl ?_
    refine fin (am_wr (am_wr (am_wr (am_wr (am_wr (μ, τ) (t + 4) st (nI l)) (t + 5) st (-1)) (t + 8) st (nI (S.2.2.2 4 l ||| 0))) (t + 6) st (nI (min st (S.2.2.2 6 l)))) (t + 7) st (nI (max st (S.2.2.2 7 l)))).1 (0) rfl (fun c a b e f g => by rw [am_wr_ne _ (by omega), am_wr_ne _ (by omega), am_wr_ne _ (by omega), am_wr_ne _ (by omega), am_wr_ne _ (by omega)]) (fun j i hi => ?_) (by rw [am_wr_ne _ (by omega), am_wr_ne _ (by omega), am_wr_ne _ (by omega), am_wr_ne _ (by omega), am_same]) (by rw [am_wr_ne _ (by omega), am_wr_ne _ (by omega), am_wr_ne _ (by omega), am_same, oI_0]) (by rw [am_wr_ne _ (by omega), am_same]) ?_ ?_ (by rw [am_wr_ne _ (by omega), am_wr_ne _ (by omega), am_same]) (by decide)
    · have hw : ∀ (σ : am_M) (c : Nat) (x : Int32), (am_wr σ c st x).1 (t + j) i = σ.1 (t + j) i := fun σ c x => by rw [am_rd1, if_neg (fun z => hi z.2)]
      rw [hw, hw, hw, hw, hw]
    · have e7 : (ps_ops S st (l + 1) 0).2.2.2 7 st = max st (S.2.2.2 7 l) := if_pos rfl
      rw [e7]
      rw [am_same]
    · have e7 : (ps_ops S st (l + 1) 0).2.2.2 7 st = max st (S.2.2.2 7 l) := if_pos rfl
      rw [e7]
      omega
  | succ r1 =>
    obtain ⟨r1_, r2, r3, r4, r5, r6, r7, r8, r9, r10, r11⟩ := c8 r1 (by omega)
    rw [oI_s]
    have fin := fin
    refine am_enter' (M := M_X8_setOperands) rfl rfl rfl (by omega) (ls := [some (.ref t), some (.int (nI st)), some (.int (nI l)), some (.int (nI r1))]) rfl (fun d' hd' => ?_)
    refine am_run 2 (pc' := 2) (ls' := [some (.ref t), some (.int (nI st)), some (.int (nI l)), some (.int (nI r1))]) (st' := [.int (nI st), .ref t]) (σ' := (μ, τ)) rfl ?_
    refine am_invv (y := 106) (b := t) (as := [.int (nI st)]) (rest := []) rfl rfl rfl rfl rfl rfl (t3_kind hT3) (Nat.le_of_ble_eq_true rfl) ?_
    refine c_hasN (by omega) hT3 (n := S.2.1) (c6) c2 (by omega) ?_
    show am_G _ M_X8_setOperands _ 5 [some (.ref t), some (.int (nI st)), some (.int (nI l)), some (.int (nI r1))] [.int (nI 1)] (μ, τ)
    refine am_if (ty := 108) (tn := 8) rfl (by decide) rfl rfl (fun (h_1 : nI 1 = 0) => ?_) (fun (h_1 : ¬ (nI 1 = 0)) => ?_)
    · exact absurd h_1 (by decide)
    refine am_run 1 (pc' := 9) (ls' := [some (.ref t), some (.int (nI st)), some (.int (nI l)), some (.int (nI r1))]) (st' := [.ref t]) (σ' := (μ, τ)) rfl ?_
    refine am_getT hT3 (k := 3) (k1 := 4) rfl rfl rfl (by decide) rfl ?_
    refine am_run 2 (pc' := 14) (ls' := [some (.ref t), some (.int (nI st)), some (.int (nI l)), some (.int (nI r1))]) (st' := [.int (nI l), .int (nI st), .ref (t + 4)]) (σ' := (μ, τ)) rfl ?_
    refine am_iastN (n := 60) rfl (t3_arr hT3 (by decide)).1 (t3_arr hT3 (by decide)).2 (by omega) (by decide) ?_
    refine am_run 1 (pc' := 16) (ls' := [some (.ref t), some (.int (nI st)), some (.int (nI l)), some (.int (nI r1))]) (st' := [.ref t]) (σ' := (am_wr (μ, τ) (t + 4) st (nI l))) rfl ?_
    refine am_getT hT3 (k := 4) (k1 := 5) rfl rfl rfl (by decide) rfl ?_
    refine am_run 2 (pc' := 21) (ls' := [some (.ref t), some (.int (nI st)), some (.int (nI l)), some (.int (nI r1))]) (st' := [.int (nI r1), .int (nI st), .ref (t + 5)]) (σ' := (am_wr (μ, τ) (t + 4) st (nI l))) rfl ?_
    refine am_iastN (n := 60) rfl (t3_arr hT3 (by decide)).1 (t3_arr hT3 (by decide)).2 (by omega) (by decide) ?_
    refine am_run 1 (pc' := 23) (ls' := [some (.ref t), some (.int (nI st)), some (.int (nI l)), some (.int (nI r1))]) (st' := [.ref t]) (σ' := (am_wr (am_wr (μ, τ) (t + 4) st (nI l)) (t + 5) st (nI r1))) rfl ?_
    refine am_getT hT3 (k := 7) (k1 := 8) rfl rfl rfl (by decide) rfl ?_
    refine am_run 3 (pc' := 29) (ls' := [some (.ref t), some (.int (nI st)), some (.int (nI l)), some (.int (nI r1))]) (st' := [.int (nI l), .ref t, .int (nI st), .ref (t + 8)]) (σ' := (am_wr (am_wr (μ, τ) (t + 4) st (nI l)) (t + 5) st (nI r1))) rfl ?_
    refine am_invv (y := 117) (b := t) (as := [.int (nI l)]) (rest := [.int (nI st), .ref (t + 8)]) rfl rfl rfl rfl rfl rfl (t3_kind hT3) (Nat.le_of_ble_eq_true rfl) ?_
    refine am_enter' rfl rfl rfl (by omega) (ls := [some (.ref t), some (.int (nI l))]) rfl (fun d_2 hd_2 => ?_)
    refine am_run 2 (pc' := 2) (ls' := [some (.ref t), some (.int (nI l))]) (st' := [.int (nI l), .ref t]) (σ' := (am_wr (am_wr (μ, τ) (t + 4) st (nI l)) (t + 5) st (nI r1))) rfl ?_
    refine am_invv (y := 106) (b := t) (as := [.int (nI l)]) (rest := []) rfl rfl rfl rfl rfl rfl (t3_kind hT3) (Nat.le_of_ble_eq_true rfl) ?_
    refine c_hasN (by omega) hT3 (n := S.2.1) (by rw [am_wr_ne _ (by omega), am_wr_ne _ (by omega)]; exact c6) c2 (by omega) ?_
    show am_G _ M_X8_pausesOf _ 5 [some (.ref t), some (.int (nI l))] [.int (nI 1)] (am_wr (am_wr (μ, τ) (t + 4) st (nI l)) (t + 5) st (nI r1))
    refine am_if (ty := 17) (tn := 8) rfl (by decide) rfl rfl (fun (h_3 : nI 1 = 0) => ?_) (fun (h_3 : ¬ (nI 1 = 0)) => ?_)
    · exact absurd h_3 (by decide)
    refine am_run 1 (pc' := 9) (ls' := [some (.ref t), some (.int (nI l))]) (st' := [.ref t]) (σ' := (am_wr (am_wr (μ, τ) (t + 4) st (nI l)) (t + 5) st (nI r1))) rfl ?_
    refine am_getT hT3 (k := 7) (k1 := 8) rfl rfl rfl (by decide) rfl ?_
    refine am_run 1 (pc' := 13) (ls' := [some (.ref t), some (.int (nI l))]) (st' := [.int (nI l), .ref (t + 8)]) (σ' := (am_wr (am_wr (μ, τ) (t + 4) st (nI l)) (t + 5) st (nI r1))) rfl ?_
    refine am_ialdN (n := 60) (v := nI (S.2.2.2 4 l)) rfl (t3_arr hT3 (by decide)).1 (t3_arr hT3 (by decide)).2 (by omega) (by rw [am_wr_ne _ (by omega), am_wr_ne _ (by omega)]; exact l8) (by decide) ?_
    refine am_run 1 (pc' := 18) (ls' := [some (.ref t), some (.int (nI l))]) (st' := [.int (nI (S.2.2.2 4 l))]) (σ' := (am_wr (am_wr (μ, τ) (t + 4) st (nI l)) (t + 5) st (nI r1))) rfl ?_
    refine am_reti rfl rfl ?_
    show am_G _ M_X8_setOperands _ 32 [some (.ref t), some (.int (nI st)), some (.int (nI l)), some (.int (nI r1))] [.int (nI (S.2.2.2 4 l)), .int (nI st), .ref (t + 8)] (am_wr (am_wr (μ, τ) (t + 4) st (nI l)) (t + 5) st (nI r1))
    refine am_run 2 (pc' := 34) (ls' := [some (.ref t), some (.int (nI st)), some (.int (nI l)), some (.int (nI r1))]) (st' := [.int (nI r1), .ref t, .int (nI (S.2.2.2 4 l)), .int (nI st), .ref (t + 8)]) (σ' := (am_wr (am_wr (μ, τ) (t + 4) st (nI l)) (t + 5) st (nI r1))) rfl ?_
    refine am_invv (y := 117) (b := t) (as := [.int (nI r1)]) (rest := [.int (nI (S.2.2.2 4 l)), .int (nI st), .ref (t + 8)]) rfl rfl rfl rfl rfl rfl (t3_kind hT3) (Nat.le_of_ble_eq_true rfl) ?_
    refine am_enter' rfl rfl rfl (by omega) (ls := [some (.ref t), some (.int (nI r1))]) rfl (fun d_4 hd_4 => ?_)
    refine am_run 2 (pc' := 2) (ls' := [some (.ref t), some (.int (nI r1))]) (st' := [.int (nI r1), .ref t]) (σ' := (am_wr (am_wr (μ, τ) (t + 4) st (nI l)) (t + 5) st (nI r1))) rfl ?_
    refine am_invv (y := 106) (b := t) (as := [.int (nI r1)]) (rest := []) rfl rfl rfl rfl rfl rfl (t3_kind hT3) (Nat.le_of_ble_eq_true rfl) ?_
    refine c_hasN (by omega) hT3 (n := S.2.1) (by rw [am_wr_ne _ (by omega), am_wr_ne _ (by omega)]; exact c6) c2 (by omega) ?_
    show am_G _ M_X8_pausesOf _ 5 [some (.ref t), some (.int (nI r1))] [.int (nI 1)] (am_wr (am_wr (μ, τ) (t + 4) st (nI l)) (t + 5) st (nI r1))
    refine am_if (ty := 17) (tn := 8) rfl (by decide) rfl rfl (fun (h_5 : nI 1 = 0) => ?_) (fun (h_5 : ¬ (nI 1 = 0)) => ?_)
    · exact absurd h_5 (by decide)
    refine am_run 1 (pc' := 9) (ls' := [some (.ref t), some (.int (nI r1))]) (st' := [.ref t]) (σ' := (am_wr (am_wr (μ, τ) (t + 4) st (nI l)) (t + 5) st (nI r1))) rfl ?_
    refine am_getT hT3 (k := 7) (k1 := 8) rfl rfl rfl (by decide) rfl ?_
    refine am_run 1 (pc' := 13) (ls' := [some (.ref t), some (.int (nI r1))]) (st' := [.int (nI r1), .ref (t + 8)]) (σ' := (am_wr (am_wr (μ, τ) (t + 4) st (nI l)) (t + 5) st (nI r1))) rfl ?_
    refine am_ialdN (n := 60) (v := nI (S.2.2.2 4 r1)) rfl (t3_arr hT3 (by decide)).1 (t3_arr hT3 (by decide)).2 (by omega) (by rw [am_wr_ne _ (by omega), am_wr_ne _ (by omega)]; exact r8) (by decide) ?_
    refine am_run 1 (pc' := 18) (ls' := [some (.ref t), some (.int (nI r1))]) (st' := [.int (nI (S.2.2.2 4 r1))]) (σ' := (am_wr (am_wr (μ, τ) (t + 4) st (nI l)) (t + 5) st (nI r1))) rfl ?_
    refine am_reti rfl rfl ?_
    show am_G _ M_X8_setOperands _ 37 [some (.ref t), some (.int (nI st)), some (.int (nI l)), some (.int (nI r1))] [.int (nI (S.2.2.2 4 r1)), .int (nI (S.2.2.2 4 l)), .int (nI st), .ref (t + 8)] (am_wr (am_wr (μ, τ) (t + 4) st (nI l)) (t + 5) st (nI r1))
    refine am_run 1 (pc' := 38) (ls' := [some (.ref t), some (.int (nI st)), some (.int (nI l)), some (.int (nI r1))]) (st' := [.int (nI (S.2.2.2 4 l) ||| nI (S.2.2.2 4 r1)), .int (nI st), .ref (t + 8)]) (σ' := (am_wr (am_wr (μ, τ) (t + 4) st (nI l)) (t + 5) st (nI r1))) rfl ?_
    refine am_top (v' := nI (S.2.2.2 4 l ||| (S.2.2.2 4 r1))) (nx_or _ _) ?_
    refine am_iastN (n := 60) rfl (t3_arr hT3 (by decide)).1 (t3_arr hT3 (by decide)).2 (by omega) (by decide) ?_
    refine am_run 2 (pc' := 41) (ls' := [some (.ref t), some (.int (nI st)), some (.int (nI l)), some (.int (nI r1))]) (st' := [.int (nI l), .ref t]) (σ' := (am_wr (am_wr (am_wr (μ, τ) (t + 4) st (nI l)) (t + 5) st (nI r1)) (t + 8) st (nI (S.2.2.2 4 l ||| (S.2.2.2 4 r1))))) rfl ?_
    refine am_invv (y := 106) (b := t) (as := [.int (nI l)]) (rest := []) rfl rfl rfl rfl rfl rfl (t3_kind hT3) (Nat.le_of_ble_eq_true rfl) ?_
    refine c_hasN (by omega) hT3 (n := S.2.1) (by rw [am_wr_ne _ (by omega), am_wr_ne _ (by omega), am_wr_ne _ (by omega)]; exact c6) c2 (by omega) ?_
    show am_G _ M_X8_setOperands _ 44 [some (.ref t), some (.int (nI st)), some (.int (nI l)), some (.int (nI r1))] [.int (nI 1)] (am_wr (am_wr (am_wr (μ, τ) (t + 4) st (nI l)) (t + 5) st (nI r1)) (t + 8) st (nI (S.2.2.2 4 l ||| (S.2.2.2 4 r1))))
    refine am_if (ty := 79) (tn := 47) rfl (by decide) rfl rfl (fun (h_6 : nI 1 = 0) => ?_) (fun (h_6 : ¬ (nI 1 = 0)) => ?_)
    · exact absurd h_6 (by decide)
    refine am_run 1 (pc' := 48) (ls' := [some (.ref t), some (.int (nI st)), some (.int (nI l)), some (.int (nI r1))]) (st' := [.ref t]) (σ' := (am_wr (am_wr (am_wr (μ, τ) (t + 4) st (nI l)) (t + 5) st (nI r1)) (t + 8) st (nI (S.2.2.2 4 l ||| (S.2.2.2 4 r1))))) rfl ?_
    refine am_getT hT3 (k := 5) (k1 := 6) rfl rfl rfl (by decide) rfl ?_
    refine am_run 3 (pc' := 54) (ls' := [some (.ref t), some (.int (nI st)), some (.int (nI l)), some (.int (nI r1))]) (st' := [.ref t, .int (nI st), .int (nI st), .ref (t + 6)]) (σ' := (am_wr (am_wr (am_wr (μ, τ) (t + 4) st (nI l)) (t + 5) st (nI r1)) (t + 8) st (nI (S.2.2.2 4 l ||| (S.2.2.2 4 r1))))) rfl ?_
    refine am_getT hT3 (k := 5) (k1 := 6) rfl rfl rfl (by decide) rfl ?_
    refine am_run 1 (pc' := 58) (ls' := [some (.ref t), some (.int (nI st)), some (.int (nI l)), some (.int (nI r1))]) (st' := [.int (nI l), .ref (t + 6), .int (nI st), .int (nI st), .ref (t + 6)]) (σ' := (am_wr (am_wr (am_wr (μ, τ) (t + 4) st (nI l)) (t + 5) st (nI r1)) (t + 8) st (nI (S.2.2.2 4 l ||| (S.2.2.2 4 r1))))) rfl ?_
    refine am_ialdN (n := 60) (v := nI (S.2.2.2 6 l)) rfl (t3_arr hT3 (by decide)).1 (t3_arr hT3 (by decide)).2 (by omega) (by rw [am_wr_ne _ (by omega), am_wr_ne _ (by omega), am_wr_ne _ (by omega)]; exact l6) (by decide) ?_
    refine am_mxr (b := false) rfl rfl (Nat.le_of_ble_eq_true rfl) ?_
    refine am_top (v' := nI (min st (S.2.2.2 6 l))) (pq_min (by omega) (by omega)) ?_
    refine am_iastN (n := 60) rfl (t3_arr hT3 (by decide)).1 (t3_arr hT3 (by decide)).2 (by omega) (by decide) ?_
    refine am_run 1 (pc' := 64) (ls' := [some (.ref t), some (.int (nI st)), some (.int (nI l)), some (.int (nI r1))]) (st' := [.ref t]) (σ' := (am_wr (am_wr (am_wr (am_wr (μ, τ) (t + 4) st (nI l)) (t + 5) st (nI r1)) (t + 8) st (nI (S.2.2.2 4 l ||| (S.2.2.2 4 r1)))) (t + 6) st (nI (min st (S.2.2.2 6 l))))) rfl ?_
    refine am_getT hT3 (k := 6) (k1 := 7) rfl rfl rfl (by decide) rfl ?_
    refine am_run 3 (pc' := 70) (ls' := [some (.ref t), some (.int (nI st)), some (.int (nI l)), some (.int (nI r1))]) (st' := [.ref t, .int (nI st), .int (nI st), .ref (t + 7)]) (σ' := (am_wr (am_wr (am_wr (am_wr (μ, τ) (t + 4) st (nI l)) (t + 5) st (nI r1)) (t + 8) st (nI (S.2.2.2 4 l ||| (S.2.2.2 4 r1)))) (t + 6) st (nI (min st (S.2.2.2 6 l))))) rfl ?_
    refine am_getT hT3 (k := 6) (k1 := 7) rfl rfl rfl (by decide) rfl ?_
    refine am_run 1 (pc' := 74) (ls' := [some (.ref t), some (.int (nI st)), some (.int (nI l)), some (.int (nI r1))]) (st' := [.int (nI l), .ref (t + 7), .int (nI st), .int (nI st), .ref (t + 7)]) (σ' := (am_wr (am_wr (am_wr (am_wr (μ, τ) (t + 4) st (nI l)) (t + 5) st (nI r1)) (t + 8) st (nI (S.2.2.2 4 l ||| (S.2.2.2 4 r1)))) (t + 6) st (nI (min st (S.2.2.2 6 l))))) rfl ?_
    refine am_ialdN (n := 60) (v := nI (S.2.2.2 7 l)) rfl (t3_arr hT3 (by decide)).1 (t3_arr hT3 (by decide)).2 (by omega) (by rw [am_wr_ne _ (by omega), am_wr_ne _ (by omega), am_wr_ne _ (by omega), am_wr_ne _ (by omega)]; exact l7) (by decide) ?_
    refine am_mxr (b := true) rfl rfl (Nat.le_of_ble_eq_true rfl) ?_
    refine am_top (v' := nI (max st (S.2.2.2 7 l))) (pq_max (by omega) (by omega)) ?_
    refine am_iastN (n := 60) rfl (t3_arr hT3 (by decide)).1 (t3_arr hT3 (by decide)).2 (by omega) (by decide) ?_
    refine am_run 2 (pc' := 81) (ls' := [some (.ref t), some (.int (nI st)), some (.int (nI l)), some (.int (nI r1))]) (st' := [.int (nI r1), .ref t]) (σ' := (am_wr (am_wr (am_wr (am_wr (am_wr (μ, τ) (t + 4) st (nI l)) (t + 5) st (nI r1)) (t + 8) st (nI (S.2.2.2 4 l ||| (S.2.2.2 4 r1)))) (t + 6) st (nI (min st (S.2.2.2 6 l)))) (t + 7) st (nI (max st (S.2.2.2 7 l))))) rfl ?_
    refine am_invv (y := 106) (b := t) (as := [.int (nI r1)]) (rest := []) rfl rfl rfl rfl rfl rfl (t3_kind hT3) (Nat.le_of_ble_eq_true rfl) ?_
    refine c_hasN (by omega) hT3 (n := S.2.1) (by rw [am_wr_ne _ (by omega), am_wr_ne _ (by omega), am_wr_ne _ (by omega), am_wr_ne _ (by omega), am_wr_ne _ (by omega)]; exact c6) c2 (by omega) ?_
    show am_G _ M_X8_setOperands _ 84 [some (.ref t), some (.int (nI st)), some (.int (nI l)), some (.int (nI r1))] [.int (nI 1)] (am_wr (am_wr (am_wr (am_wr (am_wr (μ, τ) (t + 4) st (nI l)) (t + 5) st (nI r1)) (t + 8) st (nI (S.2.2.2 4 l ||| (S.2.2.2 4 r1)))) (t + 6) st (nI (min st (S.2.2.2 6 l)))) (t + 7) st (nI (max st (S.2.2.2 7 l))))
    refine am_if (ty := 108) (tn := 87) rfl (by decide) rfl rfl (fun (h_7 : nI 1 = 0) => ?_) (fun (h_7 : ¬ (nI 1 = 0)) => ?_)
    · exact absurd h_7 (by decide)
    refine am_run 1 (pc' := 88) (ls' := [some (.ref t), some (.int (nI st)), some (.int (nI l)), some (.int (nI r1))]) (st' := [.ref t]) (σ' := (am_wr (am_wr (am_wr (am_wr (am_wr (μ, τ) (t + 4) st (nI l)) (t + 5) st (nI r1)) (t + 8) st (nI (S.2.2.2 4 l ||| (S.2.2.2 4 r1)))) (t + 6) st (nI (min st (S.2.2.2 6 l)))) (t + 7) st (nI (max st (S.2.2.2 7 l))))) rfl ?_
    refine am_getT hT3 (k := 6) (k1 := 7) rfl rfl rfl (by decide) rfl ?_
    refine am_run 2 (pc' := 93) (ls' := [some (.ref t), some (.int (nI st)), some (.int (nI l)), some (.int (nI r1))]) (st' := [.ref t, .int (nI st), .ref (t + 7)]) (σ' := (am_wr (am_wr (am_wr (am_wr (am_wr (μ, τ) (t + 4) st (nI l)) (t + 5) st (nI r1)) (t + 8) st (nI (S.2.2.2 4 l ||| (S.2.2.2 4 r1)))) (t + 6) st (nI (min st (S.2.2.2 6 l)))) (t + 7) st (nI (max st (S.2.2.2 7 l))))) rfl ?_
    refine am_getT hT3 (k := 6) (k1 := 7) rfl rfl rfl (by decide) rfl ?_
    refine am_run 1 (pc' := 97) (ls' := [some (.ref t), some (.int (nI st)), some (.int (nI l)), some (.int (nI r1))]) (st' := [.int (nI st), .ref (t + 7), .int (nI st), .ref (t + 7)]) (σ' := (am_wr (am_wr (am_wr (am_wr (am_wr (μ, τ) (t + 4) st (nI l)) (t + 5) st (nI r1)) (t + 8) st (nI (S.2.2.2 4 l ||| (S.2.2.2 4 r1)))) (t + 6) st (nI (min st (S.2.2.2 6 l)))) (t + 7) st (nI (max st (S.2.2.2 7 l))))) rfl ?_
    refine am_ialdN (n := 60) (v := nI (max st (S.2.2.2 7 l))) rfl (t3_arr hT3 (by decide)).1 (t3_arr hT3 (by decide)).2 (by omega) (by rw [am_same]) (by decide) ?_
    refine am_run 1 (pc' := 99) (ls' := [some (.ref t), some (.int (nI st)), some (.int (nI l)), some (.int (nI r1))]) (st' := [.ref t, .int (nI (max st (S.2.2.2 7 l))), .int (nI st), .ref (t + 7)]) (σ' := (am_wr (am_wr (am_wr (am_wr (am_wr (μ, τ) (t + 4) st (nI l)) (t + 5) st (nI r1)) (t + 8) st (nI (S.2.2.2 4 l ||| (S.2.2.2 4 r1)))) (t + 6) st (nI (min st (S.2.2.2 6 l)))) (t + 7) st (nI (max st (S.2.2.2 7 l))))) rfl ?_
    refine am_getT hT3 (k := 6) (k1 := 7) rfl rfl rfl (by decide) rfl ?_
    refine am_run 1 (pc' := 103) (ls' := [some (.ref t), some (.int (nI st)), some (.int (nI l)), some (.int (nI r1))]) (st' := [.int (nI r1), .ref (t + 7), .int (nI (max st (S.2.2.2 7 l))), .int (nI st), .ref (t + 7)]) (σ' := (am_wr (am_wr (am_wr (am_wr (am_wr (μ, τ) (t + 4) st (nI l)) (t + 5) st (nI r1)) (t + 8) st (nI (S.2.2.2 4 l ||| (S.2.2.2 4 r1)))) (t + 6) st (nI (min st (S.2.2.2 6 l)))) (t + 7) st (nI (max st (S.2.2.2 7 l))))) rfl ?_
    refine am_ialdN (n := 60) (v := nI (S.2.2.2 7 r1)) rfl (t3_arr hT3 (by decide)).1 (t3_arr hT3 (by decide)).2 (by omega) (by rw [am_diff _ _ _ _ _ (by omega), am_wr_ne _ (by omega), am_wr_ne _ (by omega), am_wr_ne _ (by omega), am_wr_ne _ (by omega)]; exact r7) (by decide) ?_
    refine am_mxr (b := true) rfl rfl (Nat.le_of_ble_eq_true rfl) ?_
    refine am_top (v' := nI (max (max st (S.2.2.2 7 l)) (S.2.2.2 7 r1))) (pq_max (by omega) (by omega)) ?_
    refine am_iastN (n := 60) rfl (t3_arr hT3 (by decide)).1 (t3_arr hT3 (by decide)).2 (by omega) (by decide) ?_
    refine am_retv rfl rfl ?_
    refine fin (am_wr (am_wr (am_wr (am_wr (am_wr (am_wr (μ, τ) (t + 4) st (nI l)) (t + 5) st (nI r1)) (t + 8) st (nI (S.2.2.2 4 l ||| (S.2.2.2 4 r1)))) (t + 6) st (nI (min st (S.2.2.2 6 l)))) (t + 7) st (nI (max st (S.2.2.2 7 l)))) (t + 7) st (nI (max (max st (S.2.2.2 7 l)) (S.2.2.2 7 r1)))).1 (S.2.2.2 4 r1) rfl (fun c a b e f g => by rw [am_wr_ne _ (by omega), am_wr_ne _ (by omega), am_wr_ne _ (by omega), am_wr_ne _ (by omega), am_wr_ne _ (by omega), am_wr_ne _ (by omega)]) (fun j i hi => ?_) (by rw [am_wr_ne _ (by omega), am_wr_ne _ (by omega), am_wr_ne _ (by omega), am_wr_ne _ (by omega), am_wr_ne _ (by omega), am_same]) (by rw [am_wr_ne _ (by omega), am_wr_ne _ (by omega), am_wr_ne _ (by omega), am_wr_ne _ (by omega), am_same, oI_s]) (by rw [am_wr_ne _ (by omega), am_wr_ne _ (by omega), am_same]) ?_ ?_ (by rw [am_wr_ne _ (by omega), am_wr_ne _ (by omega), am_wr_ne _ (by omega), am_same]) r9
    · have hw : ∀ (σ : am_M) (c : Nat) (x : Int32), (am_wr σ c st x).1 (t + j) i = σ.1 (t + j) i := fun σ c x => by rw [am_rd1, if_neg (fun z => hi z.2)]
      rw [hw, hw, hw, hw, hw, hw]
    · have e7 : (ps_ops S st (l + 1) (r1 + 1)).2.2.2 7 st = max (max st (S.2.2.2 7 l)) (S.2.2.2 7 r1) := if_pos rfl
      rw [e7]
      rw [am_same]
    · have e7 : (ps_ops S st (l + 1) (r1 + 1)).2.2.2 7 st = max (max st (S.2.2.2 7 l)) (S.2.2.2 7 r1) := if_pos rfl
      rw [e7]
      omega

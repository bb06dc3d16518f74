theorem am_wr_wr (σ : am_M) (c k : Nat) (x y : Int32) : am_wr (am_wr σ c k x) c k y = am_wr σ c k y := by
  refine Prod.ext (funext fun c' => funext fun k' => ?_) rfl
  rw [am_rd1, am_rd1, am_rd1]
  split <;> rfl
theorem am_wr_self {σ : am_M} {c k : Nat} {x : Int32} (h : σ.1 c k = x) : am_wr σ c k x = σ := by
  refine Prod.ext (funext fun c' => funext fun k' => ?_) rfl
  rw [am_rd1]
  split
  · rename_i e
    rw [e.1, e.2]
    exact h.symm
  · rfl
def TXm (σ : am_M) (L : Nat) (tx : Nat → Nat) : Prop := L ≤ 120 ∧ σ.1 0 1 = nI L ∧ ∀ i, i < L → tx i < 256 ∧ σ.1 1 i = nI (tx i)
theorem TXm.at {σ : am_M} {L : Nat} {tx : Nat → Nat} (h : TXm σ L tx) (x : Int32) : TXm (am_wr σ 0 21 x) L tx := ⟨h.1, by rw [am_diff _ _ _ _ _ (by decide)]; exact h.2.1, fun i hi => by rw [am_wr_ne _ (by decide)]; exact h.2.2 i hi⟩
theorem tkm {σ : am_M} {L : Nat} {tx : Nat → Nat} (h : TXm σ L tx) (q : Nat) : tk tx L q ≤ 256 ∧ (tk tx L q < 256 → q < L) ∧ (q < L → tk tx L q = tx q ∧ tk tx L q < 256) := by
  unfold tk
  split
  · rename_i e
    have := (h.2.2 q e).1
    exact ⟨by omega, fun _ => e, fun _ => ⟨rfl, this⟩⟩
  · rename_i e
    exact ⟨Nat.le_refl _, fun z => absurd z (by decide), fun z => absurd z e⟩
set_option maxRecDepth 10000 in
set_option maxHeartbeats 2000000 in
theorem c_sign_loop {d : Nat} {L : Nat} {tx : Nat → Nat} {Q : am_Q} : ∀ (k q : Nat) (σ : am_M), L ≤ q + k → q ≤ L → TXm σ L tx → σ.1 0 21 = nI q → Q (some (.int (tI (tk tx L (skp tx L k q))))) (am_wr σ 0 21 (nI (skp tx L k q))) → am_G d M_X10_sign Q 0 [some (.ref 0)] [] σ
  | 0, q, σ, h1, h2, hT, h21, hq => by
    have hL := hT.1
    have e : q = L := by omega
    have hq : Q (some (.int (tI (tk tx L q)))) (am_wr σ 0 21 (nI q)) := hq
    rw [am_wr_self h21, show tk tx L q = 256 from if_neg (by omega), show tI 256 = -1 from rfl] at hq
    refine am_run 2 (pc' := 4) (ls' := [some (.ref 0)]) (st' := [.int (σ.1 0 21)]) (σ' := σ) rfl ?_
    refine am_top (v' := nI q) h21 ?_
    refine am_run 2 (pc' := 8) (ls' := [some (.ref 0)]) (st' := [.int (σ.1 0 1), .int (nI q)]) (σ' := σ) rfl ?_
    refine am_top (v' := nI L) hT.2.1 ?_
    refine am_ic (ty := 11) (tn := 38) rfl (by decide) rfl rfl (fun (h_1 : nI q < nI L) => ?_) (fun (h_1 : ¬ (nI q < nI L)) => ?_)
    · have h_1 : q < L := (nI_ltI (by omega) (by omega)).mp h_1
      omega
    have h_1 : ¬ (q < L) := fun z => h_1 ((nI_ltI (by omega) (by omega)).mpr z)
    refine am_run 2 (pc' := 42) (ls' := [some (.ref 0)]) (st' := [.int (σ.1 0 21)]) (σ' := σ) rfl ?_
    refine am_top (v' := nI q) h21 ?_
    refine am_run 2 (pc' := 46) (ls' := [some (.ref 0)]) (st' := [.int (σ.1 0 1), .int (nI q)]) (σ' := σ) rfl ?_
    refine am_top (v' := nI L) hT.2.1 ?_
    refine am_ic (ty := 49) (tn := 61) rfl (by decide) rfl rfl (fun (h_2 : nI q < nI L) => ?_) (fun (h_2 : ¬ (nI q < nI L)) => ?_)
    · have h_2 : q < L := (nI_ltI (by omega) (by omega)).mp h_2
      omega
    have h_2 : ¬ (q < L) := fun z => h_2 ((nI_ltI (by omega) (by omega)).mpr z)
    refine am_run 1 (pc' := 62) (ls' := [some (.ref 0)]) (st' := [.int (-1)]) (σ' := σ) rfl ?_
    refine am_reti rfl rfl ?_
    exact hq
  | k + 1, q, σ, h1, h2, hT, h21, hq => by
    have hL := hT.1
    obtain ⟨k1, k2, k3⟩ := tkm hT q
    by_cases hb : q < L ∧ tx q = 32
    · have h256 := (hT.2.2 q hb.1).1
      rw [show skp tx L (k + 1) q = skp tx L k (q + 1) from if_pos hb] at hq
      refine am_run 2 (pc' := 4) (ls' := [some (.ref 0)]) (st' := [.int (σ.1 0 21)]) (σ' := σ) rfl ?_
      refine am_top (v' := nI q) h21 ?_
      refine am_run 2 (pc' := 8) (ls' := [some (.ref 0)]) (st' := [.int (σ.1 0 1), .int (nI q)]) (σ' := σ) rfl ?_
      refine am_top (v' := nI L) hT.2.1 ?_
      refine am_ic (ty := 11) (tn := 38) rfl (by decide) rfl rfl (fun (h_1 : nI q < nI L) => ?_) (fun (h_1 : ¬ (nI q < nI L)) => ?_)
      rotate_left
      · have h_1 : ¬ (q < L) := fun z => h_1 ((nI_ltI (by omega) (by omega)).mpr z)
        omega
      have h_1 : q < L := (nI_ltI (by omega) (by omega)).mp h_1
      refine am_run 4 (pc' := 19) (ls' := [some (.ref 0)]) (st' := [.int (σ.1 0 21), .ref 1]) (σ' := σ) rfl ?_
      refine am_top (v' := nI q) h21 ?_
      refine am_ialdN (n := 120) (v := nI (tx q)) rfl rfl rfl (by omega) (hT.2.2 q (by omega)).2 (by decide) ?_
      refine am_run 1 (pc' := 22) (ls' := [some (.ref 0)]) (st' := [.int (nI 32), .int (nI (tx q))]) (σ' := σ) rfl ?_
      refine am_ic (ty := 25) (tn := 38) rfl (by decide) rfl rfl (fun (h_2 : nI (tx q) = nI 32) => ?_) (fun (h_2 : ¬ (nI (tx q) = nI 32)) => ?_)
      rotate_left
      · have h_2 : ¬ (tx q = 32) := fun z => h_2 ((nI_eq (by omega) (by omega)).mpr z)
        omega
      have h_2 : tx q = 32 := (nI_eq (by omega) (by omega)).mp h_2
      refine am_run 3 (pc' := 30) (ls' := [some (.ref 0)]) (st' := [.int (σ.1 0 21), .ref 0]) (σ' := σ) rfl ?_
      refine am_top (v' := nI q) h21 ?_
      refine am_run 2 (pc' := 32) (ls' := [some (.ref 0)]) (st' := [.int (nI q + nI 1), .ref 0]) (σ' := σ) rfl ?_
      refine am_top (v' := nI (q + 1)) (nI_add _ _) ?_
      refine am_run 2 (pc' := 0) (ls' := [some (.ref 0)]) (st' := []) (σ' := (am_wr σ 0 21 (nI (q + 1)))) rfl ?_
      exact c_sign_loop k (q + 1) _ (by omega) (by omega) (hT.at _) (am_same _ _ _ _) (by rw [am_wr_wr]; exact hq)
    · rw [show skp tx L (k + 1) q = q from if_neg hb, am_wr_self h21] at hq
      by_cases hqL : q < L
      · have h256 := (hT.2.2 q hqL).1
        rw [tI_n (k3 hqL).2, (k3 hqL).1] at hq
        refine am_run 2 (pc' := 4) (ls' := [some (.ref 0)]) (st' := [.int (σ.1 0 21)]) (σ' := σ) rfl ?_
        refine am_top (v' := nI q) h21 ?_
        refine am_run 2 (pc' := 8) (ls' := [some (.ref 0)]) (st' := [.int (σ.1 0 1), .int (nI q)]) (σ' := σ) rfl ?_
        refine am_top (v' := nI L) hT.2.1 ?_
        refine am_ic (ty := 11) (tn := 38) rfl (by decide) rfl rfl (fun (h_1 : nI q < nI L) => ?_) (fun (h_1 : ¬ (nI q < nI L)) => ?_)
        rotate_left
        · have h_1 : ¬ (q < L) := fun z => h_1 ((nI_ltI (by omega) (by omega)).mpr z)
          omega
        have h_1 : q < L := (nI_ltI (by omega) (by omega)).mp h_1
        refine am_run 4 (pc' := 19) (ls' := [some (.ref 0)]) (st' := [.int (σ.1 0 21), .ref 1]) (σ' := σ) rfl ?_
        refine am_top (v' := nI q) h21 ?_
        refine am_ialdN (n := 120) (v := nI (tx q)) rfl rfl rfl (by omega) (hT.2.2 q (by omega)).2 (by decide) ?_
        refine am_run 1 (pc' := 22) (ls' := [some (.ref 0)]) (st' := [.int (nI 32), .int (nI (tx q))]) (σ' := σ) rfl ?_
        refine am_ic (ty := 25) (tn := 38) rfl (by decide) rfl rfl (fun (h_2 : nI (tx q) = nI 32) => ?_) (fun (h_2 : ¬ (nI (tx q) = nI 32)) => ?_)
        · have h_2 : tx q = 32 := (nI_eq (by omega) (by omega)).mp h_2
          omega
        have h_2 : ¬ (tx q = 32) := fun z => h_2 ((nI_eq (by omega) (by omega)).mpr z)
        refine am_run 2 (pc' := 42) (ls' := [some (.ref 0)]) (st' := [.int (σ.1 0 21)]) (σ' := σ) rfl ?_
        refine am_top (v' := nI q) h21 ?_
        refine am_run 2 (pc' := 46) (ls' := [some (.ref 0)]) (st' := [.int (σ.1 0 1), .int (nI q)]) (σ' := σ) rfl ?_
        refine am_top (v' := nI L) hT.2.1 ?_
        refine am_ic (ty := 49) (tn := 61) rfl (by decide) rfl rfl (fun (h_3 : nI q < nI L) => ?_) (fun (h_3 : ¬ (nI q < nI L)) => ?_)
        rotate_left
        · have h_3 : ¬ (q < L) := fun z => h_3 ((nI_ltI (by omega) (by omega)).mpr z)
          omega
        have h_3 : q < L := (nI_ltI (by omega) (by omega)).mp h_3
        refine am_run 4 (pc' := 57) (ls' := [some (.ref 0)]) (st' := [.int (σ.1 0 21), .ref 1]) (σ' := σ) rfl ?_
        refine am_top (v' := nI q) h21 ?_
        refine am_ialdN (n := 120) (v := nI (tx q)) rfl rfl rfl (by omega) (hT.2.2 q (by omega)).2 (by decide) ?_
        refine am_run 1 (pc' := 62) (ls' := [some (.ref 0)]) (st' := [.int (nI (tx q))]) (σ' := σ) rfl ?_
        refine am_reti rfl rfl ?_
        exact hq
      · rw [show tk tx L q = 256 from if_neg hqL, show tI 256 = -1 from rfl] at hq
        refine am_run 2 (pc' := 4) (ls' := [some (.ref 0)]) (st' := [.int (σ.1 0 21)]) (σ' := σ) rfl ?_
        refine am_top (v' := nI q) h21 ?_
        refine am_run 2 (pc' := 8) (ls' := [some (.ref 0)]) (st' := [.int (σ.1 0 1), .int (nI q)]) (σ' := σ) rfl ?_
        refine am_top (v' := nI L) hT.2.1 ?_
        refine am_ic (ty := 11) (tn := 38) rfl (by decide) rfl rfl (fun (h_1 : nI q < nI L) => ?_) (fun (h_1 : ¬ (nI q < nI L)) => ?_)
        · have h_1 : q < L := (nI_ltI (by omega) (by omega)).mp h_1
          omega
        have h_1 : ¬ (q < L) := fun z => h_1 ((nI_ltI (by omega) (by omega)).mpr z)
        refine am_run 2 (pc' := 42) (ls' := [some (.ref 0)]) (st' := [.int (σ.1 0 21)]) (σ' := σ) rfl ?_
        refine am_top (v' := nI q) h21 ?_
        refine am_run 2 (pc' := 46) (ls' := [some (.ref 0)]) (st' := [.int (σ.1 0 1), .int (nI q)]) (σ' := σ) rfl ?_
        refine am_top (v' := nI L) hT.2.1 ?_
        refine am_ic (ty := 49) (tn := 61) rfl (by decide) rfl rfl (fun (h_2 : nI q < nI L) => ?_) (fun (h_2 : ¬ (nI q < nI L)) => ?_)
        · have h_2 : q < L := (nI_ltI (by omega) (by omega)).mp h_2
          omega
        have h_2 : ¬ (q < L) := fun z => h_2 ((nI_ltI (by omega) (by omega)).mpr z)
        refine am_run 1 (pc' := 62) (ls' := [some (.ref 0)]) (st' := [.int (-1)]) (σ' := σ) rfl ?_
        refine am_reti rfl rfl ?_
        exact hq
set_option maxRecDepth 10000 in
set_option maxHeartbeats 2000000 in
theorem c_sign {d : Nat} (hd : 1 ≤ d) {σ : am_M} {L q : Nat} {tx : Nat → Nat} (hT : TXm σ L tx) (h2 : q ≤ L) (h21 : σ.1 0 21 = nI q) {Q : am_Q} (hq : Q (some (.int (tI (tk tx L (lk tx L q))))) (am_wr σ 0 21 (nI (lk tx L q)))) : am_C d 154 [.ref 0] σ Q := by
  have hL := hT.1
  refine am_enter' (M := M_X10_sign) rfl rfl rfl (by omega) (ls := [some (.ref 0)]) rfl (fun d' hd' => ?_)
  exact c_sign_loop 120 q σ (by omega) h2 hT h21 hq
/-- the head of the reading loop -/
def HG (d : Nat) (Q : am_Q) (σ : am_M) : Prop := am_G d M_X10_reads Q 50 [some (.ref 0), some (.int (nI 0))] [] σ
set_option maxRecDepth 10000 in
set_option maxHeartbeats 2000000 in
theorem hg_tok {d : Nat} (hd : 1 ≤ d) {σ : am_M} {L q : Nat} {tx : Nat → Nat} (hT : TXm σ L tx) (h2 : q ≤ L) (h21 : σ.1 0 21 = nI q) {Q : am_Q} (hc : tk tx L (lk tx L q) < 256) (h : am_C d 173 [.ref 0, .int (nI (tk tx L (lk tx L q)))] (am_wr σ 0 21 (nI (lk tx L q))) (fun v σ' => σ'.1 0 21 = nI (lk tx L q) ∧ ((v = some (.int (nI 0)) ∧ HG d Q (am_wr σ' 0 21 (nI (lk tx L q + 1)))) ∨ ∃ k, 1 ≤ k ∧ k ≤ 5 ∧ v = some (.int (nI k)) ∧ Q (some (.int (nI k))) σ'))) : HG d Q σ := by
  obtain ⟨k1, k2, k3⟩ := tkm hT (lk tx L q)
  have hqL := k2 hc
  have hL := hT.1
  have ht := (hT.2.2 (lk tx L q) hqL).2
  rw [(k3 hqL).1] at h
  have h256 := (hT.2.2 (lk tx L q) hqL).1
  unfold HG
  refine am_run 1 (pc' := 51) (ls' := [some (.ref 0), some (.int (nI 0))]) (st' := [.int (nI 0)]) (σ' := σ) rfl ?_
  refine am_if (ty := 54) (tn := 97) rfl (by decide) rfl rfl (fun (h_1 : nI 0 = 0) => ?_) (fun (h_1 : ¬ (nI 0 = 0)) => ?_)
  rotate_left
  · exact absurd (by decide) h_1
  refine am_run 1 (pc' := 55) (ls' := [some (.ref 0), some (.int (nI 0))]) (st' := [.ref 0]) (σ' := σ) rfl ?_
  refine am_invv (y := 154) (b := 0) (as := []) (rest := []) rfl rfl rfl rfl rfl rfl rfl (Nat.le_of_ble_eq_true rfl) ?_
  refine c_sign (by omega) hT h2 h21 ?_
  rw [tI_n hc, (k3 hqL).1]
  show am_G _ M_X10_reads _ 58 [some (.ref 0), some (.int (nI 0))] [.int (nI (tx (lk tx L q)))] (am_wr σ 0 21 (nI (lk tx L q)))
  refine am_run 1 (pc' := 59) (ls' := [some (.ref 0), some (.int (nI 0))]) (st' := [.int (-1), .int (nI (tx (lk tx L q)))]) (σ' := (am_wr σ 0 21 (nI (lk tx L q)))) rfl ?_
  refine am_ic (ty := 97) (tn := 62) rfl (by decide) rfl rfl (fun (h_2 : nI (tx (lk tx L q)) = -1) => ?_) (fun (h_2 : ¬ (nI (tx (lk tx L q)) = -1)) => ?_)
  · exact absurd h_2 (am_nm1 (by omega))
  refine am_run 5 (pc' := 71) (ls' := [some (.ref 0), some (.int (nI 0))]) (st' := [.int (nI (lk tx L q)), .ref 1, .ref 0]) (σ' := (am_wr σ 0 21 (nI (lk tx L q)))) rfl ?_
  refine am_ialdN (n := 120) (v := nI (tx (lk tx L q))) rfl rfl rfl (by omega) (by rw [am_wr_ne _ (by decide)]; exact ht) (by decide) ?_
  refine am_invv (y := 173) (b := 0) (as := [.int (nI (tx (lk tx L q)))]) (rest := []) rfl rfl rfl rfl rfl rfl rfl (Nat.le_of_ble_eq_true rfl) ?_
  refine am_C_to h (fun v σ' hv => ?_)
  obtain ⟨h21', ⟨rfl, hv⟩ | ⟨k, hk1, hk5, rfl, hv⟩⟩ := hv
  · show am_G _ M_X10_reads _ 75 [some (.ref 0), some (.int (nI 0))] [.int (nI 0)] σ'
    refine am_run 4 (pc' := 81) (ls' := [some (.ref 0), some (.int (nI 0))]) (st' := [.int (σ'.1 0 21), .ref 0]) (σ' := σ') rfl ?_
    refine am_top (v' := nI (lk tx L q)) h21' ?_
    refine am_run 1 (pc' := 82) (ls' := [some (.ref 0), some (.int (nI 0))]) (st' := [.int (nI 0), .int (nI (lk tx L q)), .ref 0]) (σ' := σ') rfl ?_
    refine am_if (ty := 85) (tn := 89) rfl (by decide) rfl rfl (fun (h_101 : nI 0 = 0) => ?_) (fun (h_101 : ¬ (nI 0 = 0)) => ?_)
    rotate_left
    · exact absurd (by decide) h_101
    refine am_run 3 (pc' := 91) (ls' := [some (.ref 0), some (.int (nI 0))]) (st' := [.int (nI (lk tx L q) + nI 1), .ref 0]) (σ' := σ') rfl ?_
    refine am_top (v' := nI (lk tx L q + 1)) (nI_add _ _) ?_
    refine am_run 2 (pc' := 50) (ls' := [some (.ref 0), some (.int (nI 0))]) (st' := []) (σ' := (am_wr σ' 0 21 (nI (lk tx L q + 1)))) rfl ?_
    exact hv
  · show am_G _ M_X10_reads _ 75 [some (.ref 0), some (.int (nI 0))] [.int (nI k)] σ'
    refine am_run 4 (pc' := 81) (ls' := [some (.ref 0), some (.int (nI k))]) (st' := [.int (σ'.1 0 21), .ref 0]) (σ' := σ') rfl ?_
    refine am_top (v' := nI (lk tx L q)) h21' ?_
    refine am_run 1 (pc' := 82) (ls' := [some (.ref 0), some (.int (nI k))]) (st' := [.int (nI k), .int (nI (lk tx L q)), .ref 0]) (σ' := σ') rfl ?_
    refine am_if (ty := 85) (tn := 89) rfl (by decide) rfl rfl (fun (h_101 : nI k = 0) => ?_) (fun (h_101 : ¬ (nI k = 0)) => ?_)
    · have h_101 : k = 0 := (am_n0 (by omega)).mp h_101
      omega
    have h_101 : ¬ (k = 0) := fun z => h_101 ((am_n0 (by omega)).mpr z)
    refine am_run 2 (pc' := 91) (ls' := [some (.ref 0), some (.int (nI k))]) (st' := [.int (nI (lk tx L q) + nI 0), .ref 0]) (σ' := σ') rfl ?_
    refine am_top (v' := nI (lk tx L q)) (by rw [nI_add, Nat.add_zero]) ?_
    refine am_run 2 (pc' := 50) (ls' := [some (.ref 0), some (.int (nI k))]) (st' := []) (σ' := (am_wr σ' 0 21 (nI (lk tx L q)))) rfl ?_
    refine am_mem (σ' := σ') (am_wr_self h21') ?_
    refine am_run 1 (pc' := 51) (ls' := [some (.ref 0), some (.int (nI k))]) (st' := [.int (nI k)]) (σ' := σ') rfl ?_
    refine am_if (ty := 54) (tn := 97) rfl (by decide) rfl rfl (fun (h_301 : nI k = 0) => ?_) (fun (h_301 : ¬ (nI k = 0)) => ?_)
    · have h_301 : k = 0 := (am_n0 (by omega)).mp h_301
      omega
    have h_301 : ¬ (k = 0) := fun z => h_301 ((am_n0 (by omega)).mpr z)
    refine am_run 1 (pc' := 98) (ls' := [some (.ref 0), some (.int (nI k))]) (st' := [.int (nI k)]) (σ' := σ') rfl ?_
    refine am_if (ty := 103) (tn := 101) rfl (by decide) rfl rfl (fun (h_302 : nI k = 0) => ?_) (fun (h_302 : ¬ (nI k = 0)) => ?_)
    · have h_302 : k = 0 := (am_n0 (by omega)).mp h_302
      omega
    have h_302 : ¬ (k = 0) := fun z => h_302 ((am_n0 (by omega)).mpr z)
    refine am_run 1 (pc' := 102) (ls' := [some (.ref 0), some (.int (nI k))]) (st' := [.int (nI k)]) (σ' := σ') rfl ?_
    refine am_reti rfl rfl ?_
    exact hv
set_option maxRecDepth 10000 in
set_option maxHeartbeats 2000000 in
theorem hg_end {d : Nat} (hd : 1 ≤ d) {σ : am_M} {L q : Nat} {tx : Nat → Nat} (hT : TXm σ L tx) (h2 : q ≤ L) (h21 : σ.1 0 21 = nI q) {Q : am_Q} (hc : tk tx L (lk tx L q) = 256) (h : am_G d M_X10_reads Q 103 [some (.ref 0), some (.int (nI 0))] [] (am_wr σ 0 21 (nI (lk tx L q)))) : HG d Q σ := by
  unfold HG
  refine am_run 1 (pc' := 51) (ls' := [some (.ref 0), some (.int (nI 0))]) (st' := [.int (nI 0)]) (σ' := σ) rfl ?_
  refine am_if (ty := 54) (tn := 97) rfl (by decide) rfl rfl (fun (h_1 : nI 0 = 0) => ?_) (fun (h_1 : ¬ (nI 0 = 0)) => ?_)
  rotate_left
  · exact absurd (by decide) h_1
  refine am_run 1 (pc' := 55) (ls' := [some (.ref 0), some (.int (nI 0))]) (st' := [.ref 0]) (σ' := σ) rfl ?_
  refine am_invv (y := 154) (b := 0) (as := []) (rest := []) rfl rfl rfl rfl rfl rfl rfl (Nat.le_of_ble_eq_true rfl) ?_
  refine c_sign (by omega) hT h2 h21 ?_
  rw [hc, show tI 256 = -1 from rfl]
  show am_G _ M_X10_reads _ 58 [some (.ref 0), some (.int (nI 0))] [.int (-1)] (am_wr σ 0 21 (nI (lk tx L q)))
  refine am_run 1 (pc' := 59) (ls' := [some (.ref 0), some (.int (nI 0))]) (st' := [.int (-1), .int (-1)]) (σ' := (am_wr σ 0 21 (nI (lk tx L q)))) rfl ?_
  refine am_ic (ty := 97) (tn := 62) rfl (by decide) rfl rfl (fun (h_2 : -1 = -1) => ?_) (fun (h_2 : ¬ (-1 = -1)) => ?_)
  rotate_left
  · exact absurd (by decide) h_2
  refine am_run 1 (pc' := 98) (ls' := [some (.ref 0), some (.int (nI 0))]) (st' := [.int (nI 0)]) (σ' := (am_wr σ 0 21 (nI (lk tx L q)))) rfl ?_
  refine am_if (ty := 103) (tn := 101) rfl (by decide) rfl rfl (fun (h_3 : nI 0 = 0) => ?_) (fun (h_3 : ¬ (nI 0 = 0)) => ?_)
  rotate_left
  · exact absurd (by decide) h_3
  exact h
/-- a statement that has just been made -/
def NW (σ : am_M) (n c nw kk : Nat) (O : Nat → Nat) : Prop := σ.1 5 (120 + n) = nI c ∧ σ.1 6 (120 + n) = -1 ∧ σ.1 7 (120 + n) = -1 ∧ σ.1 8 (120 + n) = -1 ∧ σ.1 15 (120 + n) = -1 ∧ σ.1 10 (120 + n) = nI nw ∧ (∀ y, y < nw → σ.1 11 (3 * (120 + n) + y) = nI (O y)) ∧ σ.1 12 (120 + n) = (if isP c = true then nI kk else -1)
set_option maxRecDepth 10000 in
set_option maxHeartbeats 2000000 in
theorem nn_48 {d : Nat} (hd : 2 ≤ d) {σ : am_M} {L pos n kk e lev tr nw : Nat} {tx O : Nat → Nat} (h : RB σ L tx pos n kk e lev tr nw O) (hn : n < 60) {Q : am_Q} (hq : ∀ σ', RB σ' L tx pos (n + 1) (kk) e lev tr nw O → RF σ σ' n e lev nw → NW σ' n 48 nw kk O → σ'.1 0 = σ.1 0 → (∀ c', 20 ≤ c' → c' ≤ 27 → σ'.1 c' = σ.1 c') → Q (some (.int (nI n))) σ') : am_C d 159 [.ref 0, .int (nI 48)] σ Q := by
  obtain ⟨⟨t1, t2, t3⟩, a1, a2, a3, a4, a5, a6, a7, a8, a9, a10, a11, a12, a13, a14⟩ := id h
  refine c_m_newNode_48 hd a3 a5 a12 hn rfl rfl rfl ?_
  refine hq _ (((((((((((h.nodes hn).wr _ (by omega)).wr _ (by omega)).wr _ (by omega)).wr _ (by omega)).wr _ (by omega)).wr _ (by omega)).wr _ (by omega)).wr _ (by omega)).wr _ (by omega)).wr _ (by omega)) ((((((((((((RF.rf σ n e lev nw).tr (RF.wr _ (by omega)) (Nat.le_refl _) (Nat.le_refl _) (Nat.le_refl _) (Nat.le_refl _)).tr (RF.wr _ (by omega)) (Nat.le_refl _) (Nat.le_refl _) (Nat.le_refl _) (Nat.le_refl _)).tr (RF.wr _ (by omega)) (Nat.le_refl _) (Nat.le_refl _) (Nat.le_refl _) (Nat.le_refl _)).tr (RF.wr _ (by omega)) (Nat.le_refl _) (Nat.le_refl _) (Nat.le_refl _) (Nat.le_refl _)).tr (RF.wr _ (by omega)) (Nat.le_refl _) (Nat.le_refl _) (Nat.le_refl _) (Nat.le_refl _)).tr (RF.wr _ (by omega)) (Nat.le_refl _) (Nat.le_refl _) (Nat.le_refl _) (Nat.le_refl _)).tr (RF.wr _ (by omega)) (Nat.le_refl _) (Nat.le_refl _) (Nat.le_refl _) (Nat.le_refl _)).tr (RF.wr _ (by omega)) (Nat.le_refl _) (Nat.le_refl _) (Nat.le_refl _) (Nat.le_refl _)).tr (RF.wr _ (by omega)) (Nat.le_refl _) (Nat.le_refl _) (Nat.le_refl _) (Nat.le_refl _)).tr (RF.wr _ (by omega)) (Nat.le_refl _) (Nat.le_refl _) (Nat.le_refl _) (Nat.le_refl _)).tr (RF.wr _ (by omega)) (Nat.le_refl _) (Nat.le_refl _) (Nat.le_refl _) (Nat.le_refl _)) ⟨?_, ?_, ?_, ?_, ?_, ?_, fun y hy => ?_, ?_⟩ ?_ (fun c' q1 q2 => ?_)
  · rw [am_wr_ne _ (by omega), am_wr_ne _ (by omega), am_wr_ne _ (by omega), am_wr_ne _ (by omega), am_wr_ne _ (by omega), am_wr_ne _ (by omega), am_wr_ne _ (by omega), am_wr_ne _ (by omega), am_wr_ne _ (by omega), am_same]
  · rw [am_wr_ne _ (by omega), am_wr_ne _ (by omega), am_wr_ne _ (by omega), am_wr_ne _ (by omega), am_wr_ne _ (by omega), am_wr_ne _ (by omega), am_wr_ne _ (by omega), am_wr_ne _ (by omega), am_same]
  · rw [am_wr_ne _ (by omega), am_wr_ne _ (by omega), am_wr_ne _ (by omega), am_wr_ne _ (by omega), am_wr_ne _ (by omega), am_wr_ne _ (by omega), am_wr_ne _ (by omega), am_same]
  · rw [am_wr_ne _ (by omega), am_wr_ne _ (by omega), am_wr_ne _ (by omega), am_wr_ne _ (by omega), am_wr_ne _ (by omega), am_wr_ne _ (by omega), am_same]
  · rw [am_wr_ne _ (by omega), am_wr_ne _ (by omega), am_wr_ne _ (by omega), am_wr_ne _ (by omega), am_wr_ne _ (by omega), am_same]
  · rw [am_wr_ne _ (by omega), am_wr_ne _ (by omega), am_wr_ne _ (by omega), am_same]
  · have h27 := (a14 y hy).1
    rcases (show y = 0 ∨ y = 1 ∨ y = 2 by omega) with rfl | rfl | rfl
    · rw [am_diff _ _ _ _ _ (by omega), am_diff _ _ _ _ _ (by omega), am_same]; exact h27
    · rw [am_diff _ _ _ _ _ (by omega), am_same]; exact h27
    · rw [am_same]; exact h27
  · rw [am_wr_ne _ (by omega), am_wr_ne _ (by omega), am_wr_ne _ (by omega), am_wr_ne _ (by omega), am_same]; rfl
  · rw [am_wr_ne _ (by decide), am_wr_ne _ (by decide), am_wr_ne _ (by decide), am_wr_ne _ (by decide), am_wr_ne _ (by decide), am_wr_ne _ (by decide), am_wr_ne _ (by decide), am_wr_ne _ (by decide), am_wr_ne _ (by decide), am_wr_ne _ (by decide), am_wr_ne _ (by decide)]
  · rw [am_wr_ne _ (by omega), am_wr_ne _ (by omega), am_wr_ne _ (by omega), am_wr_ne _ (by omega), am_wr_ne _ (by omega), am_wr_ne _ (by omega), am_wr_ne _ (by omega), am_wr_ne _ (by omega), am_wr_ne _ (by omega), am_wr_ne _ (by omega), am_wr_ne _ (by omega)]
set_option maxRecDepth 10000 in
set_option maxHeartbeats 2000000 in
theorem nn_46 {d : Nat} (hd : 2 ≤ d) {σ : am_M} {L pos n kk e lev tr nw : Nat} {tx O : Nat → Nat} (h : RB σ L tx pos n kk e lev tr nw O) (hn : n < 60) (hk : kk < 20) {Q : am_Q} (hq : ∀ σ', RB σ' L tx pos (n + 1) (kk + 1) e lev tr nw O → RF σ σ' n e lev nw → NW σ' n 46 nw kk O → σ'.1 0 = σ.1 0 → (∀ c', 20 ≤ c' → c' ≤ 27 → σ'.1 c' = σ.1 c') → Q (some (.int (nI n))) σ') : am_C d 159 [.ref 0, .int (nI 46)] σ Q := by
  obtain ⟨⟨t1, t2, t3⟩, a1, a2, a3, a4, a5, a6, a7, a8, a9, a10, a11, a12, a13, a14⟩ := id h
  refine c_m_newNode_46 hd a3 a5 a12 hn rfl rfl rfl ?_
  refine hq _ (((((((((((((h.nodes hn).wr _ (by omega)).wr _ (by omega)).wr _ (by omega)).wr _ (by omega)).wr _ (by omega)).wr _ (by omega)).wr _ (by omega)).wr _ (by omega)).wr _ (by omega)).wr _ (by omega)).wr _ (by omega)).rests hk) ((((((((((((((RF.rf σ n e lev nw).tr (RF.wr _ (by omega)) (Nat.le_refl _) (Nat.le_refl _) (Nat.le_refl _) (Nat.le_refl _)).tr (RF.wr _ (by omega)) (Nat.le_refl _) (Nat.le_refl _) (Nat.le_refl _) (Nat.le_refl _)).tr (RF.wr _ (by omega)) (Nat.le_refl _) (Nat.le_refl _) (Nat.le_refl _) (Nat.le_refl _)).tr (RF.wr _ (by omega)) (Nat.le_refl _) (Nat.le_refl _) (Nat.le_refl _) (Nat.le_refl _)).tr (RF.wr _ (by omega)) (Nat.le_refl _) (Nat.le_refl _) (Nat.le_refl _) (Nat.le_refl _)).tr (RF.wr _ (by omega)) (Nat.le_refl _) (Nat.le_refl _) (Nat.le_refl _) (Nat.le_refl _)).tr (RF.wr _ (by omega)) (Nat.le_refl _) (Nat.le_refl _) (Nat.le_refl _) (Nat.le_refl _)).tr (RF.wr _ (by omega)) (Nat.le_refl _) (Nat.le_refl _) (Nat.le_refl _) (Nat.le_refl _)).tr (RF.wr _ (by omega)) (Nat.le_refl _) (Nat.le_refl _) (Nat.le_refl _) (Nat.le_refl _)).tr (RF.wr _ (by omega)) (Nat.le_refl _) (Nat.le_refl _) (Nat.le_refl _) (Nat.le_refl _)).tr (RF.wr _ (by omega)) (Nat.le_refl _) (Nat.le_refl _) (Nat.le_refl _) (Nat.le_refl _)).tr (RF.wr _ (by omega)) (Nat.le_refl _) (Nat.le_refl _) (Nat.le_refl _) (Nat.le_refl _)).tr (RF.wr _ (by omega)) (Nat.le_refl _) (Nat.le_refl _) (Nat.le_refl _) (Nat.le_refl _)) ⟨?_, ?_, ?_, ?_, ?_, ?_, fun y hy => ?_, ?_⟩ ?_ (fun c' q1 q2 => ?_)
  · rw [am_wr_ne _ (by omega), am_wr_ne _ (by omega), am_wr_ne _ (by omega), am_wr_ne _ (by omega), am_wr_ne _ (by omega), am_wr_ne _ (by omega), am_wr_ne _ (by omega), am_wr_ne _ (by omega), am_wr_ne _ (by omega), am_wr_ne _ (by omega), am_wr_ne _ (by omega), am_same]
  · rw [am_wr_ne _ (by omega), am_wr_ne _ (by omega), am_wr_ne _ (by omega), am_wr_ne _ (by omega), am_wr_ne _ (by omega), am_wr_ne _ (by omega), am_wr_ne _ (by omega), am_wr_ne _ (by omega), am_wr_ne _ (by omega), am_wr_ne _ (by omega), am_same]
  · rw [am_wr_ne _ (by omega), am_wr_ne _ (by omega), am_wr_ne _ (by omega), am_wr_ne _ (by omega), am_wr_ne _ (by omega), am_wr_ne _ (by omega), am_wr_ne _ (by omega), am_wr_ne _ (by omega), am_wr_ne _ (by omega), am_same]
  · rw [am_wr_ne _ (by omega), am_wr_ne _ (by omega), am_wr_ne _ (by omega), am_wr_ne _ (by omega), am_wr_ne _ (by omega), am_wr_ne _ (by omega), am_wr_ne _ (by omega), am_wr_ne _ (by omega), am_same]
  · rw [am_wr_ne _ (by omega), am_wr_ne _ (by omega), am_wr_ne _ (by omega), am_wr_ne _ (by omega), am_wr_ne _ (by omega), am_wr_ne _ (by omega), am_wr_ne _ (by omega), am_same]
  · rw [am_wr_ne _ (by omega), am_wr_ne _ (by omega), am_wr_ne _ (by omega), am_wr_ne _ (by omega), am_wr_ne _ (by omega), am_same]
  · have h27 := (a14 y hy).1
    rcases (show y = 0 ∨ y = 1 ∨ y = 2 by omega) with rfl | rfl | rfl
    · rw [am_wr_ne _ (by omega), am_wr_ne _ (by omega), am_diff _ _ _ _ _ (by omega), am_diff _ _ _ _ _ (by omega), am_same]; exact h27
    · rw [am_wr_ne _ (by omega), am_wr_ne _ (by omega), am_diff _ _ _ _ _ (by omega), am_same]; exact h27
    · rw [am_wr_ne _ (by omega), am_wr_ne _ (by omega), am_same]; exact h27
  · rw [am_wr_ne _ (by omega), am_same]; rfl
  · rw [am_wr_ne _ (by decide), am_wr_ne _ (by decide), am_wr_ne _ (by decide), am_wr_ne _ (by decide), am_wr_ne _ (by decide), am_wr_ne _ (by decide), am_wr_ne _ (by decide), am_wr_ne _ (by decide), am_wr_ne _ (by decide), am_wr_ne _ (by decide), am_wr_ne _ (by decide), am_wr_ne _ (by decide), am_wr_ne _ (by decide)]
  · rw [am_wr_ne _ (by omega), am_wr_ne _ (by omega), am_wr_ne _ (by omega), am_wr_ne _ (by omega), am_wr_ne _ (by omega), am_wr_ne _ (by omega), am_wr_ne _ (by omega), am_wr_ne _ (by omega), am_wr_ne _ (by omega), am_wr_ne _ (by omega), am_wr_ne _ (by omega), am_wr_ne _ (by omega), am_wr_ne _ (by omega)]
set_option maxRecDepth 10000 in
set_option maxHeartbeats 2000000 in
theorem nn_120 {d : Nat} (hd : 2 ≤ d) {σ : am_M} {L pos n kk e lev tr nw : Nat} {tx O : Nat → Nat} (h : RB σ L tx pos n kk e lev tr nw O) (hn : n < 60) {Q : am_Q} (hq : ∀ σ', RB σ' L tx pos (n + 1) (kk) e lev tr nw O → RF σ σ' n e lev nw → NW σ' n 120 nw kk O → σ'.1 0 = σ.1 0 → (∀ c', 20 ≤ c' → c' ≤ 27 → σ'.1 c' = σ.1 c') → Q (some (.int (nI n))) σ') : am_C d 159 [.ref 0, .int (nI 120)] σ Q := by
  obtain ⟨⟨t1, t2, t3⟩, a1, a2, a3, a4, a5, a6, a7, a8, a9, a10, a11, a12, a13, a14⟩ := id h
  refine c_m_newNode_120 hd a3 a5 a12 hn rfl rfl rfl ?_
  refine hq _ (((((((((((h.nodes hn).wr _ (by omega)).wr _ (by omega)).wr _ (by omega)).wr _ (by omega)).wr _ (by omega)).wr _ (by omega)).wr _ (by omega)).wr _ (by omega)).wr _ (by omega)).wr _ (by omega)) ((((((((((((RF.rf σ n e lev nw).tr (RF.wr _ (by omega)) (Nat.le_refl _) (Nat.le_refl _) (Nat.le_refl _) (Nat.le_refl _)).tr (RF.wr _ (by omega)) (Nat.le_refl _) (Nat.le_refl _) (Nat.le_refl _) (Nat.le_refl _)).tr (RF.wr _ (by omega)) (Nat.le_refl _) (Nat.le_refl _) (Nat.le_refl _) (Nat.le_refl _)).tr (RF.wr _ (by omega)) (Nat.le_refl _) (Nat.le_refl _) (Nat.le_refl _) (Nat.le_refl _)).tr (RF.wr _ (by omega)) (Nat.le_refl _) (Nat.le_refl _) (Nat.le_refl _) (Nat.le_refl _)).tr (RF.wr _ (by omega)) (Nat.le_refl _) (Nat.le_refl _) (Nat.le_refl _) (Nat.le_refl _)).tr (RF.wr _ (by omega)) (Nat.le_refl _) (Nat.le_refl _) (Nat.le_refl _) (Nat.le_refl _)).tr (RF.wr _ (by omega)) (Nat.le_refl _) (Nat.le_refl _) (Nat.le_refl _) (Nat.le_refl _)).tr (RF.wr _ (by omega)) (Nat.le_refl _) (Nat.le_refl _) (Nat.le_refl _) (Nat.le_refl _)).tr (RF.wr _ (by omega)) (Nat.le_refl _) (Nat.le_refl _) (Nat.le_refl _) (Nat.le_refl _)).tr (RF.wr _ (by omega)) (Nat.le_refl _) (Nat.le_refl _) (Nat.le_refl _) (Nat.le_refl _)) ⟨?_, ?_, ?_, ?_, ?_, ?_, fun y hy => ?_, ?_⟩ ?_ (fun c' q1 q2 => ?_)
  · rw [am_wr_ne _ (by omega), am_wr_ne _ (by omega), am_wr_ne _ (by omega), am_wr_ne _ (by omega), am_wr_ne _ (by omega), am_wr_ne _ (by omega), am_wr_ne _ (by omega), am_wr_ne _ (by omega), am_wr_ne _ (by omega), am_same]
  · rw [am_wr_ne _ (by omega), am_wr_ne _ (by omega), am_wr_ne _ (by omega), am_wr_ne _ (by omega), am_wr_ne _ (by omega), am_wr_ne _ (by omega), am_wr_ne _ (by omega), am_wr_ne _ (by omega), am_same]
  · rw [am_wr_ne _ (by omega), am_wr_ne _ (by omega), am_wr_ne _ (by omega), am_wr_ne _ (by omega), am_wr_ne _ (by omega), am_wr_ne _ (by omega), am_wr_ne _ (by omega), am_same]
  · rw [am_wr_ne _ (by omega), am_wr_ne _ (by omega), am_wr_ne _ (by omega), am_wr_ne _ (by omega), am_wr_ne _ (by omega), am_wr_ne _ (by omega), am_same]
  · rw [am_wr_ne _ (by omega), am_wr_ne _ (by omega), am_wr_ne _ (by omega), am_wr_ne _ (by omega), am_wr_ne _ (by omega), am_same]
  · rw [am_wr_ne _ (by omega), am_wr_ne _ (by omega), am_wr_ne _ (by omega), am_same]
  · have h27 := (a14 y hy).1
    rcases (show y = 0 ∨ y = 1 ∨ y = 2 by omega) with rfl | rfl | rfl
    · rw [am_diff _ _ _ _ _ (by omega), am_diff _ _ _ _ _ (by omega), am_same]; exact h27
    · rw [am_diff _ _ _ _ _ (by omega), am_same]; exact h27
    · rw [am_same]; exact h27
  · rw [am_wr_ne _ (by omega), am_wr_ne _ (by omega), am_wr_ne _ (by omega), am_wr_ne _ (by omega), am_same]; rfl
  · rw [am_wr_ne _ (by decide), am_wr_ne _ (by decide), am_wr_ne _ (by decide), am_wr_ne _ (by decide), am_wr_ne _ (by decide), am_wr_ne _ (by decide), am_wr_ne _ (by decide), am_wr_ne _ (by decide), am_wr_ne _ (by decide), am_wr_ne _ (by decide), am_wr_ne _ (by decide)]
  · rw [am_wr_ne _ (by omega), am_wr_ne _ (by omega), am_wr_ne _ (by omega), am_wr_ne _ (by omega), am_wr_ne _ (by omega), am_wr_ne _ (by omega), am_wr_ne _ (by omega), am_wr_ne _ (by omega), am_wr_ne _ (by omega), am_wr_ne _ (by omega), am_wr_ne _ (by omega)]
set_option maxRecDepth 10000 in
set_option maxHeartbeats 2000000 in
theorem nn_33 {d : Nat} (hd : 2 ≤ d) {σ : am_M} {L pos n kk e lev tr nw : Nat} {tx O : Nat → Nat} (h : RB σ L tx pos n kk e lev tr nw O) (hn : n < 60) {Q : am_Q} (hq : ∀ σ', RB σ' L tx pos (n + 1) (kk) e lev tr nw O → RF σ σ' n e lev nw → NW σ' n 33 nw kk O → σ'.1 0 = σ.1 0 → (∀ c', 20 ≤ c' → c' ≤ 27 → σ'.1 c' = σ.1 c') → Q (some (.int (nI n))) σ') : am_C d 159 [.ref 0, .int (nI 33)] σ Q := by
  obtain ⟨⟨t1, t2, t3⟩, a1, a2, a3, a4, a5, a6, a7, a8, a9, a10, a11, a12, a13, a14⟩ := id h
  refine c_m_newNode_33 hd a3 a5 a12 hn rfl rfl rfl ?_
  refine hq _ (((((((((((h.nodes hn).wr _ (by omega)).wr _ (by omega)).wr _ (by omega)).wr _ (by omega)).wr _ (by omega)).wr _ (by omega)).wr _ (by omega)).wr _ (by omega)).wr _ (by omega)).wr _ (by omega)) ((((((((((((RF.rf σ n e lev nw).tr (RF.wr _ (by omega)) (Nat.le_refl _) (Nat.le_refl _) (Nat.le_refl _) (Nat.le_refl _)).tr (RF.wr _ (by omega)) (Nat.le_refl _) (Nat.le_refl _) (Nat.le_refl _) (Nat.le_refl _)).tr (RF.wr _ (by omega)) (Nat.le_refl _) (Nat.le_refl _) (Nat.le_refl _) (Nat.le_refl _)).tr (RF.wr _ (by omega)) (Nat.le_refl _) (Nat.le_refl _) (Nat.le_refl _) (Nat.le_refl _)).tr (RF.wr _ (by omega)) (Nat.le_refl _) (Nat.le_refl _) (Nat.le_refl _) (Nat.le_refl _)).tr (RF.wr _ (by omega)) (Nat.le_refl _) (Nat.le_refl _) (Nat.le_refl _) (Nat.le_refl _)).tr (RF.wr _ (by omega)) (Nat.le_refl _) (Nat.le_refl _) (Nat.le_refl _) (Nat.le_refl _)).tr (RF.wr _ (by omega)) (Nat.le_refl _) (Nat.le_refl _) (Nat.le_refl _) (Nat.le_refl _)).tr (RF.wr _ (by omega)) (Nat.le_refl _) (Nat.le_refl _) (Nat.le_refl _) (Nat.le_refl _)).tr (RF.wr _ (by omega)) (Nat.le_refl _) (Nat.le_refl _) (Nat.le_refl _) (Nat.le_refl _)).tr (RF.wr _ (by omega)) (Nat.le_refl _) (Nat.le_refl _) (Nat.le_refl _) (Nat.le_refl _)) ⟨?_, ?_, ?_, ?_, ?_, ?_, fun y hy => ?_, ?_⟩ ?_ (fun c' q1 q2 => ?_)
  · rw [am_wr_ne _ (by omega), am_wr_ne _ (by omega), am_wr_ne _ (by omega), am_wr_ne _ (by omega), am_wr_ne _ (by omega), am_wr_ne _ (by omega), am_wr_ne _ (by omega), am_wr_ne _ (by omega), am_wr_ne _ (by omega), am_same]
  · rw [am_wr_ne _ (by omega), am_wr_ne _ (by omega), am_wr_ne _ (by omega), am_wr_ne _ (by omega), am_wr_ne _ (by omega), am_wr_ne _ (by omega), am_wr_ne _ (by omega), am_wr_ne _ (by omega), am_same]
  · rw [am_wr_ne _ (by omega), am_wr_ne _ (by omega), am_wr_ne _ (by omega), am_wr_ne _ (by omega), am_wr_ne _ (by omega), am_wr_ne _ (by omega), am_wr_ne _ (by omega), am_same]
  · rw [am_wr_ne _ (by omega), am_wr_ne _ (by omega), am_wr_ne _ (by omega), am_wr_ne _ (by omega), am_wr_ne _ (by omega), am_wr_ne _ (by omega), am_same]
  · rw [am_wr_ne _ (by omega), am_wr_ne _ (by omega), am_wr_ne _ (by omega), am_wr_ne _ (by omega), am_wr_ne _ (by omega), am_same]
  · rw [am_wr_ne _ (by omega), am_wr_ne _ (by omega), am_wr_ne _ (by omega), am_same]
  · have h27 := (a14 y hy).1
    rcases (show y = 0 ∨ y = 1 ∨ y = 2 by omega) with rfl | rfl | rfl
    · rw [am_diff _ _ _ _ _ (by omega), am_diff _ _ _ _ _ (by omega), am_same]; exact h27
    · rw [am_diff _ _ _ _ _ (by omega), am_same]; exact h27
    · rw [am_same]; exact h27
  · rw [am_wr_ne _ (by omega), am_wr_ne _ (by omega), am_wr_ne _ (by omega), am_wr_ne _ (by omega), am_same]; rfl
  · rw [am_wr_ne _ (by decide), am_wr_ne _ (by decide), am_wr_ne _ (by decide), am_wr_ne _ (by decide), am_wr_ne _ (by decide), am_wr_ne _ (by decide), am_wr_ne _ (by decide), am_wr_ne _ (by decide), am_wr_ne _ (by decide), am_wr_ne _ (by decide), am_wr_ne _ (by decide)]
  · rw [am_wr_ne _ (by omega), am_wr_ne _ (by omega), am_wr_ne _ (by omega), am_wr_ne _ (by omega), am_wr_ne _ (by omega), am_wr_ne _ (by omega), am_wr_ne _ (by omega), am_wr_ne _ (by omega), am_wr_ne _ (by omega), am_wr_ne _ (by omega), am_wr_ne _ (by omega)]
set_option maxRecDepth 10000 in
set_option maxHeartbeats 2000000 in
theorem nn_38 {d : Nat} (hd : 2 ≤ d) {σ : am_M} {L pos n kk e lev tr nw : Nat} {tx O : Nat → Nat} (h : RB σ L tx pos n kk e lev tr nw O) (hn : n < 60) (hk : kk < 20) {Q : am_Q} (hq : ∀ σ', RB σ' L tx pos (n + 1) (kk + 1) e lev tr nw O → RF σ σ' n e lev nw → NW σ' n 38 nw kk O → σ'.1 0 = σ.1 0 → (∀ c', 20 ≤ c' → c' ≤ 27 → σ'.1 c' = σ.1 c') → Q (some (.int (nI n))) σ') : am_C d 159 [.ref 0, .int (nI 38)] σ Q := by
  obtain ⟨⟨t1, t2, t3⟩, a1, a2, a3, a4, a5, a6, a7, a8, a9, a10, a11, a12, a13, a14⟩ := id h
  refine c_m_newNode_38 hd a3 a5 a12 hn rfl rfl rfl ?_
  refine hq _ (((((((((((((h.nodes hn).wr _ (by omega)).wr _ (by omega)).wr _ (by omega)).wr _ (by omega)).wr _ (by omega)).wr _ (by omega)).wr _ (by omega)).wr _ (by omega)).wr _ (by omega)).wr _ (by omega)).wr _ (by omega)).rests hk) ((((((((((((((RF.rf σ n e lev nw).tr (RF.wr _ (by omega)) (Nat.le_refl _) (Nat.le_refl _) (Nat.le_refl _) (Nat.le_refl _)).tr (RF.wr _ (by omega)) (Nat.le_refl _) (Nat.le_refl _) (Nat.le_refl _) (Nat.le_refl _)).tr (RF.wr _ (by omega)) (Nat.le_refl _) (Nat.le_refl _) (Nat.le_refl _) (Nat.le_refl _)).tr (RF.wr _ (by omega)) (Nat.le_refl _) (Nat.le_refl _) (Nat.le_refl _) (Nat.le_refl _)).tr (RF.wr _ (by omega)) (Nat.le_refl _) (Nat.le_refl _) (Nat.le_refl _) (Nat.le_refl _)).tr (RF.wr _ (by omega)) (Nat.le_refl _) (Nat.le_refl _) (Nat.le_refl _) (Nat.le_refl _)).tr (RF.wr _ (by omega)) (Nat.le_refl _) (Nat.le_refl _) (Nat.le_refl _) (Nat.le_refl _)).tr (RF.wr _ (by omega)) (Nat.le_refl _) (Nat.le_refl _) (Nat.le_refl _) (Nat.le_refl _)).tr (RF.wr _ (by omega)) (Nat.le_refl _) (Nat.le_refl _) (Nat.le_refl _) (Nat.le_refl _)).tr (RF.wr _ (by omega)) (Nat.le_refl _) (Nat.le_refl _) (Nat.le_refl _) (Nat.le_refl _)).tr (RF.wr _ (by omega)) (Nat.le_refl _) (Nat.le_refl _) (Nat.le_refl _) (Nat.le_refl _)).tr (RF.wr _ (by omega)) (Nat.le_refl _) (Nat.le_refl _) (Nat.le_refl _) (Nat.le_refl _)).tr (RF.wr _ (by omega)) (Nat.le_refl _) (Nat.le_refl _) (Nat.le_refl _) (Nat.le_refl _)) ⟨?_, ?_, ?_, ?_, ?_, ?_, fun y hy => ?_, ?_⟩ ?_ (fun c' q1 q2 => ?_)
  · rw [am_wr_ne _ (by omega), am_wr_ne _ (by omega), am_wr_ne _ (by omega), am_wr_ne _ (by omega), am_wr_ne _ (by omega), am_wr_ne _ (by omega), am_wr_ne _ (by omega), am_wr_ne _ (by omega), am_wr_ne _ (by omega), am_wr_ne _ (by omega), am_wr_ne _ (by omega), am_same]
  · rw [am_wr_ne _ (by omega), am_wr_ne _ (by omega), am_wr_ne _ (by omega), am_wr_ne _ (by omega), am_wr_ne _ (by omega), am_wr_ne _ (by omega), am_wr_ne _ (by omega), am_wr_ne _ (by omega), am_wr_ne _ (by omega), am_wr_ne _ (by omega), am_same]
  · rw [am_wr_ne _ (by omega), am_wr_ne _ (by omega), am_wr_ne _ (by omega), am_wr_ne _ (by omega), am_wr_ne _ (by omega), am_wr_ne _ (by omega), am_wr_ne _ (by omega), am_wr_ne _ (by omega), am_wr_ne _ (by omega), am_same]
  · rw [am_wr_ne _ (by omega), am_wr_ne _ (by omega), am_wr_ne _ (by omega), am_wr_ne _ (by omega), am_wr_ne _ (by omega), am_wr_ne _ (by omega), am_wr_ne _ (by omega), am_wr_ne _ (by omega), am_same]
  · rw [am_wr_ne _ (by omega), am_wr_ne _ (by omega), am_wr_ne _ (by omega), am_wr_ne _ (by omega), am_wr_ne _ (by omega), am_wr_ne _ (by omega), am_wr_ne _ (by omega), am_same]
  · rw [am_wr_ne _ (by omega), am_wr_ne _ (by omega), am_wr_ne _ (by omega), am_wr_ne _ (by omega), am_wr_ne _ (by omega), am_same]
  · have h27 := (a14 y hy).1
    rcases (show y = 0 ∨ y = 1 ∨ y = 2 by omega) with rfl | rfl | rfl
    · rw [am_wr_ne _ (by omega), am_wr_ne _ (by omega), am_diff _ _ _ _ _ (by omega), am_diff _ _ _ _ _ (by omega), am_same]; exact h27
    · rw [am_wr_ne _ (by omega), am_wr_ne _ (by omega), am_diff _ _ _ _ _ (by omega), am_same]; exact h27
    · rw [am_wr_ne _ (by omega), am_wr_ne _ (by omega), am_same]; exact h27
  · rw [am_wr_ne _ (by omega), am_same]; rfl
  · rw [am_wr_ne _ (by decide), am_wr_ne _ (by decide), am_wr_ne _ (by decide), am_wr_ne _ (by decide), am_wr_ne _ (by decide), am_wr_ne _ (by decide), am_wr_ne _ (by decide), am_wr_ne _ (by decide), am_wr_ne _ (by decide), am_wr_ne _ (by decide), am_wr_ne _ (by decide), am_wr_ne _ (by decide), am_wr_ne _ (by decide)]
  · rw [am_wr_ne _ (by omega), am_wr_ne _ (by omega), am_wr_ne _ (by omega), am_wr_ne _ (by omega), am_wr_ne _ (by omega), am_wr_ne _ (by omega), am_wr_ne _ (by omega), am_wr_ne _ (by omega), am_wr_ne _ (by omega), am_wr_ne _ (by omega), am_wr_ne _ (by omega), am_wr_ne _ (by omega), am_wr_ne _ (by omega)]
set_option maxRecDepth 10000 in
set_option maxHeartbeats 2000000 in
theorem nn_63 {d : Nat} (hd : 2 ≤ d) {σ : am_M} {L pos n kk e lev tr nw : Nat} {tx O : Nat → Nat} (h : RB σ L tx pos n kk e lev tr nw O) (hn : n < 60) {Q : am_Q} (hq : ∀ σ', RB σ' L tx pos (n + 1) (kk) e lev tr nw O → RF σ σ' n e lev nw → NW σ' n 63 nw kk O → σ'.1 0 = σ.1 0 → (∀ c', 20 ≤ c' → c' ≤ 27 → σ'.1 c' = σ.1 c') → Q (some (.int (nI n))) σ') : am_C d 159 [.ref 0, .int (nI 63)] σ Q := by
  obtain ⟨⟨t1, t2, t3⟩, a1, a2, a3, a4, a5, a6, a7, a8, a9, a10, a11, a12, a13, a14⟩ := id h
  refine c_m_newNode_63 hd a3 a5 a12 hn rfl rfl rfl ?_
  refine hq _ (((((((((((h.nodes hn).wr _ (by omega)).wr _ (by omega)).wr _ (by omega)).wr _ (by omega)).wr _ (by omega)).wr _ (by omega)).wr _ (by omega)).wr _ (by omega)).wr _ (by omega)).wr _ (by omega)) ((((((((((((RF.rf σ n e lev nw).tr (RF.wr _ (by omega)) (Nat.le_refl _) (Nat.le_refl _) (Nat.le_refl _) (Nat.le_refl _)).tr (RF.wr _ (by omega)) (Nat.le_refl _) (Nat.le_refl _) (Nat.le_refl _) (Nat.le_refl _)).tr (RF.wr _ (by omega)) (Nat.le_refl _) (Nat.le_refl _) (Nat.le_refl _) (Nat.le_refl _)).tr (RF.wr _ (by omega)) (Nat.le_refl _) (Nat.le_refl _) (Nat.le_refl _) (Nat.le_refl _)).tr (RF.wr _ (by omega)) (Nat.le_refl _) (Nat.le_refl _) (Nat.le_refl _) (Nat.le_refl _)).tr (RF.wr _ (by omega)) (Nat.le_refl _) (Nat.le_refl _) (Nat.le_refl _) (Nat.le_refl _)).tr (RF.wr _ (by omega)) (Nat.le_refl _) (Nat.le_refl _) (Nat.le_refl _) (Nat.le_refl _)).tr (RF.wr _ (by omega)) (Nat.le_refl _) (Nat.le_refl _) (Nat.le_refl _) (Nat.le_refl _)).tr (RF.wr _ (by omega)) (Nat.le_refl _) (Nat.le_refl _) (Nat.le_refl _) (Nat.le_refl _)).tr (RF.wr _ (by omega)) (Nat.le_refl _) (Nat.le_refl _) (Nat.le_refl _) (Nat.le_refl _)).tr (RF.wr _ (by omega)) (Nat.le_refl _) (Nat.le_refl _) (Nat.le_refl _) (Nat.le_refl _)) ⟨?_, ?_, ?_, ?_, ?_, ?_, fun y hy => ?_, ?_⟩ ?_ (fun c' q1 q2 => ?_)
  · rw [am_wr_ne _ (by omega), am_wr_ne _ (by omega), am_wr_ne _ (by omega), am_wr_ne _ (by omega), am_wr_ne _ (by omega), am_wr_ne _ (by omega), am_wr_ne _ (by omega), am_wr_ne _ (by omega), am_wr_ne _ (by omega), am_same]
  · rw [am_wr_ne _ (by omega), am_wr_ne _ (by omega), am_wr_ne _ (by omega), am_wr_ne _ (by omega), am_wr_ne _ (by omega), am_wr_ne _ (by omega), am_wr_ne _ (by omega), am_wr_ne _ (by omega), am_same]
  · rw [am_wr_ne _ (by omega), am_wr_ne _ (by omega), am_wr_ne _ (by omega), am_wr_ne _ (by omega), am_wr_ne _ (by omega), am_wr_ne _ (by omega), am_wr_ne _ (by omega), am_same]
  · rw [am_wr_ne _ (by omega), am_wr_ne _ (by omega), am_wr_ne _ (by omega), am_wr_ne _ (by omega), am_wr_ne _ (by omega), am_wr_ne _ (by omega), am_same]
  · rw [am_wr_ne _ (by omega), am_wr_ne _ (by omega), am_wr_ne _ (by omega), am_wr_ne _ (by omega), am_wr_ne _ (by omega), am_same]
  · rw [am_wr_ne _ (by omega), am_wr_ne _ (by omega), am_wr_ne _ (by omega), am_same]
  · have h27 := (a14 y hy).1
    rcases (show y = 0 ∨ y = 1 ∨ y = 2 by omega) with rfl | rfl | rfl
    · rw [am_diff _ _ _ _ _ (by omega), am_diff _ _ _ _ _ (by omega), am_same]; exact h27
    · rw [am_diff _ _ _ _ _ (by omega), am_same]; exact h27
    · rw [am_same]; exact h27
  · rw [am_wr_ne _ (by omega), am_wr_ne _ (by omega), am_wr_ne _ (by omega), am_wr_ne _ (by omega), am_same]; rfl
  · rw [am_wr_ne _ (by decide), am_wr_ne _ (by decide), am_wr_ne _ (by decide), am_wr_ne _ (by decide), am_wr_ne _ (by decide), am_wr_ne _ (by decide), am_wr_ne _ (by decide), am_wr_ne _ (by decide), am_wr_ne _ (by decide), am_wr_ne _ (by decide), am_wr_ne _ (by decide)]
  · rw [am_wr_ne _ (by omega), am_wr_ne _ (by omega), am_wr_ne _ (by omega), am_wr_ne _ (by omega), am_wr_ne _ (by omega), am_wr_ne _ (by omega), am_wr_ne _ (by omega), am_wr_ne _ (by omega), am_wr_ne _ (by omega), am_wr_ne _ (by omega), am_wr_ne _ (by omega)]
set_option maxRecDepth 10000 in
set_option maxHeartbeats 2000000 in
theorem nn_42 {d : Nat} (hd : 2 ≤ d) {σ : am_M} {L pos n kk e lev tr nw : Nat} {tx O : Nat → Nat} (h : RB σ L tx pos n kk e lev tr nw O) (hn : n < 60) {Q : am_Q} (hq : ∀ σ', RB σ' L tx pos (n + 1) (kk) e lev tr nw O → RF σ σ' n e lev nw → NW σ' n 42 nw kk O → σ'.1 0 = σ.1 0 → (∀ c', 20 ≤ c' → c' ≤ 27 → σ'.1 c' = σ.1 c') → Q (some (.int (nI n))) σ') : am_C d 159 [.ref 0, .int (nI 42)] σ Q := by
  obtain ⟨⟨t1, t2, t3⟩, a1, a2, a3, a4, a5, a6, a7, a8, a9, a10, a11, a12, a13, a14⟩ := id h
  refine c_m_newNode_42 hd a3 a5 a12 hn rfl rfl rfl ?_
  refine hq _ (((((((((((h.nodes hn).wr _ (by omega)).wr _ (by omega)).wr _ (by omega)).wr _ (by omega)).wr _ (by omega)).wr _ (by omega)).wr _ (by omega)).wr _ (by omega)).wr _ (by omega)).wr _ (by omega)) ((((((((((((RF.rf σ n e lev nw).tr (RF.wr _ (by omega)) (Nat.le_refl _) (Nat.le_refl _) (Nat.le_refl _) (Nat.le_refl _)).tr (RF.wr _ (by omega)) (Nat.le_refl _) (Nat.le_refl _) (Nat.le_refl _) (Nat.le_refl _)).tr (RF.wr _ (by omega)) (Nat.le_refl _) (Nat.le_refl _) (Nat.le_refl _) (Nat.le_refl _)).tr (RF.wr _ (by omega)) (Nat.le_refl _) (Nat.le_refl _) (Nat.le_refl _) (Nat.le_refl _)).tr (RF.wr _ (by omega)) (Nat.le_refl _) (Nat.le_refl _) (Nat.le_refl _) (Nat.le_refl _)).tr (RF.wr _ (by omega)) (Nat.le_refl _) (Nat.le_refl _) (Nat.le_refl _) (Nat.le_refl _)).tr (RF.wr _ (by omega)) (Nat.le_refl _) (Nat.le_refl _) (Nat.le_refl _) (Nat.le_refl _)).tr (RF.wr _ (by omega)) (Nat.le_refl _) (Nat.le_refl _) (Nat.le_refl _) (Nat.le_refl _)).tr (RF.wr _ (by omega)) (Nat.le_refl _) (Nat.le_refl _) (Nat.le_refl _) (Nat.le_refl _)).tr (RF.wr _ (by omega)) (Nat.le_refl _) (Nat.le_refl _) (Nat.le_refl _) (Nat.le_refl _)).tr (RF.wr _ (by omega)) (Nat.le_refl _) (Nat.le_refl _) (Nat.le_refl _) (Nat.le_refl _)) ⟨?_, ?_, ?_, ?_, ?_, ?_, fun y hy => ?_, ?_⟩ ?_ (fun c' q1 q2 => ?_)
  · rw [am_wr_ne _ (by omega), am_wr_ne _ (by omega), am_wr_ne _ (by omega), am_wr_ne _ (by omega), am_wr_ne _ (by omega), am_wr_ne _ (by omega), am_wr_ne _ (by omega), am_wr_ne _ (by omega), am_wr_ne _ (by omega), am_same]
  · rw [am_wr_ne _ (by omega), am_wr_ne _ (by omega), am_wr_ne _ (by omega), am_wr_ne _ (by omega), am_wr_ne _ (by omega), am_wr_ne _ (by omega), am_wr_ne _ (by omega), am_wr_ne _ (by omega), am_same]
  · rw [am_wr_ne _ (by omega), am_wr_ne _ (by omega), am_wr_ne _ (by omega), am_wr_ne _ (by omega), am_wr_ne _ (by omega), am_wr_ne _ (by omega), am_wr_ne _ (by omega), am_same]
  · rw [am_wr_ne _ (by omega), am_wr_ne _ (by omega), am_wr_ne _ (by omega), am_wr_ne _ (by omega), am_wr_ne _ (by omega), am_wr_ne _ (by omega), am_same]
  · rw [am_wr_ne _ (by omega), am_wr_ne _ (by omega), am_wr_ne _ (by omega), am_wr_ne _ (by omega), am_wr_ne _ (by omega), am_same]
  · rw [am_wr_ne _ (by omega), am_wr_ne _ (by omega), am_wr_ne _ (by omega), am_same]
  · have h27 := (a14 y hy).1
    rcases (show y = 0 ∨ y = 1 ∨ y = 2 by omega) with rfl | rfl | rfl
    · rw [am_diff _ _ _ _ _ (by omega), am_diff _ _ _ _ _ (by omega), am_same]; exact h27
    · rw [am_diff _ _ _ _ _ (by omega), am_same]; exact h27
    · rw [am_same]; exact h27
  · rw [am_wr_ne _ (by omega), am_wr_ne _ (by omega), am_wr_ne _ (by omega), am_wr_ne _ (by omega), am_same]; rfl
  · rw [am_wr_ne _ (by decide), am_wr_ne _ (by decide), am_wr_ne _ (by decide), am_wr_ne _ (by decide), am_wr_ne _ (by decide), am_wr_ne _ (by decide), am_wr_ne _ (by decide), am_wr_ne _ (by decide), am_wr_ne _ (by decide), am_wr_ne _ (by decide), am_wr_ne _ (by decide)]
  · rw [am_wr_ne _ (by omega), am_wr_ne _ (by omega), am_wr_ne _ (by omega), am_wr_ne _ (by omega), am_wr_ne _ (by omega), am_wr_ne _ (by omega), am_wr_ne _ (by omega), am_wr_ne _ (by omega), am_wr_ne _ (by omega), am_wr_ne _ (by omega), am_wr_ne _ (by omega)]
set_option maxRecDepth 10000 in
set_option maxHeartbeats 2000000 in
theorem nn_94 {d : Nat} (hd : 2 ≤ d) {σ : am_M} {L pos n kk e lev tr nw : Nat} {tx O : Nat → Nat} (h : RB σ L tx pos n kk e lev tr nw O) (hn : n < 60) {Q : am_Q} (hq : ∀ σ', RB σ' L tx pos (n + 1) (kk) e lev tr nw O → RF σ σ' n e lev nw → NW σ' n 94 nw kk O → σ'.1 0 = σ.1 0 → (∀ c', 20 ≤ c' → c' ≤ 27 → σ'.1 c' = σ.1 c') → Q (some (.int (nI n))) σ') : am_C d 159 [.ref 0, .int (nI 94)] σ Q := by
  obtain ⟨⟨t1, t2, t3⟩, a1, a2, a3, a4, a5, a6, a7, a8, a9, a10, a11, a12, a13, a14⟩ := id h
  refine c_m_newNode_94 hd a3 a5 a12 hn rfl rfl rfl ?_
  refine hq _ (((((((((((h.nodes hn).wr _ (by omega)).wr _ (by omega)).wr _ (by omega)).wr _ (by omega)).wr _ (by omega)).wr _ (by omega)).wr _ (by omega)).wr _ (by omega)).wr _ (by omega)).wr _ (by omega)) ((((((((((((RF.rf σ n e lev nw).tr (RF.wr _ (by omega)) (Nat.le_refl _) (Nat.le_refl _) (Nat.le_refl _) (Nat.le_refl _)).tr (RF.wr _ (by omega)) (Nat.le_refl _) (Nat.le_refl _) (Nat.le_refl _) (Nat.le_refl _)).tr (RF.wr _ (by omega)) (Nat.le_refl _) (Nat.le_refl _) (Nat.le_refl _) (Nat.le_refl _)).tr (RF.wr _ (by omega)) (Nat.le_refl _) (Nat.le_refl _) (Nat.le_refl _) (Nat.le_refl _)).tr (RF.wr _ (by omega)) (Nat.le_refl _) (Nat.le_refl _) (Nat.le_refl _) (Nat.le_refl _)).tr (RF.wr _ (by omega)) (Nat.le_refl _) (Nat.le_refl _) (Nat.le_refl _) (Nat.le_refl _)).tr (RF.wr _ (by omega)) (Nat.le_refl _) (Nat.le_refl _) (Nat.le_refl _) (Nat.le_refl _)).tr (RF.wr _ (by omega)) (Nat.le_refl _) (Nat.le_refl _) (Nat.le_refl _) (Nat.le_refl _)).tr (RF.wr _ (by omega)) (Nat.le_refl _) (Nat.le_refl _) (Nat.le_refl _) (Nat.le_refl _)).tr (RF.wr _ (by omega)) (Nat.le_refl _) (Nat.le_refl _) (Nat.le_refl _) (Nat.le_refl _)).tr (RF.wr _ (by omega)) (Nat.le_refl _) (Nat.le_refl _) (Nat.le_refl _) (Nat.le_refl _)) ⟨?_, ?_, ?_, ?_, ?_, ?_, fun y hy => ?_, ?_⟩ ?_ (fun c' q1 q2 => ?_)
  · rw [am_wr_ne _ (by omega), am_wr_ne _ (by omega), am_wr_ne _ (by omega), am_wr_ne _ (by omega), am_wr_ne _ (by omega), am_wr_ne _ (by omega), am_wr_ne _ (by omega), am_wr_ne _ (by omega), am_wr_ne _ (by omega), am_same]
  · rw [am_wr_ne _ (by omega), am_wr_ne _ (by omega), am_wr_ne _ (by omega), am_wr_ne _ (by omega), am_wr_ne _ (by omega), am_wr_ne _ (by omega), am_wr_ne _ (by omega), am_wr_ne _ (by omega), am_same]
  · rw [am_wr_ne _ (by omega), am_wr_ne _ (by omega), am_wr_ne _ (by omega), am_wr_ne _ (by omega), am_wr_ne _ (by omega), am_wr_ne _ (by omega), am_wr_ne _ (by omega), am_same]
  · rw [am_wr_ne _ (by omega), am_wr_ne _ (by omega), am_wr_ne _ (by omega), am_wr_ne _ (by omega), am_wr_ne _ (by omega), am_wr_ne _ (by omega), am_same]
  · rw [am_wr_ne _ (by omega), am_wr_ne _ (by omega), am_wr_ne _ (by omega), am_wr_ne _ (by omega), am_wr_ne _ (by omega), am_same]
  · rw [am_wr_ne _ (by omega), am_wr_ne _ (by omega), am_wr_ne _ (by omega), am_same]
  · have h27 := (a14 y hy).1
    rcases (show y = 0 ∨ y = 1 ∨ y = 2 by omega) with rfl | rfl | rfl
    · rw [am_diff _ _ _ _ _ (by omega), am_diff _ _ _ _ _ (by omega), am_same]; exact h27
    · rw [am_diff _ _ _ _ _ (by omega), am_same]; exact h27
    · rw [am_same]; exact h27
  · rw [am_wr_ne _ (by omega), am_wr_ne _ (by omega), am_wr_ne _ (by omega), am_wr_ne _ (by omega), am_same]; rfl
  · rw [am_wr_ne _ (by decide), am_wr_ne _ (by decide), am_wr_ne _ (by decide), am_wr_ne _ (by decide), am_wr_ne _ (by decide), am_wr_ne _ (by decide), am_wr_ne _ (by decide), am_wr_ne _ (by decide), am_wr_ne _ (by decide), am_wr_ne _ (by decide), am_wr_ne _ (by decide)]
  · rw [am_wr_ne _ (by omega), am_wr_ne _ (by omega), am_wr_ne _ (by omega), am_wr_ne _ (by omega), am_wr_ne _ (by omega), am_wr_ne _ (by omega), am_wr_ne _ (by omega), am_wr_ne _ (by omega), am_wr_ne _ (by omega), am_wr_ne _ (by omega), am_wr_ne _ (by omega)]
set_option maxRecDepth 10000 in
set_option maxHeartbeats 2000000 in
theorem nn_64 {d : Nat} (hd : 2 ≤ d) {σ : am_M} {L pos n kk e lev tr nw : Nat} {tx O : Nat → Nat} (h : RB σ L tx pos n kk e lev tr nw O) (hn : n < 60) {Q : am_Q} (hq : ∀ σ', RB σ' L tx pos (n + 1) (kk) e lev tr nw O → RF σ σ' n e lev nw → NW σ' n 64 nw kk O → σ'.1 0 = σ.1 0 → (∀ c', 20 ≤ c' → c' ≤ 27 → σ'.1 c' = σ.1 c') → Q (some (.int (nI n))) σ') : am_C d 159 [.ref 0, .int (nI 64)] σ Q := by
  obtain ⟨⟨t1, t2, t3⟩, a1, a2, a3, a4, a5, a6, a7, a8, a9, a10, a11, a12, a13, a14⟩ := id h
  refine c_m_newNode_64 hd a3 a5 a12 hn rfl rfl rfl ?_
  refine hq _ (((((((((((h.nodes hn).wr _ (by omega)).wr _ (by omega)).wr _ (by omega)).wr _ (by omega)).wr _ (by omega)).wr _ (by omega)).wr _ (by omega)).wr _ (by omega)).wr _ (by omega)).wr _ (by omega)) ((((((((((((RF.rf σ n e lev nw).tr (RF.wr _ (by omega)) (Nat.le_refl _) (Nat.le_refl _) (Nat.le_refl _) (Nat.le_refl _)).tr (RF.wr _ (by omega)) (Nat.le_refl _) (Nat.le_refl _) (Nat.le_refl _) (Nat.le_refl _)).tr (RF.wr _ (by omega)) (Nat.le_refl _) (Nat.le_refl _) (Nat.le_refl _) (Nat.le_refl _)).tr (RF.wr _ (by omega)) (Nat.le_refl _) (Nat.le_refl _) (Nat.le_refl _) (Nat.le_refl _)).tr (RF.wr _ (by omega)) (Nat.le_refl _) (Nat.le_refl _) (Nat.le_refl _) (Nat.le_refl _)).tr (RF.wr _ (by omega)) (Nat.le_refl _) (Nat.le_refl _) (Nat.le_refl _) (Nat.le_refl _)).tr (RF.wr _ (by omega)) (Nat.le_refl _) (Nat.le_refl _) (Nat.le_refl _) (Nat.le_refl _)).tr (RF.wr _ (by omega)) (Nat.le_refl _) (Nat.le_refl _) (Nat.le_refl _) (Nat.le_refl _)).tr (RF.wr _ (by omega)) (Nat.le_refl _) (Nat.le_refl _) (Nat.le_refl _) (Nat.le_refl _)).tr (RF.wr _ (by omega)) (Nat.le_refl _) (Nat.le_refl _) (Nat.le_refl _) (Nat.le_refl _)).tr (RF.wr _ (by omega)) (Nat.le_refl _) (Nat.le_refl _) (Nat.le_refl _) (Nat.le_refl _)) ⟨?_, ?_, ?_, ?_, ?_, ?_, fun y hy => ?_, ?_⟩ ?_ (fun c' q1 q2 => ?_)
  · rw [am_wr_ne _ (by omega), am_wr_ne _ (by omega), am_wr_ne _ (by omega), am_wr_ne _ (by omega), am_wr_ne _ (by omega), am_wr_ne _ (by omega), am_wr_ne _ (by omega), am_wr_ne _ (by omega), am_wr_ne _ (by omega), am_same]
  · rw [am_wr_ne _ (by omega), am_wr_ne _ (by omega), am_wr_ne _ (by omega), am_wr_ne _ (by omega), am_wr_ne _ (by omega), am_wr_ne _ (by omega), am_wr_ne _ (by omega), am_wr_ne _ (by omega), am_same]
  · rw [am_wr_ne _ (by omega), am_wr_ne _ (by omega), am_wr_ne _ (by omega), am_wr_ne _ (by omega), am_wr_ne _ (by omega), am_wr_ne _ (by omega), am_wr_ne _ (by omega), am_same]
  · rw [am_wr_ne _ (by omega), am_wr_ne _ (by omega), am_wr_ne _ (by omega), am_wr_ne _ (by omega), am_wr_ne _ (by omega), am_wr_ne _ (by omega), am_same]
  · rw [am_wr_ne _ (by omega), am_wr_ne _ (by omega), am_wr_ne _ (by omega), am_wr_ne _ (by omega), am_wr_ne _ (by omega), am_same]
  · rw [am_wr_ne _ (by omega), am_wr_ne _ (by omega), am_wr_ne _ (by omega), am_same]
  · have h27 := (a14 y hy).1
    rcases (show y = 0 ∨ y = 1 ∨ y = 2 by omega) with rfl | rfl | rfl
    · rw [am_diff _ _ _ _ _ (by omega), am_diff _ _ _ _ _ (by omega), am_same]; exact h27
    · rw [am_diff _ _ _ _ _ (by omega), am_same]; exact h27
    · rw [am_same]; exact h27
  · rw [am_wr_ne _ (by omega), am_wr_ne _ (by omega), am_wr_ne _ (by omega), am_wr_ne _ (by omega), am_same]; rfl
  · rw [am_wr_ne _ (by decide), am_wr_ne _ (by decide), am_wr_ne _ (by decide), am_wr_ne _ (by decide), am_wr_ne _ (by decide), am_wr_ne _ (by decide), am_wr_ne _ (by decide), am_wr_ne _ (by decide), am_wr_ne _ (by decide), am_wr_ne _ (by decide), am_wr_ne _ (by decide)]
  · rw [am_wr_ne _ (by omega), am_wr_ne _ (by omega), am_wr_ne _ (by omega), am_wr_ne _ (by omega), am_wr_ne _ (by omega), am_wr_ne _ (by omega), am_wr_ne _ (by omega), am_wr_ne _ (by omega), am_wr_ne _ (by omega), am_wr_ne _ (by omega), am_wr_ne _ (by omega)]
set_option maxRecDepth 10000 in
set_option maxHeartbeats 2000000 in
theorem nn_126 {d : Nat} (hd : 2 ≤ d) {σ : am_M} {L pos n kk e lev tr nw : Nat} {tx O : Nat → Nat} (h : RB σ L tx pos n kk e lev tr nw O) (hn : n < 60) {Q : am_Q} (hq : ∀ σ', RB σ' L tx pos (n + 1) (kk) e lev tr nw O → RF σ σ' n e lev nw → NW σ' n 126 nw kk O → σ'.1 0 = σ.1 0 → (∀ c', 20 ≤ c' → c' ≤ 27 → σ'.1 c' = σ.1 c') → Q (some (.int (nI n))) σ') : am_C d 159 [.ref 0, .int (nI 126)] σ Q := by
  obtain ⟨⟨t1, t2, t3⟩, a1, a2, a3, a4, a5, a6, a7, a8, a9, a10, a11, a12, a13, a14⟩ := id h
  refine c_m_newNode_126 hd a3 a5 a12 hn rfl rfl rfl ?_
  refine hq _ (((((((((((h.nodes hn).wr _ (by omega)).wr _ (by omega)).wr _ (by omega)).wr _ (by omega)).wr _ (by omega)).wr _ (by omega)).wr _ (by omega)).wr _ (by omega)).wr _ (by omega)).wr _ (by omega)) ((((((((((((RF.rf σ n e lev nw).tr (RF.wr _ (by omega)) (Nat.le_refl _) (Nat.le_refl _) (Nat.le_refl _) (Nat.le_refl _)).tr (RF.wr _ (by omega)) (Nat.le_refl _) (Nat.le_refl _) (Nat.le_refl _) (Nat.le_refl _)).tr (RF.wr _ (by omega)) (Nat.le_refl _) (Nat.le_refl _) (Nat.le_refl _) (Nat.le_refl _)).tr (RF.wr _ (by omega)) (Nat.le_refl _) (Nat.le_refl _) (Nat.le_refl _) (Nat.le_refl _)).tr (RF.wr _ (by omega)) (Nat.le_refl _) (Nat.le_refl _) (Nat.le_refl _) (Nat.le_refl _)).tr (RF.wr _ (by omega)) (Nat.le_refl _) (Nat.le_refl _) (Nat.le_refl _) (Nat.le_refl _)).tr (RF.wr _ (by omega)) (Nat.le_refl _) (Nat.le_refl _) (Nat.le_refl _) (Nat.le_refl _)).tr (RF.wr _ (by omega)) (Nat.le_refl _) (Nat.le_refl _) (Nat.le_refl _) (Nat.le_refl _)).tr (RF.wr _ (by omega)) (Nat.le_refl _) (Nat.le_refl _) (Nat.le_refl _) (Nat.le_refl _)).tr (RF.wr _ (by omega)) (Nat.le_refl _) (Nat.le_refl _) (Nat.le_refl _) (Nat.le_refl _)).tr (RF.wr _ (by omega)) (Nat.le_refl _) (Nat.le_refl _) (Nat.le_refl _) (Nat.le_refl _)) ⟨?_, ?_, ?_, ?_, ?_, ?_, fun y hy => ?_, ?_⟩ ?_ (fun c' q1 q2 => ?_)
  · rw [am_wr_ne _ (by omega), am_wr_ne _ (by omega), am_wr_ne _ (by omega), am_wr_ne _ (by omega), am_wr_ne _ (by omega), am_wr_ne _ (by omega), am_wr_ne _ (by omega), am_wr_ne _ (by omega), am_wr_ne _ (by omega), am_same]
  · rw [am_wr_ne _ (by omega), am_wr_ne _ (by omega), am_wr_ne _ (by omega), am_wr_ne _ (by omega), am_wr_ne _ (by omega), am_wr_ne _ (by omega), am_wr_ne _ (by omega), am_wr_ne _ (by omega), am_same]
  · rw [am_wr_ne _ (by omega), am_wr_ne _ (by omega), am_wr_ne _ (by omega), am_wr_ne _ (by omega), am_wr_ne _ (by omega), am_wr_ne _ (by omega), am_wr_ne _ (by omega), am_same]
  · rw [am_wr_ne _ (by omega), am_wr_ne _ (by omega), am_wr_ne _ (by omega), am_wr_ne _ (by omega), am_wr_ne _ (by omega), am_wr_ne _ (by omega), am_same]
  · rw [am_wr_ne _ (by omega), am_wr_ne _ (by omega), am_wr_ne _ (by omega), am_wr_ne _ (by omega), am_wr_ne _ (by omega), am_same]
  · rw [am_wr_ne _ (by omega), am_wr_ne _ (by omega), am_wr_ne _ (by omega), am_same]
  · have h27 := (a14 y hy).1
    rcases (show y = 0 ∨ y = 1 ∨ y = 2 by omega) with rfl | rfl | rfl
    · rw [am_diff _ _ _ _ _ (by omega), am_diff _ _ _ _ _ (by omega), am_same]; exact h27
    · rw [am_diff _ _ _ _ _ (by omega), am_same]; exact h27
    · rw [am_same]; exact h27
  · rw [am_wr_ne _ (by omega), am_wr_ne _ (by omega), am_wr_ne _ (by omega), am_wr_ne _ (by omega), am_same]; rfl
  · rw [am_wr_ne _ (by decide), am_wr_ne _ (by decide), am_wr_ne _ (by decide), am_wr_ne _ (by decide), am_wr_ne _ (by decide), am_wr_ne _ (by decide), am_wr_ne _ (by decide), am_wr_ne _ (by decide), am_wr_ne _ (by decide), am_wr_ne _ (by decide), am_wr_ne _ (by decide)]
  · rw [am_wr_ne _ (by omega), am_wr_ne _ (by omega), am_wr_ne _ (by omega), am_wr_ne _ (by omega), am_wr_ne _ (by omega), am_wr_ne _ (by omega), am_wr_ne _ (by omega), am_wr_ne _ (by omega), am_wr_ne _ (by omega), am_wr_ne _ (by omega), am_wr_ne _ (by omega)]
set_option maxRecDepth 10000 in
set_option maxHeartbeats 2000000 in
theorem nn_36 {d : Nat} (hd : 2 ≤ d) {σ : am_M} {L pos n kk e lev tr nw : Nat} {tx O : Nat → Nat} (h : RB σ L tx pos n kk e lev tr nw O) (hn : n < 60) {Q : am_Q} (hq : ∀ σ', RB σ' L tx pos (n + 1) (kk) e lev tr nw O → RF σ σ' n e lev nw → NW σ' n 36 nw kk O → σ'.1 0 = σ.1 0 → (∀ c', 20 ≤ c' → c' ≤ 27 → σ'.1 c' = σ.1 c') → Q (some (.int (nI n))) σ') : am_C d 159 [.ref 0, .int (nI 36)] σ Q := by
  obtain ⟨⟨t1, t2, t3⟩, a1, a2, a3, a4, a5, a6, a7, a8, a9, a10, a11, a12, a13, a14⟩ := id h
  refine c_m_newNode_36 hd a3 a5 a12 hn rfl rfl rfl ?_
  refine hq _ (((((((((((h.nodes hn).wr _ (by omega)).wr _ (by omega)).wr _ (by omega)).wr _ (by omega)).wr _ (by omega)).wr _ (by omega)).wr _ (by omega)).wr _ (by omega)).wr _ (by omega)).wr _ (by omega)) ((((((((((((RF.rf σ n e lev nw).tr (RF.wr _ (by omega)) (Nat.le_refl _) (Nat.le_refl _) (Nat.le_refl _) (Nat.le_refl _)).tr (RF.wr _ (by omega)) (Nat.le_refl _) (Nat.le_refl _) (Nat.le_refl _) (Nat.le_refl _)).tr (RF.wr _ (by omega)) (Nat.le_refl _) (Nat.le_refl _) (Nat.le_refl _) (Nat.le_refl _)).tr (RF.wr _ (by omega)) (Nat.le_refl _) (Nat.le_refl _) (Nat.le_refl _) (Nat.le_refl _)).tr (RF.wr _ (by omega)) (Nat.le_refl _) (Nat.le_refl _) (Nat.le_refl _) (Nat.le_refl _)).tr (RF.wr _ (by omega)) (Nat.le_refl _) (Nat.le_refl _) (Nat.le_refl _) (Nat.le_refl _)).tr (RF.wr _ (by omega)) (Nat.le_refl _) (Nat.le_refl _) (Nat.le_refl _) (Nat.le_refl _)).tr (RF.wr _ (by omega)) (Nat.le_refl _) (Nat.le_refl _) (Nat.le_refl _) (Nat.le_refl _)).tr (RF.wr _ (by omega)) (Nat.le_refl _) (Nat.le_refl _) (Nat.le_refl _) (Nat.le_refl _)).tr (RF.wr _ (by omega)) (Nat.le_refl _) (Nat.le_refl _) (Nat.le_refl _) (Nat.le_refl _)).tr (RF.wr _ (by omega)) (Nat.le_refl _) (Nat.le_refl _) (Nat.le_refl _) (Nat.le_refl _)) ⟨?_, ?_, ?_, ?_, ?_, ?_, fun y hy => ?_, ?_⟩ ?_ (fun c' q1 q2 => ?_)
  · rw [am_wr_ne _ (by omega), am_wr_ne _ (by omega), am_wr_ne _ (by omega), am_wr_ne _ (by omega), am_wr_ne _ (by omega), am_wr_ne _ (by omega), am_wr_ne _ (by omega), am_wr_ne _ (by omega), am_wr_ne _ (by omega), am_same]
  · rw [am_wr_ne _ (by omega), am_wr_ne _ (by omega), am_wr_ne _ (by omega), am_wr_ne _ (by omega), am_wr_ne _ (by omega), am_wr_ne _ (by omega), am_wr_ne _ (by omega), am_wr_ne _ (by omega), am_same]
  · rw [am_wr_ne _ (by omega), am_wr_ne _ (by omega), am_wr_ne _ (by omega), am_wr_ne _ (by omega), am_wr_ne _ (by omega), am_wr_ne _ (by omega), am_wr_ne _ (by omega), am_same]
  · rw [am_wr_ne _ (by omega), am_wr_ne _ (by omega), am_wr_ne _ (by omega), am_wr_ne _ (by omega), am_wr_ne _ (by omega), am_wr_ne _ (by omega), am_same]
  · rw [am_wr_ne _ (by omega), am_wr_ne _ (by omega), am_wr_ne _ (by omega), am_wr_ne _ (by omega), am_wr_ne _ (by omega), am_same]
  · rw [am_wr_ne _ (by omega), am_wr_ne _ (by omega), am_wr_ne _ (by omega), am_same]
  · have h27 := (a14 y hy).1
    rcases (show y = 0 ∨ y = 1 ∨ y = 2 by omega) with rfl | rfl | rfl
    · rw [am_diff _ _ _ _ _ (by omega), am_diff _ _ _ _ _ (by omega), am_same]; exact h27
    · rw [am_diff _ _ _ _ _ (by omega), am_same]; exact h27
    · rw [am_same]; exact h27
  · rw [am_wr_ne _ (by omega), am_wr_ne _ (by omega), am_wr_ne _ (by omega), am_wr_ne _ (by omega), am_same]; rfl
  · rw [am_wr_ne _ (by decide), am_wr_ne _ (by decide), am_wr_ne _ (by decide), am_wr_ne _ (by decide), am_wr_ne _ (by decide), am_wr_ne _ (by decide), am_wr_ne _ (by decide), am_wr_ne _ (by decide), am_wr_ne _ (by decide), am_wr_ne _ (by decide), am_wr_ne _ (by decide)]
  · rw [am_wr_ne _ (by omega), am_wr_ne _ (by omega), am_wr_ne _ (by omega), am_wr_ne _ (by omega), am_wr_ne _ (by omega), am_wr_ne _ (by omega), am_wr_ne _ (by omega), am_wr_ne _ (by omega), am_wr_ne _ (by omega), am_wr_ne _ (by omega), am_wr_ne _ (by omega)]
set_option maxRecDepth 10000 in
set_option maxHeartbeats 2000000 in
theorem nn_59 {d : Nat} (hd : 2 ≤ d) {σ : am_M} {L pos n kk e lev tr nw : Nat} {tx O : Nat → Nat} (h : RB σ L tx pos n kk e lev tr nw O) (hn : n < 60) {Q : am_Q} (hq : ∀ σ', RB σ' L tx pos (n + 1) (kk) e lev tr nw O → RF σ σ' n e lev nw → NW σ' n 59 nw kk O → σ'.1 0 = σ.1 0 → (∀ c', 20 ≤ c' → c' ≤ 27 → σ'.1 c' = σ.1 c') → Q (some (.int (nI n))) σ') : am_C d 159 [.ref 0, .int (nI 59)] σ Q := by
  obtain ⟨⟨t1, t2, t3⟩, a1, a2, a3, a4, a5, a6, a7, a8, a9, a10, a11, a12, a13, a14⟩ := id h
  refine c_m_newNode_59 hd a3 a5 a12 hn rfl rfl rfl ?_
  refine hq _ (((((((((((h.nodes hn).wr _ (by omega)).wr _ (by omega)).wr _ (by omega)).wr _ (by omega)).wr _ (by omega)).wr _ (by omega)).wr _ (by omega)).wr _ (by omega)).wr _ (by omega)).wr _ (by omega)) ((((((((((((RF.rf σ n e lev nw).tr (RF.wr _ (by omega)) (Nat.le_refl _) (Nat.le_refl _) (Nat.le_refl _) (Nat.le_refl _)).tr (RF.wr _ (by omega)) (Nat.le_refl _) (Nat.le_refl _) (Nat.le_refl _) (Nat.le_refl _)).tr (RF.wr _ (by omega)) (Nat.le_refl _) (Nat.le_refl _) (Nat.le_refl _) (Nat.le_refl _)).tr (RF.wr _ (by omega)) (Nat.le_refl _) (Nat.le_refl _) (Nat.le_refl _) (Nat.le_refl _)).tr (RF.wr _ (by omega)) (Nat.le_refl _) (Nat.le_refl _) (Nat.le_refl _) (Nat.le_refl _)).tr (RF.wr _ (by omega)) (Nat.le_refl _) (Nat.le_refl _) (Nat.le_refl _) (Nat.le_refl _)).tr (RF.wr _ (by omega)) (Nat.le_refl _) (Nat.le_refl _) (Nat.le_refl _) (Nat.le_refl _)).tr (RF.wr _ (by omega)) (Nat.le_refl _) (Nat.le_refl _) (Nat.le_refl _) (Nat.le_refl _)).tr (RF.wr _ (by omega)) (Nat.le_refl _) (Nat.le_refl _) (Nat.le_refl _) (Nat.le_refl _)).tr (RF.wr _ (by omega)) (Nat.le_refl _) (Nat.le_refl _) (Nat.le_refl _) (Nat.le_refl _)).tr (RF.wr _ (by omega)) (Nat.le_refl _) (Nat.le_refl _) (Nat.le_refl _) (Nat.le_refl _)) ⟨?_, ?_, ?_, ?_, ?_, ?_, fun y hy => ?_, ?_⟩ ?_ (fun c' q1 q2 => ?_)
  · rw [am_wr_ne _ (by omega), am_wr_ne _ (by omega), am_wr_ne _ (by omega), am_wr_ne _ (by omega), am_wr_ne _ (by omega), am_wr_ne _ (by omega), am_wr_ne _ (by omega), am_wr_ne _ (by omega), am_wr_ne _ (by omega), am_same]
  · rw [am_wr_ne _ (by omega), am_wr_ne _ (by omega), am_wr_ne _ (by omega), am_wr_ne _ (by omega), am_wr_ne _ (by omega), am_wr_ne _ (by omega), am_wr_ne _ (by omega), am_wr_ne _ (by omega), am_same]
  · rw [am_wr_ne _ (by omega), am_wr_ne _ (by omega), am_wr_ne _ (by omega), am_wr_ne _ (by omega), am_wr_ne _ (by omega), am_wr_ne _ (by omega), am_wr_ne _ (by omega), am_same]
  · rw [am_wr_ne _ (by omega), am_wr_ne _ (by omega), am_wr_ne _ (by omega), am_wr_ne _ (by omega), am_wr_ne _ (by omega), am_wr_ne _ (by omega), am_same]
  · rw [am_wr_ne _ (by omega), am_wr_ne _ (by omega), am_wr_ne _ (by omega), am_wr_ne _ (by omega), am_wr_ne _ (by omega), am_same]
  · rw [am_wr_ne _ (by omega), am_wr_ne _ (by omega), am_wr_ne _ (by omega), am_same]
  · have h27 := (a14 y hy).1
    rcases (show y = 0 ∨ y = 1 ∨ y = 2 by omega) with rfl | rfl | rfl
    · rw [am_diff _ _ _ _ _ (by omega), am_diff _ _ _ _ _ (by omega), am_same]; exact h27
    · rw [am_diff _ _ _ _ _ (by omega), am_same]; exact h27
    · rw [am_same]; exact h27
  · rw [am_wr_ne _ (by omega), am_wr_ne _ (by omega), am_wr_ne _ (by omega), am_wr_ne _ (by omega), am_same]; rfl
  · rw [am_wr_ne _ (by decide), am_wr_ne _ (by decide), am_wr_ne _ (by decide), am_wr_ne _ (by decide), am_wr_ne _ (by decide), am_wr_ne _ (by decide), am_wr_ne _ (by decide), am_wr_ne _ (by decide), am_wr_ne _ (by decide), am_wr_ne _ (by decide), am_wr_ne _ (by decide)]
  · rw [am_wr_ne _ (by omega), am_wr_ne _ (by omega), am_wr_ne _ (by omega), am_wr_ne _ (by omega), am_wr_ne _ (by omega), am_wr_ne _ (by omega), am_wr_ne _ (by omega), am_wr_ne _ (by omega), am_wr_ne _ (by omega), am_wr_ne _ (by omega), am_wr_ne _ (by omega)]
set_option maxRecDepth 10000 in
set_option maxHeartbeats 2000000 in
theorem nn_124 {d : Nat} (hd : 2 ≤ d) {σ : am_M} {L pos n kk e lev tr nw : Nat} {tx O : Nat → Nat} (h : RB σ L tx pos n kk e lev tr nw O) (hn : n < 60) {Q : am_Q} (hq : ∀ σ', RB σ' L tx pos (n + 1) (kk) e lev tr nw O → RF σ σ' n e lev nw → NW σ' n 124 nw kk O → σ'.1 0 = σ.1 0 → (∀ c', 20 ≤ c' → c' ≤ 27 → σ'.1 c' = σ.1 c') → Q (some (.int (nI n))) σ') : am_C d 159 [.ref 0, .int (nI 124)] σ Q := by
  obtain ⟨⟨t1, t2, t3⟩, a1, a2, a3, a4, a5, a6, a7, a8, a9, a10, a11, a12, a13, a14⟩ := id h
  refine c_m_newNode_124 hd a3 a5 a12 hn rfl rfl rfl ?_
  refine hq _ (((((((((((h.nodes hn).wr _ (by omega)).wr _ (by omega)).wr _ (by omega)).wr _ (by omega)).wr _ (by omega)).wr _ (by omega)).wr _ (by omega)).wr _ (by omega)).wr _ (by omega)).wr _ (by omega)) ((((((((((((RF.rf σ n e lev nw).tr (RF.wr _ (by omega)) (Nat.le_refl _) (Nat.le_refl _) (Nat.le_refl _) (Nat.le_refl _)).tr (RF.wr _ (by omega)) (Nat.le_refl _) (Nat.le_refl _) (Nat.le_refl _) (Nat.le_refl _)).tr (RF.wr _ (by omega)) (Nat.le_refl _) (Nat.le_refl _) (Nat.le_refl _) (Nat.le_refl _)).tr (RF.wr _ (by omega)) (Nat.le_refl _) (Nat.le_refl _) (Nat.le_refl _) (Nat.le_refl _)).tr (RF.wr _ (by omega)) (Nat.le_refl _) (Nat.le_refl _) (Nat.le_refl _) (Nat.le_refl _)).tr (RF.wr _ (by omega)) (Nat.le_refl _) (Nat.le_refl _) (Nat.le_refl _) (Nat.le_refl _)).tr (RF.wr _ (by omega)) (Nat.le_refl _) (Nat.le_refl _) (Nat.le_refl _) (Nat.le_refl _)).tr (RF.wr _ (by omega)) (Nat.le_refl _) (Nat.le_refl _) (Nat.le_refl _) (Nat.le_refl _)).tr (RF.wr _ (by omega)) (Nat.le_refl _) (Nat.le_refl _) (Nat.le_refl _) (Nat.le_refl _)).tr (RF.wr _ (by omega)) (Nat.le_refl _) (Nat.le_refl _) (Nat.le_refl _) (Nat.le_refl _)).tr (RF.wr _ (by omega)) (Nat.le_refl _) (Nat.le_refl _) (Nat.le_refl _) (Nat.le_refl _)) ⟨?_, ?_, ?_, ?_, ?_, ?_, fun y hy => ?_, ?_⟩ ?_ (fun c' q1 q2 => ?_)
  · rw [am_wr_ne _ (by omega), am_wr_ne _ (by omega), am_wr_ne _ (by omega), am_wr_ne _ (by omega), am_wr_ne _ (by omega), am_wr_ne _ (by omega), am_wr_ne _ (by omega), am_wr_ne _ (by omega), am_wr_ne _ (by omega), am_same]
  · rw [am_wr_ne _ (by omega), am_wr_ne _ (by omega), am_wr_ne _ (by omega), am_wr_ne _ (by omega), am_wr_ne _ (by omega), am_wr_ne _ (by omega), am_wr_ne _ (by omega), am_wr_ne _ (by omega), am_same]
  · rw [am_wr_ne _ (by omega), am_wr_ne _ (by omega), am_wr_ne _ (by omega), am_wr_ne _ (by omega), am_wr_ne _ (by omega), am_wr_ne _ (by omega), am_wr_ne _ (by omega), am_same]
  · rw [am_wr_ne _ (by omega), am_wr_ne _ (by omega), am_wr_ne _ (by omega), am_wr_ne _ (by omega), am_wr_ne _ (by omega), am_wr_ne _ (by omega), am_same]
  · rw [am_wr_ne _ (by omega), am_wr_ne _ (by omega), am_wr_ne _ (by omega), am_wr_ne _ (by omega), am_wr_ne _ (by omega), am_same]
  · rw [am_wr_ne _ (by omega), am_wr_ne _ (by omega), am_wr_ne _ (by omega), am_same]
  · have h27 := (a14 y hy).1
    rcases (show y = 0 ∨ y = 1 ∨ y = 2 by omega) with rfl | rfl | rfl
    · rw [am_diff _ _ _ _ _ (by omega), am_diff _ _ _ _ _ (by omega), am_same]; exact h27
    · rw [am_diff _ _ _ _ _ (by omega), am_same]; exact h27
    · rw [am_same]; exact h27
  · rw [am_wr_ne _ (by omega), am_wr_ne _ (by omega), am_wr_ne _ (by omega), am_wr_ne _ (by omega), am_same]; rfl
  · rw [am_wr_ne _ (by decide), am_wr_ne _ (by decide), am_wr_ne _ (by decide), am_wr_ne _ (by decide), am_wr_ne _ (by decide), am_wr_ne _ (by decide), am_wr_ne _ (by decide), am_wr_ne _ (by decide), am_wr_ne _ (by decide), am_wr_ne _ (by decide), am_wr_ne _ (by decide)]
  · rw [am_wr_ne _ (by omega), am_wr_ne _ (by omega), am_wr_ne _ (by omega), am_wr_ne _ (by omega), am_wr_ne _ (by omega), am_wr_ne _ (by omega), am_wr_ne _ (by omega), am_wr_ne _ (by omega), am_wr_ne _ (by omega), am_wr_ne _ (by omega), am_wr_ne _ (by omega)]

set_option maxRecDepth 10000 in
theorem c_has {d : Nat} (hd : 3 ≤ d) {σ : am_M} {t n : Nat} {p : Pg} (hW : PW p n) (hR : TR σ t p n) {k : Nat} (hk : k < n) {Q : am_Q} (hq : Q (some (.int (nI 1))) σ) : am_C d 106 [.ref t, .int (nI k)] σ Q := by
  have hn := hW.1
  obtain ⟨w0, w1, w2, w3, w4, w5, w6⟩ := hW.2 k hk
  obtain ⟨ht, hsz, hT⟩ := hR
  rcases ht with rfl | rfl | rfl
  · refine am_enter' (M := M_X8_has) rfl rfl rfl (by omega) (ls := [some (.ref 45), some (.int (nI k))]) rfl (fun d' hd' => ?_)
    refine am_run 1 (pc' := 1) (ls' := [some (.ref 45), some (.int (nI k))]) (st' := [.int (nI k)]) (σ' := σ) rfl ?_
    refine am_if (ty := 22) (tn := 4) rfl (by decide) rfl rfl (fun (h_1 : nI k < 0) => ?_) (fun (h_1 : ¬ (nI k < 0)) => ?_)
    · have h_1 : k < 0 := (am_nlt0 (by omega)).mp h_1
      exact absurd h_1 (Nat.not_lt_zero _)
    have h_1 : ¬ (k < 0) := fun z => h_1 ((am_nlt0 (by omega)).mpr z)
    refine am_run 3 (pc' := 9) (ls' := [some (.ref 45), some (.int (nI k))]) (st' := [.int (σ.1 45 8), .int (nI k)]) (σ' := σ) rfl ?_
    refine am_top (v' := nI n) hsz ?_
    refine am_ic (ty := 12) (tn := 22) rfl (by decide) rfl rfl (fun (h_2 : nI k < nI n) => ?_) (fun (h_2 : ¬ (nI k < nI n)) => ?_)
    rotate_left
    · have h_2 : ¬ (k < n) := fun z => h_2 ((nI_ltI (by omega) (by omega)).mpr z)
      omega
    have h_2 : k < n := (nI_ltI (by omega) (by omega)).mp h_2
    refine am_run 2 (pc' := 15) (ls' := [some (.ref 45), some (.int (nI k))]) (st' := [.int (nI 60), .int (nI k)]) (σ' := σ) rfl ?_
    refine am_ic (ty := 18) (tn := 22) rfl (by decide) rfl rfl (fun (h_3 : nI k < nI 60) => ?_) (fun (h_3 : ¬ (nI k < nI 60)) => ?_)
    rotate_left
    · have h_3 : ¬ (k < 60) := fun z => h_3 ((nI_ltI (by omega) (by omega)).mpr z)
      omega
    have h_3 : k < 60 := (nI_ltI (by omega) (by omega)).mp h_3
    refine am_run 2 (pc' := 23) (ls' := [some (.ref 45), some (.int (nI k))]) (st' := [.int (nI 1)]) (σ' := σ) rfl ?_
    refine am_retz rfl rfl (by decide) ?_
    exact hq
  · refine am_enter' (M := M_X8_has) rfl rfl rfl (by omega) (ls := [some (.ref 54), some (.int (nI k))]) rfl (fun d' hd' => ?_)
    refine am_run 1 (pc' := 1) (ls' := [some (.ref 54), some (.int (nI k))]) (st' := [.int (nI k)]) (σ' := σ) rfl ?_
    refine am_if (ty := 22) (tn := 4) rfl (by decide) rfl rfl (fun (h_1 : nI k < 0) => ?_) (fun (h_1 : ¬ (nI k < 0)) => ?_)
    · have h_1 : k < 0 := (am_nlt0 (by omega)).mp h_1
      exact absurd h_1 (Nat.not_lt_zero _)
    have h_1 : ¬ (k < 0) := fun z => h_1 ((am_nlt0 (by omega)).mpr z)
    refine am_run 3 (pc' := 9) (ls' := [some (.ref 54), some (.int (nI k))]) (st' := [.int (σ.1 54 8), .int (nI k)]) (σ' := σ) rfl ?_
    refine am_top (v' := nI n) hsz ?_
    refine am_ic (ty := 12) (tn := 22) rfl (by decide) rfl rfl (fun (h_2 : nI k < nI n) => ?_) (fun (h_2 : ¬ (nI k < nI n)) => ?_)
    rotate_left
    · have h_2 : ¬ (k < n) := fun z => h_2 ((nI_ltI (by omega) (by omega)).mpr z)
      omega
    have h_2 : k < n := (nI_ltI (by omega) (by omega)).mp h_2
    refine am_run 2 (pc' := 15) (ls' := [some (.ref 54), some (.int (nI k))]) (st' := [.int (nI 60), .int (nI k)]) (σ' := σ) rfl ?_
    refine am_ic (ty := 18) (tn := 22) rfl (by decide) rfl rfl (fun (h_3 : nI k < nI 60) => ?_) (fun (h_3 : ¬ (nI k < nI 60)) => ?_)
    rotate_left
    · have h_3 : ¬ (k < 60) := fun z => h_3 ((nI_ltI (by omega) (by omega)).mpr z)
      omega
    have h_3 : k < 60 := (nI_ltI (by omega) (by omega)).mp h_3
    refine am_run 2 (pc' := 23) (ls' := [some (.ref 54), some (.int (nI k))]) (st' := [.int (nI 1)]) (σ' := σ) rfl ?_
    refine am_retz rfl rfl (by decide) ?_
    exact hq
  · refine am_enter' (M := M_X8_has) rfl rfl rfl (by omega) (ls := [some (.ref 63), some (.int (nI k))]) rfl (fun d' hd' => ?_)
    refine am_run 1 (pc' := 1) (ls' := [some (.ref 63), some (.int (nI k))]) (st' := [.int (nI k)]) (σ' := σ) rfl ?_
    refine am_if (ty := 22) (tn := 4) rfl (by decide) rfl rfl (fun (h_1 : nI k < 0) => ?_) (fun (h_1 : ¬ (nI k < 0)) => ?_)
    · have h_1 : k < 0 := (am_nlt0 (by omega)).mp h_1
      exact absurd h_1 (Nat.not_lt_zero _)
    have h_1 : ¬ (k < 0) := fun z => h_1 ((am_nlt0 (by omega)).mpr z)
    refine am_run 3 (pc' := 9) (ls' := [some (.ref 63), some (.int (nI k))]) (st' := [.int (σ.1 63 8), .int (nI k)]) (σ' := σ) rfl ?_
    refine am_top (v' := nI n) hsz ?_
    refine am_ic (ty := 12) (tn := 22) rfl (by decide) rfl rfl (fun (h_2 : nI k < nI n) => ?_) (fun (h_2 : ¬ (nI k < nI n)) => ?_)
    rotate_left
    · have h_2 : ¬ (k < n) := fun z => h_2 ((nI_ltI (by omega) (by omega)).mpr z)
      omega
    have h_2 : k < n := (nI_ltI (by omega) (by omega)).mp h_2
    refine am_run 2 (pc' := 15) (ls' := [some (.ref 63), some (.int (nI k))]) (st' := [.int (nI 60), .int (nI k)]) (σ' := σ) rfl ?_
    refine am_ic (ty := 18) (tn := 22) rfl (by decide) rfl rfl (fun (h_3 : nI k < nI 60) => ?_) (fun (h_3 : ¬ (nI k < nI 60)) => ?_)
    rotate_left
    · have h_3 : ¬ (k < 60) := fun z => h_3 ((nI_ltI (by omega) (by omega)).mpr z)
      omega
    have h_3 : k < 60 := (nI_ltI (by omega) (by omega)).mp h_3
    refine am_run 2 (pc' := 23) (ls' := [some (.ref 63), some (.int (nI k))]) (st' := [.int (nI 1)]) (σ' := σ) rfl ?_
    refine am_retz rfl rfl (by decide) ?_
    exact hq
set_option maxRecDepth 10000 in
theorem c_has0 {d : Nat} (hd : 3 ≤ d) {σ : am_M} {t n : Nat} {p : Pg} (hR : TR σ t p n) {Q : am_Q} (hq : Q (some (.int (nI 0))) σ) : am_C d 106 [.ref t, .int (-1)] σ Q := by
  obtain ⟨ht, hsz, hT⟩ := hR
  rcases ht with rfl | rfl | rfl
  · refine am_enter' (M := M_X8_has) rfl rfl rfl (by omega) (ls := [some (.ref 45), some (.int (-1))]) rfl (fun d' hd' => ?_)
    refine am_run 1 (pc' := 1) (ls' := [some (.ref 45), some (.int (-1))]) (st' := [.int (-1)]) (σ' := σ) rfl ?_
    refine am_if (ty := 22) (tn := 4) rfl (by decide) rfl rfl (fun (h_1 : -1 < 0) => ?_) (fun (h_1 : ¬ (-1 < 0)) => ?_)
    rotate_left
    · exact absurd (by decide) h_1
    refine am_run 1 (pc' := 23) (ls' := [some (.ref 45), some (.int (-1))]) (st' := [.int (nI 0)]) (σ' := σ) rfl ?_
    refine am_retz rfl rfl (by decide) ?_
    exact hq
  · refine am_enter' (M := M_X8_has) rfl rfl rfl (by omega) (ls := [some (.ref 54), some (.int (-1))]) rfl (fun d' hd' => ?_)
    refine am_run 1 (pc' := 1) (ls' := [some (.ref 54), some (.int (-1))]) (st' := [.int (-1)]) (σ' := σ) rfl ?_
    refine am_if (ty := 22) (tn := 4) rfl (by decide) rfl rfl (fun (h_1 : -1 < 0) => ?_) (fun (h_1 : ¬ (-1 < 0)) => ?_)
    rotate_left
    · exact absurd (by decide) h_1
    refine am_run 1 (pc' := 23) (ls' := [some (.ref 54), some (.int (-1))]) (st' := [.int (nI 0)]) (σ' := σ) rfl ?_
    refine am_retz rfl rfl (by decide) ?_
    exact hq
  · refine am_enter' (M := M_X8_has) rfl rfl rfl (by omega) (ls := [some (.ref 63), some (.int (-1))]) rfl (fun d' hd' => ?_)
    refine am_run 1 (pc' := 1) (ls' := [some (.ref 63), some (.int (-1))]) (st' := [.int (-1)]) (σ' := σ) rfl ?_
    refine am_if (ty := 22) (tn := 4) rfl (by decide) rfl rfl (fun (h_1 : -1 < 0) => ?_) (fun (h_1 : ¬ (-1 < 0)) => ?_)
    rotate_left
    · exact absurd (by decide) h_1
    refine am_run 1 (pc' := 23) (ls' := [some (.ref 63), some (.int (-1))]) (st' := [.int (nI 0)]) (σ' := σ) rfl ?_
    refine am_retz rfl rfl (by decide) ?_
    exact hq
set_option maxRecDepth 10000 in
theorem c_tokenOf {d : Nat} (hd : 3 ≤ d) {σ : am_M} {t n : Nat} {p : Pg} (hW : PW p n) (hR : TR σ t p n) {k : Nat} (hk : k < n) {Q : am_Q} (hq : Q (some (.int (nI (p 0 k)))) σ) : am_C d 112 [.ref t, .int (nI k)] σ Q := by
  have hn := hW.1
  obtain ⟨w0, w1, w2, w3, w4, w5, w6⟩ := hW.2 k hk
  obtain ⟨ht, hsz, hT⟩ := hR
  rcases ht with rfl | rfl | rfl
  · refine am_enter' (M := M_X8_tokenOf) rfl rfl rfl (by omega) (ls := [some (.ref 45), some (.int (nI k))]) rfl (fun d' hd' => ?_)
    refine am_run 2 (pc' := 2) (ls' := [some (.ref 45), some (.int (nI k))]) (st' := [.int (nI k), .ref 45]) (σ' := σ) rfl ?_
    refine am_invv (y := 106) (b := 45) (as := [.int (nI k)]) (rest := []) rfl rfl rfl rfl rfl rfl rfl (by decide) ?_
    refine am_enter' rfl rfl rfl (by omega) (ls := [some (.ref 45), some (.int (nI k))]) rfl (fun d_1 hd_1 => ?_)
    refine am_run 1 (pc' := 1) (ls' := [some (.ref 45), some (.int (nI k))]) (st' := [.int (nI k)]) (σ' := σ) rfl ?_
    refine am_if (ty := 22) (tn := 4) rfl (by decide) rfl rfl (fun (h_2 : nI k < 0) => ?_) (fun (h_2 : ¬ (nI k < 0)) => ?_)
    · have h_2 : k < 0 := (am_nlt0 (by omega)).mp h_2
      exact absurd h_2 (Nat.not_lt_zero _)
    have h_2 : ¬ (k < 0) := fun z => h_2 ((am_nlt0 (by omega)).mpr z)
    refine am_run 3 (pc' := 9) (ls' := [some (.ref 45), some (.int (nI k))]) (st' := [.int (σ.1 45 8), .int (nI k)]) (σ' := σ) rfl ?_
    refine am_top (v' := nI n) hsz ?_
    refine am_ic (ty := 12) (tn := 22) rfl (by decide) rfl rfl (fun (h_3 : nI k < nI n) => ?_) (fun (h_3 : ¬ (nI k < nI n)) => ?_)
    rotate_left
    · have h_3 : ¬ (k < n) := fun z => h_3 ((nI_ltI (by omega) (by omega)).mpr z)
      omega
    have h_3 : k < n := (nI_ltI (by omega) (by omega)).mp h_3
    refine am_run 2 (pc' := 15) (ls' := [some (.ref 45), some (.int (nI k))]) (st' := [.int (nI 60), .int (nI k)]) (σ' := σ) rfl ?_
    refine am_ic (ty := 18) (tn := 22) rfl (by decide) rfl rfl (fun (h_4 : nI k < nI 60) => ?_) (fun (h_4 : ¬ (nI k < nI 60)) => ?_)
    rotate_left
    · have h_4 : ¬ (k < 60) := fun z => h_4 ((nI_ltI (by omega) (by omega)).mpr z)
      omega
    have h_4 : k < 60 := (nI_ltI (by omega) (by omega)).mp h_4
    refine am_run 2 (pc' := 23) (ls' := [some (.ref 45), some (.int (nI k))]) (st' := [.int (nI 1)]) (σ' := σ) rfl ?_
    refine am_retz rfl rfl (by decide) ?_
    show am_G _ M_X8_tokenOf _ 5 [some (.ref 45), some (.int (nI k))] [.int (nI 1)] σ
    refine am_if (ty := 17) (tn := 8) rfl (by decide) rfl rfl (fun (h_5 : nI 1 = 0) => ?_) (fun (h_5 : ¬ (nI 1 = 0)) => ?_)
    · exact absurd h_5 (by decide)
    refine am_run 3 (pc' := 13) (ls' := [some (.ref 45), some (.int (nI k))]) (st' := [.int (nI k), .ref 46]) (σ' := σ) rfl ?_
    refine am_ialdN (n := 60) (v := nI (p 0 k)) rfl rfl rfl (by omega) (hT k hk).1 (by decide) ?_
    refine am_run 1 (pc' := 19) (ls' := [some (.ref 45), some (.int (nI k))]) (st' := [.int (nI (p 0 k))]) (σ' := σ) rfl ?_
    refine am_reti rfl rfl ?_
    exact hq
  · refine am_enter' (M := M_X8_tokenOf) rfl rfl rfl (by omega) (ls := [some (.ref 54), some (.int (nI k))]) rfl (fun d' hd' => ?_)
    refine am_run 2 (pc' := 2) (ls' := [some (.ref 54), some (.int (nI k))]) (st' := [.int (nI k), .ref 54]) (σ' := σ) rfl ?_
    refine am_invv (y := 106) (b := 54) (as := [.int (nI k)]) (rest := []) rfl rfl rfl rfl rfl rfl rfl (by decide) ?_
    refine am_enter' rfl rfl rfl (by omega) (ls := [some (.ref 54), some (.int (nI k))]) rfl (fun d_1 hd_1 => ?_)
    refine am_run 1 (pc' := 1) (ls' := [some (.ref 54), some (.int (nI k))]) (st' := [.int (nI k)]) (σ' := σ) rfl ?_
    refine am_if (ty := 22) (tn := 4) rfl (by decide) rfl rfl (fun (h_2 : nI k < 0) => ?_) (fun (h_2 : ¬ (nI k < 0)) => ?_)
    · have h_2 : k < 0 := (am_nlt0 (by omega)).mp h_2
      exact absurd h_2 (Nat.not_lt_zero _)
    have h_2 : ¬ (k < 0) := fun z => h_2 ((am_nlt0 (by omega)).mpr z)
    refine am_run 3 (pc' := 9) (ls' := [some (.ref 54), some (.int (nI k))]) (st' := [.int (σ.1 54 8), .int (nI k)]) (σ' := σ) rfl ?_
    refine am_top (v' := nI n) hsz ?_
    refine am_ic (ty := 12) (tn := 22) rfl (by decide) rfl rfl (fun (h_3 : nI k < nI n) => ?_) (fun (h_3 : ¬ (nI k < nI n)) => ?_)
    rotate_left
    · have h_3 : ¬ (k < n) := fun z => h_3 ((nI_ltI (by omega) (by omega)).mpr z)
      omega
    have h_3 : k < n := (nI_ltI (by omega) (by omega)).mp h_3
    refine am_run 2 (pc' := 15) (ls' := [some (.ref 54), some (.int (nI k))]) (st' := [.int (nI 60), .int (nI k)]) (σ' := σ) rfl ?_
    refine am_ic (ty := 18) (tn := 22) rfl (by decide) rfl rfl (fun (h_4 : nI k < nI 60) => ?_) (fun (h_4 : ¬ (nI k < nI 60)) => ?_)
    rotate_left
    · have h_4 : ¬ (k < 60) := fun z => h_4 ((nI_ltI (by omega) (by omega)).mpr z)
      omega
    have h_4 : k < 60 := (nI_ltI (by omega) (by omega)).mp h_4
    refine am_run 2 (pc' := 23) (ls' := [some (.ref 54), some (.int (nI k))]) (st' := [.int (nI 1)]) (σ' := σ) rfl ?_
    refine am_retz rfl rfl (by decide) ?_
    show am_G _ M_X8_tokenOf _ 5 [some (.ref 54), some (.int (nI k))] [.int (nI 1)] σ
    refine am_if (ty := 17) (tn := 8) rfl (by decide) rfl rfl (fun (h_5 : nI 1 = 0) => ?_) (fun (h_5 : ¬ (nI 1 = 0)) => ?_)
    · exact absurd h_5 (by decide)
    refine am_run 3 (pc' := 13) (ls' := [some (.ref 54), some (.int (nI k))]) (st' := [.int (nI k), .ref 55]) (σ' := σ) rfl ?_
    refine am_ialdN (n := 60) (v := nI (p 0 k)) rfl rfl rfl (by omega) (hT k hk).1 (by decide) ?_
    refine am_run 1 (pc' := 19) (ls' := [some (.ref 54), some (.int (nI k))]) (st' := [.int (nI (p 0 k))]) (σ' := σ) rfl ?_
    refine am_reti rfl rfl ?_
    exact hq
  · refine am_enter' (M := M_X8_tokenOf) rfl rfl rfl (by omega) (ls := [some (.ref 63), some (.int (nI k))]) rfl (fun d' hd' => ?_)
    refine am_run 2 (pc' := 2) (ls' := [some (.ref 63), some (.int (nI k))]) (st' := [.int (nI k), .ref 63]) (σ' := σ) rfl ?_
    refine am_invv (y := 106) (b := 63) (as := [.int (nI k)]) (rest := []) rfl rfl rfl rfl rfl rfl rfl (by decide) ?_
    refine am_enter' rfl rfl rfl (by omega) (ls := [some (.ref 63), some (.int (nI k))]) rfl (fun d_1 hd_1 => ?_)
    refine am_run 1 (pc' := 1) (ls' := [some (.ref 63), some (.int (nI k))]) (st' := [.int (nI k)]) (σ' := σ) rfl ?_
    refine am_if (ty := 22) (tn := 4) rfl (by decide) rfl rfl (fun (h_2 : nI k < 0) => ?_) (fun (h_2 : ¬ (nI k < 0)) => ?_)
    · have h_2 : k < 0 := (am_nlt0 (by omega)).mp h_2
      exact absurd h_2 (Nat.not_lt_zero _)
    have h_2 : ¬ (k < 0) := fun z => h_2 ((am_nlt0 (by omega)).mpr z)
    refine am_run 3 (pc' := 9) (ls' := [some (.ref 63), some (.int (nI k))]) (st' := [.int (σ.1 63 8), .int (nI k)]) (σ' := σ) rfl ?_
    refine am_top (v' := nI n) hsz ?_
    refine am_ic (ty := 12) (tn := 22) rfl (by decide) rfl rfl (fun (h_3 : nI k < nI n) => ?_) (fun (h_3 : ¬ (nI k < nI n)) => ?_)
    rotate_left
    · have h_3 : ¬ (k < n) := fun z => h_3 ((nI_ltI (by omega) (by omega)).mpr z)
      omega
    have h_3 : k < n := (nI_ltI (by omega) (by omega)).mp h_3
    refine am_run 2 (pc' := 15) (ls' := [some (.ref 63), some (.int (nI k))]) (st' := [.int (nI 60), .int (nI k)]) (σ' := σ) rfl ?_
    refine am_ic (ty := 18) (tn := 22) rfl (by decide) rfl rfl (fun (h_4 : nI k < nI 60) => ?_) (fun (h_4 : ¬ (nI k < nI 60)) => ?_)
    rotate_left
    · have h_4 : ¬ (k < 60) := fun z => h_4 ((nI_ltI (by omega) (by omega)).mpr z)
      omega
    have h_4 : k < 60 := (nI_ltI (by omega) (by omega)).mp h_4
    refine am_run 2 (pc' := 23) (ls' := [some (.ref 63), some (.int (nI k))]) (st' := [.int (nI 1)]) (σ' := σ) rfl ?_
    refine am_retz rfl rfl (by decide) ?_
    show am_G _ M_X8_tokenOf _ 5 [some (.ref 63), some (.int (nI k))] [.int (nI 1)] σ
    refine am_if (ty := 17) (tn := 8) rfl (by decide) rfl rfl (fun (h_5 : nI 1 = 0) => ?_) (fun (h_5 : ¬ (nI 1 = 0)) => ?_)
    · exact absurd h_5 (by decide)
    refine am_run 3 (pc' := 13) (ls' := [some (.ref 63), some (.int (nI k))]) (st' := [.int (nI k), .ref 64]) (σ' := σ) rfl ?_
    refine am_ialdN (n := 60) (v := nI (p 0 k)) rfl rfl rfl (by omega) (hT k hk).1 (by decide) ?_
    refine am_run 1 (pc' := 19) (ls' := [some (.ref 63), some (.int (nI k))]) (st' := [.int (nI (p 0 k))]) (σ' := σ) rfl ?_
    refine am_reti rfl rfl ?_
    exact hq
set_option maxRecDepth 10000 in
theorem c_detailOf {d : Nat} (hd : 3 ≤ d) {σ : am_M} {t n : Nat} {p : Pg} (hW : PW p n) (hR : TR σ t p n) {k : Nat} (hk : k < n) {Q : am_Q} (hq : Q (some (.int (oI (p 1 k)))) σ) : am_C d 113 [.ref t, .int (nI k)] σ Q := by
  have hn := hW.1
  obtain ⟨w0, w1, w2, w3, w4, w5, w6⟩ := hW.2 k hk
  obtain ⟨ht, hsz, hT⟩ := hR
  rcases ht with rfl | rfl | rfl
  · refine am_enter' (M := M_X8_detailOf) rfl rfl rfl (by omega) (ls := [some (.ref 45), some (.int (nI k))]) rfl (fun d' hd' => ?_)
    refine am_run 2 (pc' := 2) (ls' := [some (.ref 45), some (.int (nI k))]) (st' := [.int (nI k), .ref 45]) (σ' := σ) rfl ?_
    refine am_invv (y := 106) (b := 45) (as := [.int (nI k)]) (rest := []) rfl rfl rfl rfl rfl rfl rfl (by decide) ?_
    refine am_enter' rfl rfl rfl (by omega) (ls := [some (.ref 45), some (.int (nI k))]) rfl (fun d_1 hd_1 => ?_)
    refine am_run 1 (pc' := 1) (ls' := [some (.ref 45), some (.int (nI k))]) (st' := [.int (nI k)]) (σ' := σ) rfl ?_
    refine am_if (ty := 22) (tn := 4) rfl (by decide) rfl rfl (fun (h_2 : nI k < 0) => ?_) (fun (h_2 : ¬ (nI k < 0)) => ?_)
    · have h_2 : k < 0 := (am_nlt0 (by omega)).mp h_2
      exact absurd h_2 (Nat.not_lt_zero _)
    have h_2 : ¬ (k < 0) := fun z => h_2 ((am_nlt0 (by omega)).mpr z)
    refine am_run 3 (pc' := 9) (ls' := [some (.ref 45), some (.int (nI k))]) (st' := [.int (σ.1 45 8), .int (nI k)]) (σ' := σ) rfl ?_
    refine am_top (v' := nI n) hsz ?_
    refine am_ic (ty := 12) (tn := 22) rfl (by decide) rfl rfl (fun (h_3 : nI k < nI n) => ?_) (fun (h_3 : ¬ (nI k < nI n)) => ?_)
    rotate_left
    · have h_3 : ¬ (k < n) := fun z => h_3 ((nI_ltI (by omega) (by omega)).mpr z)
      omega
    have h_3 : k < n := (nI_ltI (by omega) (by omega)).mp h_3
    refine am_run 2 (pc' := 15) (ls' := [some (.ref 45), some (.int (nI k))]) (st' := [.int (nI 60), .int (nI k)]) (σ' := σ) rfl ?_
    refine am_ic (ty := 18) (tn := 22) rfl (by decide) rfl rfl (fun (h_4 : nI k < nI 60) => ?_) (fun (h_4 : ¬ (nI k < nI 60)) => ?_)
    rotate_left
    · have h_4 : ¬ (k < 60) := fun z => h_4 ((nI_ltI (by omega) (by omega)).mpr z)
      omega
    have h_4 : k < 60 := (nI_ltI (by omega) (by omega)).mp h_4
    refine am_run 2 (pc' := 23) (ls' := [some (.ref 45), some (.int (nI k))]) (st' := [.int (nI 1)]) (σ' := σ) rfl ?_
    refine am_retz rfl rfl (by decide) ?_
    show am_G _ M_X8_detailOf _ 5 [some (.ref 45), some (.int (nI k))] [.int (nI 1)] σ
    refine am_if (ty := 17) (tn := 8) rfl (by decide) rfl rfl (fun (h_5 : nI 1 = 0) => ?_) (fun (h_5 : ¬ (nI 1 = 0)) => ?_)
    · exact absurd h_5 (by decide)
    refine am_run 3 (pc' := 13) (ls' := [some (.ref 45), some (.int (nI k))]) (st' := [.int (nI k), .ref 47]) (σ' := σ) rfl ?_
    refine am_ialdN (n := 60) (v := oI (p 1 k)) rfl rfl rfl (by omega) (hT k hk).2.1 (by decide) ?_
    refine am_run 1 (pc' := 18) (ls' := [some (.ref 45), some (.int (nI k))]) (st' := [.int (oI (p 1 k))]) (σ' := σ) rfl ?_
    refine am_reti rfl rfl ?_
    exact hq
  · refine am_enter' (M := M_X8_detailOf) rfl rfl rfl (by omega) (ls := [some (.ref 54), some (.int (nI k))]) rfl (fun d' hd' => ?_)
    refine am_run 2 (pc' := 2) (ls' := [some (.ref 54), some (.int (nI k))]) (st' := [.int (nI k), .ref 54]) (σ' := σ) rfl ?_
    refine am_invv (y := 106) (b := 54) (as := [.int (nI k)]) (rest := []) rfl rfl rfl rfl rfl rfl rfl (by decide) ?_
    refine am_enter' rfl rfl rfl (by omega) (ls := [some (.ref 54), some (.int (nI k))]) rfl (fun d_1 hd_1 => ?_)
    refine am_run 1 (pc' := 1) (ls' := [some (.ref 54), some (.int (nI k))]) (st' := [.int (nI k)]) (σ' := σ) rfl ?_
    refine am_if (ty := 22) (tn := 4) rfl (by decide) rfl rfl (fun (h_2 : nI k < 0) => ?_) (fun (h_2 : ¬ (nI k < 0)) => ?_)
    · have h_2 : k < 0 := (am_nlt0 (by omega)).mp h_2
      exact absurd h_2 (Nat.not_lt_zero _)
    have h_2 : ¬ (k < 0) := fun z => h_2 ((am_nlt0 (by omega)).mpr z)
    refine am_run 3 (pc' := 9) (ls' := [some (.ref 54), some (.int (nI k))]) (st' := [.int (σ.1 54 8), .int (nI k)]) (σ' := σ) rfl ?_
    refine am_top (v' := nI n) hsz ?_
    refine am_ic (ty := 12) (tn := 22) rfl (by decide) rfl rfl (fun (h_3 : nI k < nI n) => ?_) (fun (h_3 : ¬ (nI k < nI n)) => ?_)
    rotate_left
    · have h_3 : ¬ (k < n) := fun z => h_3 ((nI_ltI (by omega) (by omega)).mpr z)
      omega
    have h_3 : k < n := (nI_ltI (by omega) (by omega)).mp h_3
    refine am_run 2 (pc' := 15) (ls' := [some (.ref 54), some (.int (nI k))]) (st' := [.int (nI 60), .int (nI k)]) (σ' := σ) rfl ?_
    refine am_ic (ty := 18) (tn := 22) rfl (by decide) rfl rfl (fun (h_4 : nI k < nI 60) => ?_) (fun (h_4 : ¬ (nI k < nI 60)) => ?_)
    rotate_left
    · have h_4 : ¬ (k < 60) := fun z => h_4 ((nI_ltI (by omega) (by omega)).mpr z)
      omega
    have h_4 : k < 60 := (nI_ltI (by omega) (by omega)).mp h_4
    refine am_run 2 (pc' := 23) (ls' := [some (.ref 54), some (.int (nI k))]) (st' := [.int (nI 1)]) (σ' := σ) rfl ?_
    refine am_retz rfl rfl (by decide) ?_
    show am_G _ M_X8_detailOf _ 5 [some (.ref 54), some (.int (nI k))] [.int (nI 1)] σ
    refine am_if (ty := 17) (tn := 8) rfl (by decide) rfl rfl (fun (h_5 : nI 1 = 0) => ?_) (fun (h_5 : ¬ (nI 1 = 0)) => ?_)
    · exact absurd h_5 (by decide)
    refine am_run 3 (pc' := 13) (ls' := [some (.ref 54), some (.int (nI k))]) (st' := [.int (nI k), .ref 56]) (σ' := σ) rfl ?_
    refine am_ialdN (n := 60) (v := oI (p 1 k)) rfl rfl rfl (by omega) (hT k hk).2.1 (by decide) ?_
    refine am_run 1 (pc' := 18) (ls' := [some (.ref 54), some (.int (nI k))]) (st' := [.int (oI (p 1 k))]) (σ' := σ) rfl ?_
    refine am_reti rfl rfl ?_
    exact hq
  · refine am_enter' (M := M_X8_detailOf) rfl rfl rfl (by omega) (ls := [some (.ref 63), some (.int (nI k))]) rfl (fun d' hd' => ?_)
    refine am_run 2 (pc' := 2) (ls' := [some (.ref 63), some (.int (nI k))]) (st' := [.int (nI k), .ref 63]) (σ' := σ) rfl ?_
    refine am_invv (y := 106) (b := 63) (as := [.int (nI k)]) (rest := []) rfl rfl rfl rfl rfl rfl rfl (by decide) ?_
    refine am_enter' rfl rfl rfl (by omega) (ls := [some (.ref 63), some (.int (nI k))]) rfl (fun d_1 hd_1 => ?_)
    refine am_run 1 (pc' := 1) (ls' := [some (.ref 63), some (.int (nI k))]) (st' := [.int (nI k)]) (σ' := σ) rfl ?_
    refine am_if (ty := 22) (tn := 4) rfl (by decide) rfl rfl (fun (h_2 : nI k < 0) => ?_) (fun (h_2 : ¬ (nI k < 0)) => ?_)
    · have h_2 : k < 0 := (am_nlt0 (by omega)).mp h_2
      exact absurd h_2 (Nat.not_lt_zero _)
    have h_2 : ¬ (k < 0) := fun z => h_2 ((am_nlt0 (by omega)).mpr z)
    refine am_run 3 (pc' := 9) (ls' := [some (.ref 63), some (.int (nI k))]) (st' := [.int (σ.1 63 8), .int (nI k)]) (σ' := σ) rfl ?_
    refine am_top (v' := nI n) hsz ?_
    refine am_ic (ty := 12) (tn := 22) rfl (by decide) rfl rfl (fun (h_3 : nI k < nI n) => ?_) (fun (h_3 : ¬ (nI k < nI n)) => ?_)
    rotate_left
    · have h_3 : ¬ (k < n) := fun z => h_3 ((nI_ltI (by omega) (by omega)).mpr z)
      omega
    have h_3 : k < n := (nI_ltI (by omega) (by omega)).mp h_3
    refine am_run 2 (pc' := 15) (ls' := [some (.ref 63), some (.int (nI k))]) (st' := [.int (nI 60), .int (nI k)]) (σ' := σ) rfl ?_
    refine am_ic (ty := 18) (tn := 22) rfl (by decide) rfl rfl (fun (h_4 : nI k < nI 60) => ?_) (fun (h_4 : ¬ (nI k < nI 60)) => ?_)
    rotate_left
    · have h_4 : ¬ (k < 60) := fun z => h_4 ((nI_ltI (by omega) (by omega)).mpr z)
      omega
    have h_4 : k < 60 := (nI_ltI (by omega) (by omega)).mp h_4
    refine am_run 2 (pc' := 23) (ls' := [some (.ref 63), some (.int (nI k))]) (st' := [.int (nI 1)]) (σ' := σ) rfl ?_
    refine am_retz rfl rfl (by decide) ?_
    show am_G _ M_X8_detailOf _ 5 [some (.ref 63), some (.int (nI k))] [.int (nI 1)] σ
    refine am_if (ty := 17) (tn := 8) rfl (by decide) rfl rfl (fun (h_5 : nI 1 = 0) => ?_) (fun (h_5 : ¬ (nI 1 = 0)) => ?_)
    · exact absurd h_5 (by decide)
    refine am_run 3 (pc' := 13) (ls' := [some (.ref 63), some (.int (nI k))]) (st' := [.int (nI k), .ref 65]) (σ' := σ) rfl ?_
    refine am_ialdN (n := 60) (v := oI (p 1 k)) rfl rfl rfl (by omega) (hT k hk).2.1 (by decide) ?_
    refine am_run 1 (pc' := 18) (ls' := [some (.ref 63), some (.int (nI k))]) (st' := [.int (oI (p 1 k))]) (σ' := σ) rfl ?_
    refine am_reti rfl rfl ?_
    exact hq
set_option maxRecDepth 10000 in
theorem c_leftOf {d : Nat} (hd : 3 ≤ d) {σ : am_M} {t n : Nat} {p : Pg} (hW : PW p n) (hR : TR σ t p n) {k : Nat} (hk : k < n) {Q : am_Q} (hq : Q (some (.int (oI (p 2 k)))) σ) : am_C d 115 [.ref t, .int (nI k)] σ Q := by
  have hn := hW.1
  obtain ⟨w0, w1, w2, w3, w4, w5, w6⟩ := hW.2 k hk
  obtain ⟨ht, hsz, hT⟩ := hR
  rcases ht with rfl | rfl | rfl
  · refine am_enter' (M := M_X8_leftOf) rfl rfl rfl (by omega) (ls := [some (.ref 45), some (.int (nI k))]) rfl (fun d' hd' => ?_)
    refine am_run 2 (pc' := 2) (ls' := [some (.ref 45), some (.int (nI k))]) (st' := [.int (nI k), .ref 45]) (σ' := σ) rfl ?_
    refine am_invv (y := 106) (b := 45) (as := [.int (nI k)]) (rest := []) rfl rfl rfl rfl rfl rfl rfl (by decide) ?_
    refine am_enter' rfl rfl rfl (by omega) (ls := [some (.ref 45), some (.int (nI k))]) rfl (fun d_1 hd_1 => ?_)
    refine am_run 1 (pc' := 1) (ls' := [some (.ref 45), some (.int (nI k))]) (st' := [.int (nI k)]) (σ' := σ) rfl ?_
    refine am_if (ty := 22) (tn := 4) rfl (by decide) rfl rfl (fun (h_2 : nI k < 0) => ?_) (fun (h_2 : ¬ (nI k < 0)) => ?_)
    · have h_2 : k < 0 := (am_nlt0 (by omega)).mp h_2
      exact absurd h_2 (Nat.not_lt_zero _)
    have h_2 : ¬ (k < 0) := fun z => h_2 ((am_nlt0 (by omega)).mpr z)
    refine am_run 3 (pc' := 9) (ls' := [some (.ref 45), some (.int (nI k))]) (st' := [.int (σ.1 45 8), .int (nI k)]) (σ' := σ) rfl ?_
    refine am_top (v' := nI n) hsz ?_
    refine am_ic (ty := 12) (tn := 22) rfl (by decide) rfl rfl (fun (h_3 : nI k < nI n) => ?_) (fun (h_3 : ¬ (nI k < nI n)) => ?_)
    rotate_left
    · have h_3 : ¬ (k < n) := fun z => h_3 ((nI_ltI (by omega) (by omega)).mpr z)
      omega
    have h_3 : k < n := (nI_ltI (by omega) (by omega)).mp h_3
    refine am_run 2 (pc' := 15) (ls' := [some (.ref 45), some (.int (nI k))]) (st' := [.int (nI 60), .int (nI k)]) (σ' := σ) rfl ?_
    refine am_ic (ty := 18) (tn := 22) rfl (by decide) rfl rfl (fun (h_4 : nI k < nI 60) => ?_) (fun (h_4 : ¬ (nI k < nI 60)) => ?_)
    rotate_left
    · have h_4 : ¬ (k < 60) := fun z => h_4 ((nI_ltI (by omega) (by omega)).mpr z)
      omega
    have h_4 : k < 60 := (nI_ltI (by omega) (by omega)).mp h_4
    refine am_run 2 (pc' := 23) (ls' := [some (.ref 45), some (.int (nI k))]) (st' := [.int (nI 1)]) (σ' := σ) rfl ?_
    refine am_retz rfl rfl (by decide) ?_
    show am_G _ M_X8_leftOf _ 5 [some (.ref 45), some (.int (nI k))] [.int (nI 1)] σ
    refine am_if (ty := 17) (tn := 8) rfl (by decide) rfl rfl (fun (h_5 : nI 1 = 0) => ?_) (fun (h_5 : ¬ (nI 1 = 0)) => ?_)
    · exact absurd h_5 (by decide)
    refine am_run 3 (pc' := 13) (ls' := [some (.ref 45), some (.int (nI k))]) (st' := [.int (nI k), .ref 49]) (σ' := σ) rfl ?_
    refine am_ialdN (n := 60) (v := oI (p 2 k)) rfl rfl rfl (by omega) (hT k hk).2.2.1 (by decide) ?_
    refine am_run 1 (pc' := 18) (ls' := [some (.ref 45), some (.int (nI k))]) (st' := [.int (oI (p 2 k))]) (σ' := σ) rfl ?_
    refine am_reti rfl rfl ?_
    exact hq
  · refine am_enter' (M := M_X8_leftOf) rfl rfl rfl (by omega) (ls := [some (.ref 54), some (.int (nI k))]) rfl (fun d' hd' => ?_)
    refine am_run 2 (pc' := 2) (ls' := [some (.ref 54), some (.int (nI k))]) (st' := [.int (nI k), .ref 54]) (σ' := σ) rfl ?_
    refine am_invv (y := 106) (b := 54) (as := [.int (nI k)]) (rest := []) rfl rfl rfl rfl rfl rfl rfl (by decide) ?_
    refine am_enter' rfl rfl rfl (by omega) (ls := [some (.ref 54), some (.int (nI k))]) rfl (fun d_1 hd_1 => ?_)
    refine am_run 1 (pc' := 1) (ls' := [some (.ref 54), some (.int (nI k))]) (st' := [.int (nI k)]) (σ' := σ) rfl ?_
    refine am_if (ty := 22) (tn := 4) rfl (by decide) rfl rfl (fun (h_2 : nI k < 0) => ?_) (fun (h_2 : ¬ (nI k < 0)) => ?_)
    · have h_2 : k < 0 := (am_nlt0 (by omega)).mp h_2
      exact absurd h_2 (Nat.not_lt_zero _)
    have h_2 : ¬ (k < 0) := fun z => h_2 ((am_nlt0 (by omega)).mpr z)
    refine am_run 3 (pc' := 9) (ls' := [some (.ref 54), some (.int (nI k))]) (st' := [.int (σ.1 54 8), .int (nI k)]) (σ' := σ) rfl ?_
    refine am_top (v' := nI n) hsz ?_
    refine am_ic (ty := 12) (tn := 22) rfl (by decide) rfl rfl (fun (h_3 : nI k < nI n) => ?_) (fun (h_3 : ¬ (nI k < nI n)) => ?_)
    rotate_left
    · have h_3 : ¬ (k < n) := fun z => h_3 ((nI_ltI (by omega) (by omega)).mpr z)
      omega
    have h_3 : k < n := (nI_ltI (by omega) (by omega)).mp h_3
    refine am_run 2 (pc' := 15) (ls' := [some (.ref 54), some (.int (nI k))]) (st' := [.int (nI 60), .int (nI k)]) (σ' := σ) rfl ?_
    refine am_ic (ty := 18) (tn := 22) rfl (by decide) rfl rfl (fun (h_4 : nI k < nI 60) => ?_) (fun (h_4 : ¬ (nI k < nI 60)) => ?_)
    rotate_left
    · have h_4 : ¬ (k < 60) := fun z => h_4 ((nI_ltI (by omega) (by omega)).mpr z)
      omega
    have h_4 : k < 60 := (nI_ltI (by omega) (by omega)).mp h_4
    refine am_run 2 (pc' := 23) (ls' := [some (.ref 54), some (.int (nI k))]) (st' := [.int (nI 1)]) (σ' := σ) rfl ?_
    refine am_retz rfl rfl (by decide) ?_
    show am_G _ M_X8_leftOf _ 5 [some (.ref 54), some (.int (nI k))] [.int (nI 1)] σ
    refine am_if (ty := 17) (tn := 8) rfl (by decide) rfl rfl (fun (h_5 : nI 1 = 0) => ?_) (fun (h_5 : ¬ (nI 1 = 0)) => ?_)
    · exact absurd h_5 (by decide)
    refine am_run 3 (pc' := 13) (ls' := [some (.ref 54), some (.int (nI k))]) (st' := [.int (nI k), .ref 58]) (σ' := σ) rfl ?_
    refine am_ialdN (n := 60) (v := oI (p 2 k)) rfl rfl rfl (by omega) (hT k hk).2.2.1 (by decide) ?_
    refine am_run 1 (pc' := 18) (ls' := [some (.ref 54), some (.int (nI k))]) (st' := [.int (oI (p 2 k))]) (σ' := σ) rfl ?_
    refine am_reti rfl rfl ?_
    exact hq
  · refine am_enter' (M := M_X8_leftOf) rfl rfl rfl (by omega) (ls := [some (.ref 63), some (.int (nI k))]) rfl (fun d' hd' => ?_)
    refine am_run 2 (pc' := 2) (ls' := [some (.ref 63), some (.int (nI k))]) (st' := [.int (nI k), .ref 63]) (σ' := σ) rfl ?_
    refine am_invv (y := 106) (b := 63) (as := [.int (nI k)]) (rest := []) rfl rfl rfl rfl rfl rfl rfl (by decide) ?_
    refine am_enter' rfl rfl rfl (by omega) (ls := [some (.ref 63), some (.int (nI k))]) rfl (fun d_1 hd_1 => ?_)
    refine am_run 1 (pc' := 1) (ls' := [some (.ref 63), some (.int (nI k))]) (st' := [.int (nI k)]) (σ' := σ) rfl ?_
    refine am_if (ty := 22) (tn := 4) rfl (by decide) rfl rfl (fun (h_2 : nI k < 0) => ?_) (fun (h_2 : ¬ (nI k < 0)) => ?_)
    · have h_2 : k < 0 := (am_nlt0 (by omega)).mp h_2
      exact absurd h_2 (Nat.not_lt_zero _)
    have h_2 : ¬ (k < 0) := fun z => h_2 ((am_nlt0 (by omega)).mpr z)
    refine am_run 3 (pc' := 9) (ls' := [some (.ref 63), some (.int (nI k))]) (st' := [.int (σ.1 63 8), .int (nI k)]) (σ' := σ) rfl ?_
    refine am_top (v' := nI n) hsz ?_
    refine am_ic (ty := 12) (tn := 22) rfl (by decide) rfl rfl (fun (h_3 : nI k < nI n) => ?_) (fun (h_3 : ¬ (nI k < nI n)) => ?_)
    rotate_left
    · have h_3 : ¬ (k < n) := fun z => h_3 ((nI_ltI (by omega) (by omega)).mpr z)
      omega
    have h_3 : k < n := (nI_ltI (by omega) (by omega)).mp h_3
    refine am_run 2 (pc' := 15) (ls' := [some (.ref 63), some (.int (nI k))]) (st' := [.int (nI 60), .int (nI k)]) (σ' := σ) rfl ?_
    refine am_ic (ty := 18) (tn := 22) rfl (by decide) rfl rfl (fun (h_4 : nI k < nI 60) => ?_) (fun (h_4 : ¬ (nI k < nI 60)) => ?_)
    rotate_left
    · have h_4 : ¬ (k < 60) := fun z => h_4 ((nI_ltI (by omega) (by omega)).mpr z)
      omega
    have h_4 : k < 60 := (nI_ltI (by omega) (by omega)).mp h_4
    refine am_run 2 (pc' := 23) (ls' := [some (.ref 63), some (.int (nI k))]) (st' := [.int (nI 1)]) (σ' := σ) rfl ?_
    refine am_retz rfl rfl (by decide) ?_
    show am_G _ M_X8_leftOf _ 5 [some (.ref 63), some (.int (nI k))] [.int (nI 1)] σ
    refine am_if (ty := 17) (tn := 8) rfl (by decide) rfl rfl (fun (h_5 : nI 1 = 0) => ?_) (fun (h_5 : ¬ (nI 1 = 0)) => ?_)
    · exact absurd h_5 (by decide)
    refine am_run 3 (pc' := 13) (ls' := [some (.ref 63), some (.int (nI k))]) (st' := [.int (nI k), .ref 67]) (σ' := σ) rfl ?_
    refine am_ialdN (n := 60) (v := oI (p 2 k)) rfl rfl rfl (by omega) (hT k hk).2.2.1 (by decide) ?_
    refine am_run 1 (pc' := 18) (ls' := [some (.ref 63), some (.int (nI k))]) (st' := [.int (oI (p 2 k))]) (σ' := σ) rfl ?_
    refine am_reti rfl rfl ?_
    exact hq
set_option maxRecDepth 10000 in
theorem c_rightOf {d : Nat} (hd : 3 ≤ d) {σ : am_M} {t n : Nat} {p : Pg} (hW : PW p n) (hR : TR σ t p n) {k : Nat} (hk : k < n) {Q : am_Q} (hq : Q (some (.int (oI (p 3 k)))) σ) : am_C d 116 [.ref t, .int (nI k)] σ Q := by
  have hn := hW.1
  obtain ⟨w0, w1, w2, w3, w4, w5, w6⟩ := hW.2 k hk
  obtain ⟨ht, hsz, hT⟩ := hR
  rcases ht with rfl | rfl | rfl
  · refine am_enter' (M := M_X8_rightOf) rfl rfl rfl (by omega) (ls := [some (.ref 45), some (.int (nI k))]) rfl (fun d' hd' => ?_)
    refine am_run 2 (pc' := 2) (ls' := [some (.ref 45), some (.int (nI k))]) (st' := [.int (nI k), .ref 45]) (σ' := σ) rfl ?_
    refine am_invv (y := 106) (b := 45) (as := [.int (nI k)]) (rest := []) rfl rfl rfl rfl rfl rfl rfl (by decide) ?_
    refine am_enter' rfl rfl rfl (by omega) (ls := [some (.ref 45), some (.int (nI k))]) rfl (fun d_1 hd_1 => ?_)
    refine am_run 1 (pc' := 1) (ls' := [some (.ref 45), some (.int (nI k))]) (st' := [.int (nI k)]) (σ' := σ) rfl ?_
    refine am_if (ty := 22) (tn := 4) rfl (by decide) rfl rfl (fun (h_2 : nI k < 0) => ?_) (fun (h_2 : ¬ (nI k < 0)) => ?_)
    · have h_2 : k < 0 := (am_nlt0 (by omega)).mp h_2
      exact absurd h_2 (Nat.not_lt_zero _)
    have h_2 : ¬ (k < 0) := fun z => h_2 ((am_nlt0 (by omega)).mpr z)
    refine am_run 3 (pc' := 9) (ls' := [some (.ref 45), some (.int (nI k))]) (st' := [.int (σ.1 45 8), .int (nI k)]) (σ' := σ) rfl ?_
    refine am_top (v' := nI n) hsz ?_
    refine am_ic (ty := 12) (tn := 22) rfl (by decide) rfl rfl (fun (h_3 : nI k < nI n) => ?_) (fun (h_3 : ¬ (nI k < nI n)) => ?_)
    rotate_left
    · have h_3 : ¬ (k < n) := fun z => h_3 ((nI_ltI (by omega) (by omega)).mpr z)
      omega
    have h_3 : k < n := (nI_ltI (by omega) (by omega)).mp h_3
    refine am_run 2 (pc' := 15) (ls' := [some (.ref 45), some (.int (nI k))]) (st' := [.int (nI 60), .int (nI k)]) (σ' := σ) rfl ?_
    refine am_ic (ty := 18) (tn := 22) rfl (by decide) rfl rfl (fun (h_4 : nI k < nI 60) => ?_) (fun (h_4 : ¬ (nI k < nI 60)) => ?_)
    rotate_left
    · have h_4 : ¬ (k < 60) := fun z => h_4 ((nI_ltI (by omega) (by omega)).mpr z)
      omega
    have h_4 : k < 60 := (nI_ltI (by omega) (by omega)).mp h_4
    refine am_run 2 (pc' := 23) (ls' := [some (.ref 45), some (.int (nI k))]) (st' := [.int (nI 1)]) (σ' := σ) rfl ?_
    refine am_retz rfl rfl (by decide) ?_
    show am_G _ M_X8_rightOf _ 5 [some (.ref 45), some (.int (nI k))] [.int (nI 1)] σ
    refine am_if (ty := 17) (tn := 8) rfl (by decide) rfl rfl (fun (h_5 : nI 1 = 0) => ?_) (fun (h_5 : ¬ (nI 1 = 0)) => ?_)
    · exact absurd h_5 (by decide)
    refine am_run 3 (pc' := 13) (ls' := [some (.ref 45), some (.int (nI k))]) (st' := [.int (nI k), .ref 50]) (σ' := σ) rfl ?_
    refine am_ialdN (n := 60) (v := oI (p 3 k)) rfl rfl rfl (by omega) (hT k hk).2.2.2.1 (by decide) ?_
    refine am_run 1 (pc' := 18) (ls' := [some (.ref 45), some (.int (nI k))]) (st' := [.int (oI (p 3 k))]) (σ' := σ) rfl ?_
    refine am_reti rfl rfl ?_
    exact hq
  · refine am_enter' (M := M_X8_rightOf) rfl rfl rfl (by omega) (ls := [some (.ref 54), some (.int (nI k))]) rfl (fun d' hd' => ?_)
    refine am_run 2 (pc' := 2) (ls' := [some (.ref 54), some (.int (nI k))]) (st' := [.int (nI k), .ref 54]) (σ' := σ) rfl ?_
    refine am_invv (y := 106) (b := 54) (as := [.int (nI k)]) (rest := []) rfl rfl rfl rfl rfl rfl rfl (by decide) ?_
    refine am_enter' rfl rfl rfl (by omega) (ls := [some (.ref 54), some (.int (nI k))]) rfl (fun d_1 hd_1 => ?_)
    refine am_run 1 (pc' := 1) (ls' := [some (.ref 54), some (.int (nI k))]) (st' := [.int (nI k)]) (σ' := σ) rfl ?_
    refine am_if (ty := 22) (tn := 4) rfl (by decide) rfl rfl (fun (h_2 : nI k < 0) => ?_) (fun (h_2 : ¬ (nI k < 0)) => ?_)
    · have h_2 : k < 0 := (am_nlt0 (by omega)).mp h_2
      exact absurd h_2 (Nat.not_lt_zero _)
    have h_2 : ¬ (k < 0) := fun z => h_2 ((am_nlt0 (by omega)).mpr z)
    refine am_run 3 (pc' := 9) (ls' := [some (.ref 54), some (.int (nI k))]) (st' := [.int (σ.1 54 8), .int (nI k)]) (σ' := σ) rfl ?_
    refine am_top (v' := nI n) hsz ?_
    refine am_ic (ty := 12) (tn := 22) rfl (by decide) rfl rfl (fun (h_3 : nI k < nI n) => ?_) (fun (h_3 : ¬ (nI k < nI n)) => ?_)
    rotate_left
    · have h_3 : ¬ (k < n) := fun z => h_3 ((nI_ltI (by omega) (by omega)).mpr z)
      omega
    have h_3 : k < n := (nI_ltI (by omega) (by omega)).mp h_3
    refine am_run 2 (pc' := 15) (ls' := [some (.ref 54), some (.int (nI k))]) (st' := [.int (nI 60), .int (nI k)]) (σ' := σ) rfl ?_
    refine am_ic (ty := 18) (tn := 22) rfl (by decide) rfl rfl (fun (h_4 : nI k < nI 60) => ?_) (fun (h_4 : ¬ (nI k < nI 60)) => ?_)
    rotate_left
    · have h_4 : ¬ (k < 60) := fun z => h_4 ((nI_ltI (by omega) (by omega)).mpr z)
      omega
    have h_4 : k < 60 := (nI_ltI (by omega) (by omega)).mp h_4
    refine am_run 2 (pc' := 23) (ls' := [some (.ref 54), some (.int (nI k))]) (st' := [.int (nI 1)]) (σ' := σ) rfl ?_
    refine am_retz rfl rfl (by decide) ?_
    show am_G _ M_X8_rightOf _ 5 [some (.ref 54), some (.int (nI k))] [.int (nI 1)] σ
    refine am_if (ty := 17) (tn := 8) rfl (by decide) rfl rfl (fun (h_5 : nI 1 = 0) => ?_) (fun (h_5 : ¬ (nI 1 = 0)) => ?_)
    · exact absurd h_5 (by decide)
    refine am_run 3 (pc' := 13) (ls' := [some (.ref 54), some (.int (nI k))]) (st' := [.int (nI k), .ref 59]) (σ' := σ) rfl ?_
    refine am_ialdN (n := 60) (v := oI (p 3 k)) rfl rfl rfl (by omega) (hT k hk).2.2.2.1 (by decide) ?_
    refine am_run 1 (pc' := 18) (ls' := [some (.ref 54), some (.int (nI k))]) (st' := [.int (oI (p 3 k))]) (σ' := σ) rfl ?_
    refine am_reti rfl rfl ?_
    exact hq
  · refine am_enter' (M := M_X8_rightOf) rfl rfl rfl (by omega) (ls := [some (.ref 63), some (.int (nI k))]) rfl (fun d' hd' => ?_)
    refine am_run 2 (pc' := 2) (ls' := [some (.ref 63), some (.int (nI k))]) (st' := [.int (nI k), .ref 63]) (σ' := σ) rfl ?_
    refine am_invv (y := 106) (b := 63) (as := [.int (nI k)]) (rest := []) rfl rfl rfl rfl rfl rfl rfl (by decide) ?_
    refine am_enter' rfl rfl rfl (by omega) (ls := [some (.ref 63), some (.int (nI k))]) rfl (fun d_1 hd_1 => ?_)
    refine am_run 1 (pc' := 1) (ls' := [some (.ref 63), some (.int (nI k))]) (st' := [.int (nI k)]) (σ' := σ) rfl ?_
    refine am_if (ty := 22) (tn := 4) rfl (by decide) rfl rfl (fun (h_2 : nI k < 0) => ?_) (fun (h_2 : ¬ (nI k < 0)) => ?_)
    · have h_2 : k < 0 := (am_nlt0 (by omega)).mp h_2
      exact absurd h_2 (Nat.not_lt_zero _)
    have h_2 : ¬ (k < 0) := fun z => h_2 ((am_nlt0 (by omega)).mpr z)
    refine am_run 3 (pc' := 9) (ls' := [some (.ref 63), some (.int (nI k))]) (st' := [.int (σ.1 63 8), .int (nI k)]) (σ' := σ) rfl ?_
    refine am_top (v' := nI n) hsz ?_
    refine am_ic (ty := 12) (tn := 22) rfl (by decide) rfl rfl (fun (h_3 : nI k < nI n) => ?_) (fun (h_3 : ¬ (nI k < nI n)) => ?_)
    rotate_left
    · have h_3 : ¬ (k < n) := fun z => h_3 ((nI_ltI (by omega) (by omega)).mpr z)
      omega
    have h_3 : k < n := (nI_ltI (by omega) (by omega)).mp h_3
    refine am_run 2 (pc' := 15) (ls' := [some (.ref 63), some (.int (nI k))]) (st' := [.int (nI 60), .int (nI k)]) (σ' := σ) rfl ?_
    refine am_ic (ty := 18) (tn := 22) rfl (by decide) rfl rfl (fun (h_4 : nI k < nI 60) => ?_) (fun (h_4 : ¬ (nI k < nI 60)) => ?_)
    rotate_left
    · have h_4 : ¬ (k < 60) := fun z => h_4 ((nI_ltI (by omega) (by omega)).mpr z)
      omega
    have h_4 : k < 60 := (nI_ltI (by omega) (by omega)).mp h_4
    refine am_run 2 (pc' := 23) (ls' := [some (.ref 63), some (.int (nI k))]) (st' := [.int (nI 1)]) (σ' := σ) rfl ?_
    refine am_retz rfl rfl (by decide) ?_
    show am_G _ M_X8_rightOf _ 5 [some (.ref 63), some (.int (nI k))] [.int (nI 1)] σ
    refine am_if (ty := 17) (tn := 8) rfl (by decide) rfl rfl (fun (h_5 : nI 1 = 0) => ?_) (fun (h_5 : ¬ (nI 1 = 0)) => ?_)
    · exact absurd h_5 (by decide)
    refine am_run 3 (pc' := 13) (ls' := [some (.ref 63), some (.int (nI k))]) (st' := [.int (nI k), .ref 68]) (σ' := σ) rfl ?_
    refine am_ialdN (n := 60) (v := oI (p 3 k)) rfl rfl rfl (by omega) (hT k hk).2.2.2.1 (by decide) ?_
    refine am_run 1 (pc' := 18) (ls' := [some (.ref 63), some (.int (nI k))]) (st' := [.int (oI (p 3 k))]) (σ' := σ) rfl ?_
    refine am_reti rfl rfl ?_
    exact hq
set_option maxRecDepth 10000 in
theorem c_pausesOf {d : Nat} (hd : 3 ≤ d) {σ : am_M} {t n : Nat} {p : Pg} (hW : PW p n) (hR : TR σ t p n) {k : Nat} (hk : k < n) {Q : am_Q} (hq : Q (some (.int (nI (p 4 k)))) σ) : am_C d 117 [.ref t, .int (nI k)] σ Q := by
  have hn := hW.1
  obtain ⟨w0, w1, w2, w3, w4, w5, w6⟩ := hW.2 k hk
  obtain ⟨ht, hsz, hT⟩ := hR
  rcases ht with rfl | rfl | rfl
  · refine am_enter' (M := M_X8_pausesOf) rfl rfl rfl (by omega) (ls := [some (.ref 45), some (.int (nI k))]) rfl (fun d' hd' => ?_)
    refine am_run 2 (pc' := 2) (ls' := [some (.ref 45), some (.int (nI k))]) (st' := [.int (nI k), .ref 45]) (σ' := σ) rfl ?_
    refine am_invv (y := 106) (b := 45) (as := [.int (nI k)]) (rest := []) rfl rfl rfl rfl rfl rfl rfl (by decide) ?_
    refine am_enter' rfl rfl rfl (by omega) (ls := [some (.ref 45), some (.int (nI k))]) rfl (fun d_1 hd_1 => ?_)
    refine am_run 1 (pc' := 1) (ls' := [some (.ref 45), some (.int (nI k))]) (st' := [.int (nI k)]) (σ' := σ) rfl ?_
    refine am_if (ty := 22) (tn := 4) rfl (by decide) rfl rfl (fun (h_2 : nI k < 0) => ?_) (fun (h_2 : ¬ (nI k < 0)) => ?_)
    · have h_2 : k < 0 := (am_nlt0 (by omega)).mp h_2
      exact absurd h_2 (Nat.not_lt_zero _)
    have h_2 : ¬ (k < 0) := fun z => h_2 ((am_nlt0 (by omega)).mpr z)
    refine am_run 3 (pc' := 9) (ls' := [some (.ref 45), some (.int (nI k))]) (st' := [.int (σ.1 45 8), .int (nI k)]) (σ' := σ) rfl ?_
    refine am_top (v' := nI n) hsz ?_
    refine am_ic (ty := 12) (tn := 22) rfl (by decide) rfl rfl (fun (h_3 : nI k < nI n) => ?_) (fun (h_3 : ¬ (nI k < nI n)) => ?_)
    rotate_left
    · have h_3 : ¬ (k < n) := fun z => h_3 ((nI_ltI (by omega) (by omega)).mpr z)
      omega
    have h_3 : k < n := (nI_ltI (by omega) (by omega)).mp h_3
    refine am_run 2 (pc' := 15) (ls' := [some (.ref 45), some (.int (nI k))]) (st' := [.int (nI 60), .int (nI k)]) (σ' := σ) rfl ?_
    refine am_ic (ty := 18) (tn := 22) rfl (by decide) rfl rfl (fun (h_4 : nI k < nI 60) => ?_) (fun (h_4 : ¬ (nI k < nI 60)) => ?_)
    rotate_left
    · have h_4 : ¬ (k < 60) := fun z => h_4 ((nI_ltI (by omega) (by omega)).mpr z)
      omega
    have h_4 : k < 60 := (nI_ltI (by omega) (by omega)).mp h_4
    refine am_run 2 (pc' := 23) (ls' := [some (.ref 45), some (.int (nI k))]) (st' := [.int (nI 1)]) (σ' := σ) rfl ?_
    refine am_retz rfl rfl (by decide) ?_
    show am_G _ M_X8_pausesOf _ 5 [some (.ref 45), some (.int (nI k))] [.int (nI 1)] σ
    refine am_if (ty := 17) (tn := 8) rfl (by decide) rfl rfl (fun (h_5 : nI 1 = 0) => ?_) (fun (h_5 : ¬ (nI 1 = 0)) => ?_)
    · exact absurd h_5 (by decide)
    refine am_run 3 (pc' := 13) (ls' := [some (.ref 45), some (.int (nI k))]) (st' := [.int (nI k), .ref 53]) (σ' := σ) rfl ?_
    refine am_ialdN (n := 60) (v := nI (p 4 k)) rfl rfl rfl (by omega) (hT k hk).2.2.2.2 (by decide) ?_
    refine am_run 1 (pc' := 18) (ls' := [some (.ref 45), some (.int (nI k))]) (st' := [.int (nI (p 4 k))]) (σ' := σ) rfl ?_
    refine am_reti rfl rfl ?_
    exact hq
  · refine am_enter' (M := M_X8_pausesOf) rfl rfl rfl (by omega) (ls := [some (.ref 54), some (.int (nI k))]) rfl (fun d' hd' => ?_)
    refine am_run 2 (pc' := 2) (ls' := [some (.ref 54), some (.int (nI k))]) (st' := [.int (nI k), .ref 54]) (σ' := σ) rfl ?_
    refine am_invv (y := 106) (b := 54) (as := [.int (nI k)]) (rest := []) rfl rfl rfl rfl rfl rfl rfl (by decide) ?_
    refine am_enter' rfl rfl rfl (by omega) (ls := [some (.ref 54), some (.int (nI k))]) rfl (fun d_1 hd_1 => ?_)
    refine am_run 1 (pc' := 1) (ls' := [some (.ref 54), some (.int (nI k))]) (st' := [.int (nI k)]) (σ' := σ) rfl ?_
    refine am_if (ty := 22) (tn := 4) rfl (by decide) rfl rfl (fun (h_2 : nI k < 0) => ?_) (fun (h_2 : ¬ (nI k < 0)) => ?_)
    · have h_2 : k < 0 := (am_nlt0 (by omega)).mp h_2
      exact absurd h_2 (Nat.not_lt_zero _)
    have h_2 : ¬ (k < 0) := fun z => h_2 ((am_nlt0 (by omega)).mpr z)
    refine am_run 3 (pc' := 9) (ls' := [some (.ref 54), some (.int (nI k))]) (st' := [.int (σ.1 54 8), .int (nI k)]) (σ' := σ) rfl ?_
    refine am_top (v' := nI n) hsz ?_
    refine am_ic (ty := 12) (tn := 22) rfl (by decide) rfl rfl (fun (h_3 : nI k < nI n) => ?_) (fun (h_3 : ¬ (nI k < nI n)) => ?_)
    rotate_left
    · have h_3 : ¬ (k < n) := fun z => h_3 ((nI_ltI (by omega) (by omega)).mpr z)
      omega
    have h_3 : k < n := (nI_ltI (by omega) (by omega)).mp h_3
    refine am_run 2 (pc' := 15) (ls' := [some (.ref 54), some (.int (nI k))]) (st' := [.int (nI 60), .int (nI k)]) (σ' := σ) rfl ?_
    refine am_ic (ty := 18) (tn := 22) rfl (by decide) rfl rfl (fun (h_4 : nI k < nI 60) => ?_) (fun (h_4 : ¬ (nI k < nI 60)) => ?_)
    rotate_left
    · have h_4 : ¬ (k < 60) := fun z => h_4 ((nI_ltI (by omega) (by omega)).mpr z)
      omega
    have h_4 : k < 60 := (nI_ltI (by omega) (by omega)).mp h_4
    refine am_run 2 (pc' := 23) (ls' := [some (.ref 54), some (.int (nI k))]) (st' := [.int (nI 1)]) (σ' := σ) rfl ?_
    refine am_retz rfl rfl (by decide) ?_
    show am_G _ M_X8_pausesOf _ 5 [some (.ref 54), some (.int (nI k))] [.int (nI 1)] σ
    refine am_if (ty := 17) (tn := 8) rfl (by decide) rfl rfl (fun (h_5 : nI 1 = 0) => ?_) (fun (h_5 : ¬ (nI 1 = 0)) => ?_)
    · exact absurd h_5 (by decide)
    refine am_run 3 (pc' := 13) (ls' := [some (.ref 54), some (.int (nI k))]) (st' := [.int (nI k), .ref 62]) (σ' := σ) rfl ?_
    refine am_ialdN (n := 60) (v := nI (p 4 k)) rfl rfl rfl (by omega) (hT k hk).2.2.2.2 (by decide) ?_
    refine am_run 1 (pc' := 18) (ls' := [some (.ref 54), some (.int (nI k))]) (st' := [.int (nI (p 4 k))]) (σ' := σ) rfl ?_
    refine am_reti rfl rfl ?_
    exact hq
  · refine am_enter' (M := M_X8_pausesOf) rfl rfl rfl (by omega) (ls := [some (.ref 63), some (.int (nI k))]) rfl (fun d' hd' => ?_)
    refine am_run 2 (pc' := 2) (ls' := [some (.ref 63), some (.int (nI k))]) (st' := [.int (nI k), .ref 63]) (σ' := σ) rfl ?_
    refine am_invv (y := 106) (b := 63) (as := [.int (nI k)]) (rest := []) rfl rfl rfl rfl rfl rfl rfl (by decide) ?_
    refine am_enter' rfl rfl rfl (by omega) (ls := [some (.ref 63), some (.int (nI k))]) rfl (fun d_1 hd_1 => ?_)
    refine am_run 1 (pc' := 1) (ls' := [some (.ref 63), some (.int (nI k))]) (st' := [.int (nI k)]) (σ' := σ) rfl ?_
    refine am_if (ty := 22) (tn := 4) rfl (by decide) rfl rfl (fun (h_2 : nI k < 0) => ?_) (fun (h_2 : ¬ (nI k < 0)) => ?_)
    · have h_2 : k < 0 := (am_nlt0 (by omega)).mp h_2
      exact absurd h_2 (Nat.not_lt_zero _)
    have h_2 : ¬ (k < 0) := fun z => h_2 ((am_nlt0 (by omega)).mpr z)
    refine am_run 3 (pc' := 9) (ls' := [some (.ref 63), some (.int (nI k))]) (st' := [.int (σ.1 63 8), .int (nI k)]) (σ' := σ) rfl ?_
    refine am_top (v' := nI n) hsz ?_
    refine am_ic (ty := 12) (tn := 22) rfl (by decide) rfl rfl (fun (h_3 : nI k < nI n) => ?_) (fun (h_3 : ¬ (nI k < nI n)) => ?_)
    rotate_left
    · have h_3 : ¬ (k < n) := fun z => h_3 ((nI_ltI (by omega) (by omega)).mpr z)
      omega
    have h_3 : k < n := (nI_ltI (by omega) (by omega)).mp h_3
    refine am_run 2 (pc' := 15) (ls' := [some (.ref 63), some (.int (nI k))]) (st' := [.int (nI 60), .int (nI k)]) (σ' := σ) rfl ?_
    refine am_ic (ty := 18) (tn := 22) rfl (by decide) rfl rfl (fun (h_4 : nI k < nI 60) => ?_) (fun (h_4 : ¬ (nI k < nI 60)) => ?_)
    rotate_left
    · have h_4 : ¬ (k < 60) := fun z => h_4 ((nI_ltI (by omega) (by omega)).mpr z)
      omega
    have h_4 : k < 60 := (nI_ltI (by omega) (by omega)).mp h_4
    refine am_run 2 (pc' := 23) (ls' := [some (.ref 63), some (.int (nI k))]) (st' := [.int (nI 1)]) (σ' := σ) rfl ?_
    refine am_retz rfl rfl (by decide) ?_
    show am_G _ M_X8_pausesOf _ 5 [some (.ref 63), some (.int (nI k))] [.int (nI 1)] σ
    refine am_if (ty := 17) (tn := 8) rfl (by decide) rfl rfl (fun (h_5 : nI 1 = 0) => ?_) (fun (h_5 : ¬ (nI 1 = 0)) => ?_)
    · exact absurd h_5 (by decide)
    refine am_run 3 (pc' := 13) (ls' := [some (.ref 63), some (.int (nI k))]) (st' := [.int (nI k), .ref 71]) (σ' := σ) rfl ?_
    refine am_ialdN (n := 60) (v := nI (p 4 k)) rfl rfl rfl (by omega) (hT k hk).2.2.2.2 (by decide) ?_
    refine am_run 1 (pc' := 18) (ls' := [some (.ref 63), some (.int (nI k))]) (st' := [.int (nI (p 4 k))]) (σ' := σ) rfl ?_
    refine am_reti rfl rfl ?_
    exact hq
set_option maxRecDepth 10000 in
theorem c_signalOf {d : Nat} (hd : 3 ≤ d) {σ : am_M} {t n : Nat} {p : Pg} (hW : PW p n) (hR : TR σ t p n) {k : Nat} (hk : k < n) {Q : am_Q} {g : Nat} (hg : p 1 k = g + 1) (hq : Q (some (.int (nI (2 ^ g)))) σ) : am_C d 118 [.ref t, .int (nI k)] σ Q := by
  have hn := hW.1
  obtain ⟨w0, w1, w2, w3, w4, w5, w6⟩ := hW.2 k hk
  obtain ⟨ht, hsz, hT⟩ := hR
  rcases ht with rfl | rfl | rfl
  · refine am_enter' (M := M_X8_signalOf) rfl rfl rfl (by omega) (ls := [some (.ref 45), some (.int (nI k)), none]) rfl (fun d' hd' => ?_)
    refine am_run 2 (pc' := 2) (ls' := [some (.ref 45), some (.int (nI k)), none]) (st' := [.int (nI k), .ref 45]) (σ' := σ) rfl ?_
    refine am_invv (y := 106) (b := 45) (as := [.int (nI k)]) (rest := []) rfl rfl rfl rfl rfl rfl rfl (by decide) ?_
    refine am_enter' rfl rfl rfl (by omega) (ls := [some (.ref 45), some (.int (nI k))]) rfl (fun d_1 hd_1 => ?_)
    refine am_run 1 (pc' := 1) (ls' := [some (.ref 45), some (.int (nI k))]) (st' := [.int (nI k)]) (σ' := σ) rfl ?_
    refine am_if (ty := 22) (tn := 4) rfl (by decide) rfl rfl (fun (h_2 : nI k < 0) => ?_) (fun (h_2 : ¬ (nI k < 0)) => ?_)
    · have h_2 : k < 0 := (am_nlt0 (by omega)).mp h_2
      exact absurd h_2 (Nat.not_lt_zero _)
    have h_2 : ¬ (k < 0) := fun z => h_2 ((am_nlt0 (by omega)).mpr z)
    refine am_run 3 (pc' := 9) (ls' := [some (.ref 45), some (.int (nI k))]) (st' := [.int (σ.1 45 8), .int (nI k)]) (σ' := σ) rfl ?_
    refine am_top (v' := nI n) hsz ?_
    refine am_ic (ty := 12) (tn := 22) rfl (by decide) rfl rfl (fun (h_3 : nI k < nI n) => ?_) (fun (h_3 : ¬ (nI k < nI n)) => ?_)
    rotate_left
    · have h_3 : ¬ (k < n) := fun z => h_3 ((nI_ltI (by omega) (by omega)).mpr z)
      omega
    have h_3 : k < n := (nI_ltI (by omega) (by omega)).mp h_3
    refine am_run 2 (pc' := 15) (ls' := [some (.ref 45), some (.int (nI k))]) (st' := [.int (nI 60), .int (nI k)]) (σ' := σ) rfl ?_
    refine am_ic (ty := 18) (tn := 22) rfl (by decide) rfl rfl (fun (h_4 : nI k < nI 60) => ?_) (fun (h_4 : ¬ (nI k < nI 60)) => ?_)
    rotate_left
    · have h_4 : ¬ (k < 60) := fun z => h_4 ((nI_ltI (by omega) (by omega)).mpr z)
      omega
    have h_4 : k < 60 := (nI_ltI (by omega) (by omega)).mp h_4
    refine am_run 2 (pc' := 23) (ls' := [some (.ref 45), some (.int (nI k))]) (st' := [.int (nI 1)]) (σ' := σ) rfl ?_
    refine am_retz rfl rfl (by decide) ?_
    show am_G _ M_X8_signalOf _ 5 [some (.ref 45), some (.int (nI k)), none] [.int (nI 1)] σ
    refine am_if (ty := 17) (tn := 8) rfl (by decide) rfl rfl (fun (h_5 : nI 1 = 0) => ?_) (fun (h_5 : ¬ (nI 1 = 0)) => ?_)
    · exact absurd h_5 (by decide)
    refine am_run 3 (pc' := 13) (ls' := [some (.ref 45), some (.int (nI k)), none]) (st' := [.int (nI k), .ref 47]) (σ' := σ) rfl ?_
    refine am_ialdN (n := 60) (v := nI g) rfl rfl rfl (by omega) (by rw [← oI_s g, ← hg]; exact (hT k hk).2.1) (by decide) ?_
    refine am_run 3 (pc' := 20) (ls' := [some (.ref 45), some (.int (nI k)), some (.int (nI g))]) (st' := [.int (nI g)]) (σ' := σ) rfl ?_
    refine am_if (ty := 35) (tn := 23) rfl (by decide) rfl rfl (fun (h_6 : nI g < 0) => ?_) (fun (h_6 : ¬ (nI g < 0)) => ?_)
    · have h_6 : g < 0 := (am_nlt0 (by omega)).mp h_6
      exact absurd h_6 (Nat.not_lt_zero _)
    have h_6 : ¬ (g < 0) := fun z => h_6 ((am_nlt0 (by omega)).mpr z)
    refine am_run 2 (pc' := 26) (ls' := [some (.ref 45), some (.int (nI k)), some (.int (nI g))]) (st' := [.int (nI 8), .int (nI g)]) (σ' := σ) rfl ?_
    refine am_ic (ty := 29) (tn := 35) rfl (by decide) rfl rfl (fun (h_7 : nI g < nI 8) => ?_) (fun (h_7 : ¬ (nI g < nI 8)) => ?_)
    rotate_left
    · have h_7 : ¬ (g < 8) := fun z => h_7 ((nI_ltI (by omega) (by omega)).mpr z)
      omega
    have h_7 : g < 8 := (nI_ltI (by omega) (by omega)).mp h_7
    refine am_run 3 (pc' := 32) (ls' := [some (.ref 45), some (.int (nI k)), some (.int (nI g))]) (st' := [.int ((nI 1) <<< ((nI g) &&& 31))]) (σ' := σ) rfl ?_
    refine am_top (v' := nI (2 ^ g)) (by rw [nx_shl 1 (by omega), Nat.one_mul]) ?_
    refine am_run 1 (pc' := 36) (ls' := [some (.ref 45), some (.int (nI k)), some (.int (nI g))]) (st' := [.int (nI (2 ^ g))]) (σ' := σ) rfl ?_
    refine am_reti rfl rfl ?_
    exact hq
  · refine am_enter' (M := M_X8_signalOf) rfl rfl rfl (by omega) (ls := [some (.ref 54), some (.int (nI k)), none]) rfl (fun d' hd' => ?_)
    refine am_run 2 (pc' := 2) (ls' := [some (.ref 54), some (.int (nI k)), none]) (st' := [.int (nI k), .ref 54]) (σ' := σ) rfl ?_
    refine am_invv (y := 106) (b := 54) (as := [.int (nI k)]) (rest := []) rfl rfl rfl rfl rfl rfl rfl (by decide) ?_
    refine am_enter' rfl rfl rfl (by omega) (ls := [some (.ref 54), some (.int (nI k))]) rfl (fun d_1 hd_1 => ?_)
    refine am_run 1 (pc' := 1) (ls' := [some (.ref 54), some (.int (nI k))]) (st' := [.int (nI k)]) (σ' := σ) rfl ?_
    refine am_if (ty := 22) (tn := 4) rfl (by decide) rfl rfl (fun (h_2 : nI k < 0) => ?_) (fun (h_2 : ¬ (nI k < 0)) => ?_)
    · have h_2 : k < 0 := (am_nlt0 (by omega)).mp h_2
      exact absurd h_2 (Nat.not_lt_zero _)
    have h_2 : ¬ (k < 0) := fun z => h_2 ((am_nlt0 (by omega)).mpr z)
    refine am_run 3 (pc' := 9) (ls' := [some (.ref 54), some (.int (nI k))]) (st' := [.int (σ.1 54 8), .int (nI k)]) (σ' := σ) rfl ?_
    refine am_top (v' := nI n) hsz ?_
    refine am_ic (ty := 12) (tn := 22) rfl (by decide) rfl rfl (fun (h_3 : nI k < nI n) => ?_) (fun (h_3 : ¬ (nI k < nI n)) => ?_)
    rotate_left
    · have h_3 : ¬ (k < n) := fun z => h_3 ((nI_ltI (by omega) (by omega)).mpr z)
      omega
    have h_3 : k < n := (nI_ltI (by omega) (by omega)).mp h_3
    refine am_run 2 (pc' := 15) (ls' := [some (.ref 54), some (.int (nI k))]) (st' := [.int (nI 60), .int (nI k)]) (σ' := σ) rfl ?_
    refine am_ic (ty := 18) (tn := 22) rfl (by decide) rfl rfl (fun (h_4 : nI k < nI 60) => ?_) (fun (h_4 : ¬ (nI k < nI 60)) => ?_)
    rotate_left
    · have h_4 : ¬ (k < 60) := fun z => h_4 ((nI_ltI (by omega) (by omega)).mpr z)
      omega
    have h_4 : k < 60 := (nI_ltI (by omega) (by omega)).mp h_4
    refine am_run 2 (pc' := 23) (ls' := [some (.ref 54), some (.int (nI k))]) (st' := [.int (nI 1)]) (σ' := σ) rfl ?_
    refine am_retz rfl rfl (by decide) ?_
    show am_G _ M_X8_signalOf _ 5 [some (.ref 54), some (.int (nI k)), none] [.int (nI 1)] σ
    refine am_if (ty := 17) (tn := 8) rfl (by decide) rfl rfl (fun (h_5 : nI 1 = 0) => ?_) (fun (h_5 : ¬ (nI 1 = 0)) => ?_)
    · exact absurd h_5 (by decide)
    refine am_run 3 (pc' := 13) (ls' := [some (.ref 54), some (.int (nI k)), none]) (st' := [.int (nI k), .ref 56]) (σ' := σ) rfl ?_
    refine am_ialdN (n := 60) (v := nI g) rfl rfl rfl (by omega) (by rw [← oI_s g, ← hg]; exact (hT k hk).2.1) (by decide) ?_
    refine am_run 3 (pc' := 20) (ls' := [some (.ref 54), some (.int (nI k)), some (.int (nI g))]) (st' := [.int (nI g)]) (σ' := σ) rfl ?_
    refine am_if (ty := 35) (tn := 23) rfl (by decide) rfl rfl (fun (h_6 : nI g < 0) => ?_) (fun (h_6 : ¬ (nI g < 0)) => ?_)
    · have h_6 : g < 0 := (am_nlt0 (by omega)).mp h_6
      exact absurd h_6 (Nat.not_lt_zero _)
    have h_6 : ¬ (g < 0) := fun z => h_6 ((am_nlt0 (by omega)).mpr z)
    refine am_run 2 (pc' := 26) (ls' := [some (.ref 54), some (.int (nI k)), some (.int (nI g))]) (st' := [.int (nI 8), .int (nI g)]) (σ' := σ) rfl ?_
    refine am_ic (ty := 29) (tn := 35) rfl (by decide) rfl rfl (fun (h_7 : nI g < nI 8) => ?_) (fun (h_7 : ¬ (nI g < nI 8)) => ?_)
    rotate_left
    · have h_7 : ¬ (g < 8) := fun z => h_7 ((nI_ltI (by omega) (by omega)).mpr z)
      omega
    have h_7 : g < 8 := (nI_ltI (by omega) (by omega)).mp h_7
    refine am_run 3 (pc' := 32) (ls' := [some (.ref 54), some (.int (nI k)), some (.int (nI g))]) (st' := [.int ((nI 1) <<< ((nI g) &&& 31))]) (σ' := σ) rfl ?_
    refine am_top (v' := nI (2 ^ g)) (by rw [nx_shl 1 (by omega), Nat.one_mul]) ?_
    refine am_run 1 (pc' := 36) (ls' := [some (.ref 54), some (.int (nI k)), some (.int (nI g))]) (st' := [.int (nI (2 ^ g))]) (σ' := σ) rfl ?_
    refine am_reti rfl rfl ?_
    exact hq
  · refine am_enter' (M := M_X8_signalOf) rfl rfl rfl (by omega) (ls := [some (.ref 63), some (.int (nI k)), none]) rfl (fun d' hd' => ?_)
    refine am_run 2 (pc' := 2) (ls' := [some (.ref 63), some (.int (nI k)), none]) (st' := [.int (nI k), .ref 63]) (σ' := σ) rfl ?_
    refine am_invv (y := 106) (b := 63) (as := [.int (nI k)]) (rest := []) rfl rfl rfl rfl rfl rfl rfl (by decide) ?_
    refine am_enter' rfl rfl rfl (by omega) (ls := [some (.ref 63), some (.int (nI k))]) rfl (fun d_1 hd_1 => ?_)
    refine am_run 1 (pc' := 1) (ls' := [some (.ref 63), some (.int (nI k))]) (st' := [.int (nI k)]) (σ' := σ) rfl ?_
    refine am_if (ty := 22) (tn := 4) rfl (by decide) rfl rfl (fun (h_2 : nI k < 0) => ?_) (fun (h_2 : ¬ (nI k < 0)) => ?_)
    · have h_2 : k < 0 := (am_nlt0 (by omega)).mp h_2
      exact absurd h_2 (Nat.not_lt_zero _)
    have h_2 : ¬ (k < 0) := fun z => h_2 ((am_nlt0 (by omega)).mpr z)
    refine am_run 3 (pc' := 9) (ls' := [some (.ref 63), some (.int (nI k))]) (st' := [.int (σ.1 63 8), .int (nI k)]) (σ' := σ) rfl ?_
    refine am_top (v' := nI n) hsz ?_
    refine am_ic (ty := 12) (tn := 22) rfl (by decide) rfl rfl (fun (h_3 : nI k < nI n) => ?_) (fun (h_3 : ¬ (nI k < nI n)) => ?_)
    rotate_left
    · have h_3 : ¬ (k < n) := fun z => h_3 ((nI_ltI (by omega) (by omega)).mpr z)
      omega
    have h_3 : k < n := (nI_ltI (by omega) (by omega)).mp h_3
    refine am_run 2 (pc' := 15) (ls' := [some (.ref 63), some (.int (nI k))]) (st' := [.int (nI 60), .int (nI k)]) (σ' := σ) rfl ?_
    refine am_ic (ty := 18) (tn := 22) rfl (by decide) rfl rfl (fun (h_4 : nI k < nI 60) => ?_) (fun (h_4 : ¬ (nI k < nI 60)) => ?_)
    rotate_left
    · have h_4 : ¬ (k < 60) := fun z => h_4 ((nI_ltI (by omega) (by omega)).mpr z)
      omega
    have h_4 : k < 60 := (nI_ltI (by omega) (by omega)).mp h_4
    refine am_run 2 (pc' := 23) (ls' := [some (.ref 63), some (.int (nI k))]) (st' := [.int (nI 1)]) (σ' := σ) rfl ?_
    refine am_retz rfl rfl (by decide) ?_
    show am_G _ M_X8_signalOf _ 5 [some (.ref 63), some (.int (nI k)), none] [.int (nI 1)] σ
    refine am_if (ty := 17) (tn := 8) rfl (by decide) rfl rfl (fun (h_5 : nI 1 = 0) => ?_) (fun (h_5 : ¬ (nI 1 = 0)) => ?_)
    · exact absurd h_5 (by decide)
    refine am_run 3 (pc' := 13) (ls' := [some (.ref 63), some (.int (nI k)), none]) (st' := [.int (nI k), .ref 65]) (σ' := σ) rfl ?_
    refine am_ialdN (n := 60) (v := nI g) rfl rfl rfl (by omega) (by rw [← oI_s g, ← hg]; exact (hT k hk).2.1) (by decide) ?_
    refine am_run 3 (pc' := 20) (ls' := [some (.ref 63), some (.int (nI k)), some (.int (nI g))]) (st' := [.int (nI g)]) (σ' := σ) rfl ?_
    refine am_if (ty := 35) (tn := 23) rfl (by decide) rfl rfl (fun (h_6 : nI g < 0) => ?_) (fun (h_6 : ¬ (nI g < 0)) => ?_)
    · have h_6 : g < 0 := (am_nlt0 (by omega)).mp h_6
      exact absurd h_6 (Nat.not_lt_zero _)
    have h_6 : ¬ (g < 0) := fun z => h_6 ((am_nlt0 (by omega)).mpr z)
    refine am_run 2 (pc' := 26) (ls' := [some (.ref 63), some (.int (nI k)), some (.int (nI g))]) (st' := [.int (nI 8), .int (nI g)]) (σ' := σ) rfl ?_
    refine am_ic (ty := 29) (tn := 35) rfl (by decide) rfl rfl (fun (h_7 : nI g < nI 8) => ?_) (fun (h_7 : ¬ (nI g < nI 8)) => ?_)
    rotate_left
    · have h_7 : ¬ (g < 8) := fun z => h_7 ((nI_ltI (by omega) (by omega)).mpr z)
      omega
    have h_7 : g < 8 := (nI_ltI (by omega) (by omega)).mp h_7
    refine am_run 3 (pc' := 32) (ls' := [some (.ref 63), some (.int (nI k)), some (.int (nI g))]) (st' := [.int ((nI 1) <<< ((nI g) &&& 31))]) (σ' := σ) rfl ?_
    refine am_top (v' := nI (2 ^ g)) (by rw [nx_shl 1 (by omega), Nat.one_mul]) ?_
    refine am_run 1 (pc' := 36) (ls' := [some (.ref 63), some (.int (nI k)), some (.int (nI g))]) (st' := [.int (nI (2 ^ g))]) (σ' := σ) rfl ?_
    refine am_reti rfl rfl ?_
    exact hq
set_option maxRecDepth 10000 in
theorem c_isLive {d : Nat} (hd : 3 ≤ d) {σ : am_M} {t n : Nat} {p : Pg} (hW : PW p n) (hR : TR σ t p n) {k : Nat} (hk : k < n) {Q : am_Q} {s : Nat} (hq : Q (some (.int (nI (if p 4 k &&& s = 0 then 0 else 1)))) σ) : am_C d 119 [.ref t, .int (nI k), .int (nI s)] σ Q := by
  have hn := hW.1
  obtain ⟨w0, w1, w2, w3, w4, w5, w6⟩ := hW.2 k hk
  have hand : p 4 k &&& s ≤ p 4 k := Nat.and_le_left
  obtain ⟨ht, hsz, hT⟩ := hR
  rcases ht with rfl | rfl | rfl
  · refine am_enter' (M := M_X8_isLive) rfl rfl rfl (by omega) (ls := [some (.ref 45), some (.int (nI k)), some (.int (nI s))]) rfl (fun d' hd' => ?_)
    refine am_run 2 (pc' := 2) (ls' := [some (.ref 45), some (.int (nI k)), some (.int (nI s))]) (st' := [.int (nI k), .ref 45]) (σ' := σ) rfl ?_
    refine am_invv (y := 106) (b := 45) (as := [.int (nI k)]) (rest := []) rfl rfl rfl rfl rfl rfl rfl (by decide) ?_
    refine am_enter' rfl rfl rfl (by omega) (ls := [some (.ref 45), some (.int (nI k))]) rfl (fun d_1 hd_1 => ?_)
    refine am_run 1 (pc' := 1) (ls' := [some (.ref 45), some (.int (nI k))]) (st' := [.int (nI k)]) (σ' := σ) rfl ?_
    refine am_if (ty := 22) (tn := 4) rfl (by decide) rfl rfl (fun (h_2 : nI k < 0) => ?_) (fun (h_2 : ¬ (nI k < 0)) => ?_)
    · have h_2 : k < 0 := (am_nlt0 (by omega)).mp h_2
      exact absurd h_2 (Nat.not_lt_zero _)
    have h_2 : ¬ (k < 0) := fun z => h_2 ((am_nlt0 (by omega)).mpr z)
    refine am_run 3 (pc' := 9) (ls' := [some (.ref 45), some (.int (nI k))]) (st' := [.int (σ.1 45 8), .int (nI k)]) (σ' := σ) rfl ?_
    refine am_top (v' := nI n) hsz ?_
    refine am_ic (ty := 12) (tn := 22) rfl (by decide) rfl rfl (fun (h_3 : nI k < nI n) => ?_) (fun (h_3 : ¬ (nI k < nI n)) => ?_)
    rotate_left
    · have h_3 : ¬ (k < n) := fun z => h_3 ((nI_ltI (by omega) (by omega)).mpr z)
      omega
    have h_3 : k < n := (nI_ltI (by omega) (by omega)).mp h_3
    refine am_run 2 (pc' := 15) (ls' := [some (.ref 45), some (.int (nI k))]) (st' := [.int (nI 60), .int (nI k)]) (σ' := σ) rfl ?_
    refine am_ic (ty := 18) (tn := 22) rfl (by decide) rfl rfl (fun (h_4 : nI k < nI 60) => ?_) (fun (h_4 : ¬ (nI k < nI 60)) => ?_)
    rotate_left
    · have h_4 : ¬ (k < 60) := fun z => h_4 ((nI_ltI (by omega) (by omega)).mpr z)
      omega
    have h_4 : k < 60 := (nI_ltI (by omega) (by omega)).mp h_4
    refine am_run 2 (pc' := 23) (ls' := [some (.ref 45), some (.int (nI k))]) (st' := [.int (nI 1)]) (σ' := σ) rfl ?_
    refine am_retz rfl rfl (by decide) ?_
    show am_G _ M_X8_isLive _ 5 [some (.ref 45), some (.int (nI k)), some (.int (nI s))] [.int (nI 1)] σ
    refine am_if (ty := 23) (tn := 8) rfl (by decide) rfl rfl (fun (h_5 : nI 1 = 0) => ?_) (fun (h_5 : ¬ (nI 1 = 0)) => ?_)
    · exact absurd h_5 (by decide)
    refine am_run 3 (pc' := 13) (ls' := [some (.ref 45), some (.int (nI k)), some (.int (nI s))]) (st' := [.int (nI k), .ref 53]) (σ' := σ) rfl ?_
    refine am_ialdN (n := 60) (v := nI (p 4 k)) rfl rfl rfl (by omega) (hT k hk).2.2.2.2 (by decide) ?_
    refine am_run 2 (pc' := 16) (ls' := [some (.ref 45), some (.int (nI k)), some (.int (nI s))]) (st' := [.int (nI (p 4 k) &&& nI s)]) (σ' := σ) rfl ?_
    refine am_top (v' := nI (p 4 k &&& s)) (nx_and _ _) ?_
    refine am_if (ty := 23) (tn := 19) rfl (by decide) rfl rfl (fun (h_6 : nI (p 4 k &&& s) = 0) => ?_) (fun (h_6 : ¬ (nI (p 4 k &&& s) = 0)) => ?_)
    · have h_6 : p 4 k &&& s = 0 := (am_n0 (by omega)).mp h_6
      refine am_run 1 (pc' := 24) (ls' := [some (.ref 45), some (.int (nI k)), some (.int (nI s))]) (st' := [.int (nI 0)]) (σ' := σ) rfl ?_
      refine am_retz rfl rfl (by decide) ?_
      first | (rw [if_pos (by assumption)] at hq; exact hq) | (rw [if_neg (by assumption)] at hq; exact hq)
    · have h_6 : ¬ (p 4 k &&& s = 0) := fun z => h_6 ((am_n0 (by omega)).mpr z)
      refine am_run 2 (pc' := 24) (ls' := [some (.ref 45), some (.int (nI k)), some (.int (nI s))]) (st' := [.int (nI 1)]) (σ' := σ) rfl ?_
      refine am_retz rfl rfl (by decide) ?_
      first | (rw [if_pos (by assumption)] at hq; exact hq) | (rw [if_neg (by assumption)] at hq; exact hq)
  · refine am_enter' (M := M_X8_isLive) rfl rfl rfl (by omega) (ls := [some (.ref 54), some (.int (nI k)), some (.int (nI s))]) rfl (fun d' hd' => ?_)
    refine am_run 2 (pc' := 2) (ls' := [some (.ref 54), some (.int (nI k)), some (.int (nI s))]) (st' := [.int (nI k), .ref 54]) (σ' := σ) rfl ?_
    refine am_invv (y := 106) (b := 54) (as := [.int (nI k)]) (rest := []) rfl rfl rfl rfl rfl rfl rfl (by decide) ?_
    refine am_enter' rfl rfl rfl (by omega) (ls := [some (.ref 54), some (.int (nI k))]) rfl (fun d_1 hd_1 => ?_)
    refine am_run 1 (pc' := 1) (ls' := [some (.ref 54), some (.int (nI k))]) (st' := [.int (nI k)]) (σ' := σ) rfl ?_
    refine am_if (ty := 22) (tn := 4) rfl (by decide) rfl rfl (fun (h_2 : nI k < 0) => ?_) (fun (h_2 : ¬ (nI k < 0)) => ?_)
    · have h_2 : k < 0 := (am_nlt0 (by omega)).mp h_2
      exact absurd h_2 (Nat.not_lt_zero _)
    have h_2 : ¬ (k < 0) := fun z => h_2 ((am_nlt0 (by omega)).mpr z)
    refine am_run 3 (pc' := 9) (ls' := [some (.ref 54), some (.int (nI k))]) (st' := [.int (σ.1 54 8), .int (nI k)]) (σ' := σ) rfl ?_
    refine am_top (v' := nI n) hsz ?_
    refine am_ic (ty := 12) (tn := 22) rfl (by decide) rfl rfl (fun (h_3 : nI k < nI n) => ?_) (fun (h_3 : ¬ (nI k < nI n)) => ?_)
    rotate_left
    · have h_3 : ¬ (k < n) := fun z => h_3 ((nI_ltI (by omega) (by omega)).mpr z)
      omega
    have h_3 : k < n := (nI_ltI (by omega) (by omega)).mp h_3
    refine am_run 2 (pc' := 15) (ls' := [some (.ref 54), some (.int (nI k))]) (st' := [.int (nI 60), .int (nI k)]) (σ' := σ) rfl ?_
    refine am_ic (ty := 18) (tn := 22) rfl (by decide) rfl rfl (fun (h_4 : nI k < nI 60) => ?_) (fun (h_4 : ¬ (nI k < nI 60)) => ?_)
    rotate_left
    · have h_4 : ¬ (k < 60) := fun z => h_4 ((nI_ltI (by omega) (by omega)).mpr z)
      omega
    have h_4 : k < 60 := (nI_ltI (by omega) (by omega)).mp h_4
    refine am_run 2 (pc' := 23) (ls' := [some (.ref 54), some (.int (nI k))]) (st' := [.int (nI 1)]) (σ' := σ) rfl ?_
    refine am_retz rfl rfl (by decide) ?_
    show am_G _ M_X8_isLive _ 5 [some (.ref 54), some (.int (nI k)), some (.int (nI s))] [.int (nI 1)] σ
    refine am_if (ty := 23) (tn := 8) rfl (by decide) rfl rfl (fun (h_5 : nI 1 = 0) => ?_) (fun (h_5 : ¬ (nI 1 = 0)) => ?_)
    · exact absurd h_5 (by decide)
    refine am_run 3 (pc' := 13) (ls' := [some (.ref 54), some (.int (nI k)), some (.int (nI s))]) (st' := [.int (nI k), .ref 62]) (σ' := σ) rfl ?_
    refine am_ialdN (n := 60) (v := nI (p 4 k)) rfl rfl rfl (by omega) (hT k hk).2.2.2.2 (by decide) ?_
    refine am_run 2 (pc' := 16) (ls' := [some (.ref 54), some (.int (nI k)), some (.int (nI s))]) (st' := [.int (nI (p 4 k) &&& nI s)]) (σ' := σ) rfl ?_
    refine am_top (v' := nI (p 4 k &&& s)) (nx_and _ _) ?_
    refine am_if (ty := 23) (tn := 19) rfl (by decide) rfl rfl (fun (h_6 : nI (p 4 k &&& s) = 0) => ?_) (fun (h_6 : ¬ (nI (p 4 k &&& s) = 0)) => ?_)
    · have h_6 : p 4 k &&& s = 0 := (am_n0 (by omega)).mp h_6
      refine am_run 1 (pc' := 24) (ls' := [some (.ref 54), some (.int (nI k)), some (.int (nI s))]) (st' := [.int (nI 0)]) (σ' := σ) rfl ?_
      refine am_retz rfl rfl (by decide) ?_
      first | (rw [if_pos (by assumption)] at hq; exact hq) | (rw [if_neg (by assumption)] at hq; exact hq)
    · have h_6 : ¬ (p 4 k &&& s = 0) := fun z => h_6 ((am_n0 (by omega)).mpr z)
      refine am_run 2 (pc' := 24) (ls' := [some (.ref 54), some (.int (nI k)), some (.int (nI s))]) (st' := [.int (nI 1)]) (σ' := σ) rfl ?_
      refine am_retz rfl rfl (by decide) ?_
      first | (rw [if_pos (by assumption)] at hq; exact hq) | (rw [if_neg (by assumption)] at hq; exact hq)
  · refine am_enter' (M := M_X8_isLive) rfl rfl rfl (by omega) (ls := [some (.ref 63), some (.int (nI k)), some (.int (nI s))]) rfl (fun d' hd' => ?_)
    refine am_run 2 (pc' := 2) (ls' := [some (.ref 63), some (.int (nI k)), some (.int (nI s))]) (st' := [.int (nI k), .ref 63]) (σ' := σ) rfl ?_
    refine am_invv (y := 106) (b := 63) (as := [.int (nI k)]) (rest := []) rfl rfl rfl rfl rfl rfl rfl (by decide) ?_
    refine am_enter' rfl rfl rfl (by omega) (ls := [some (.ref 63), some (.int (nI k))]) rfl (fun d_1 hd_1 => ?_)
    refine am_run 1 (pc' := 1) (ls' := [some (.ref 63), some (.int (nI k))]) (st' := [.int (nI k)]) (σ' := σ) rfl ?_
    refine am_if (ty := 22) (tn := 4) rfl (by decide) rfl rfl (fun (h_2 : nI k < 0) => ?_) (fun (h_2 : ¬ (nI k < 0)) => ?_)
    · have h_2 : k < 0 := (am_nlt0 (by omega)).mp h_2
      exact absurd h_2 (Nat.not_lt_zero _)
    have h_2 : ¬ (k < 0) := fun z => h_2 ((am_nlt0 (by omega)).mpr z)
    refine am_run 3 (pc' := 9) (ls' := [some (.ref 63), some (.int (nI k))]) (st' := [.int (σ.1 63 8), .int (nI k)]) (σ' := σ) rfl ?_
    refine am_top (v' := nI n) hsz ?_
    refine am_ic (ty := 12) (tn := 22) rfl (by decide) rfl rfl (fun (h_3 : nI k < nI n) => ?_) (fun (h_3 : ¬ (nI k < nI n)) => ?_)
    rotate_left
    · have h_3 : ¬ (k < n) := fun z => h_3 ((nI_ltI (by omega) (by omega)).mpr z)
      omega
    have h_3 : k < n := (nI_ltI (by omega) (by omega)).mp h_3
    refine am_run 2 (pc' := 15) (ls' := [some (.ref 63), some (.int (nI k))]) (st' := [.int (nI 60), .int (nI k)]) (σ' := σ) rfl ?_
    refine am_ic (ty := 18) (tn := 22) rfl (by decide) rfl rfl (fun (h_4 : nI k < nI 60) => ?_) (fun (h_4 : ¬ (nI k < nI 60)) => ?_)
    rotate_left
    · have h_4 : ¬ (k < 60) := fun z => h_4 ((nI_ltI (by omega) (by omega)).mpr z)
      omega
    have h_4 : k < 60 := (nI_ltI (by omega) (by omega)).mp h_4
    refine am_run 2 (pc' := 23) (ls' := [some (.ref 63), some (.int (nI k))]) (st' := [.int (nI 1)]) (σ' := σ) rfl ?_
    refine am_retz rfl rfl (by decide) ?_
    show am_G _ M_X8_isLive _ 5 [some (.ref 63), some (.int (nI k)), some (.int (nI s))] [.int (nI 1)] σ
    refine am_if (ty := 23) (tn := 8) rfl (by decide) rfl rfl (fun (h_5 : nI 1 = 0) => ?_) (fun (h_5 : ¬ (nI 1 = 0)) => ?_)
    · exact absurd h_5 (by decide)
    refine am_run 3 (pc' := 13) (ls' := [some (.ref 63), some (.int (nI k)), some (.int (nI s))]) (st' := [.int (nI k), .ref 71]) (σ' := σ) rfl ?_
    refine am_ialdN (n := 60) (v := nI (p 4 k)) rfl rfl rfl (by omega) (hT k hk).2.2.2.2 (by decide) ?_
    refine am_run 2 (pc' := 16) (ls' := [some (.ref 63), some (.int (nI k)), some (.int (nI s))]) (st' := [.int (nI (p 4 k) &&& nI s)]) (σ' := σ) rfl ?_
    refine am_top (v' := nI (p 4 k &&& s)) (nx_and _ _) ?_
    refine am_if (ty := 23) (tn := 19) rfl (by decide) rfl rfl (fun (h_6 : nI (p 4 k &&& s) = 0) => ?_) (fun (h_6 : ¬ (nI (p 4 k &&& s) = 0)) => ?_)
    · have h_6 : p 4 k &&& s = 0 := (am_n0 (by omega)).mp h_6
      refine am_run 1 (pc' := 24) (ls' := [some (.ref 63), some (.int (nI k)), some (.int (nI s))]) (st' := [.int (nI 0)]) (σ' := σ) rfl ?_
      refine am_retz rfl rfl (by decide) ?_
      first | (rw [if_pos (by assumption)] at hq; exact hq) | (rw [if_neg (by assumption)] at hq; exact hq)
    · have h_6 : ¬ (p 4 k &&& s = 0) := fun z => h_6 ((am_n0 (by omega)).mpr z)
      refine am_run 2 (pc' := 24) (ls' := [some (.ref 63), some (.int (nI k)), some (.int (nI s))]) (st' := [.int (nI 1)]) (σ' := σ) rfl ?_
      refine am_retz rfl rfl (by decide) ?_
      first | (rw [if_pos (by assumption)] at hq; exact hq) | (rw [if_neg (by assumption)] at hq; exact hq)
set_option maxRecDepth 10000 in
theorem c_isLive0 {d : Nat} (hd : 3 ≤ d) {σ : am_M} {t n : Nat} {p : Pg} (hR : TR σ t p n) {s : Int32} {Q : am_Q} (hq : Q (some (.int (nI 0))) σ) : am_C d 119 [.ref t, .int (-1), .int s] σ Q := by
  obtain ⟨ht, hsz, hT⟩ := hR
  rcases ht with rfl | rfl | rfl
  · refine am_enter' (M := M_X8_isLive) rfl rfl rfl (by omega) (ls := [some (.ref 45), some (.int (-1)), some (.int s)]) rfl (fun d' hd' => ?_)
    refine am_run 2 (pc' := 2) (ls' := [some (.ref 45), some (.int (-1)), some (.int s)]) (st' := [.int (-1), .ref 45]) (σ' := σ) rfl ?_
    refine am_invv (y := 106) (b := 45) (as := [.int (-1)]) (rest := []) rfl rfl rfl rfl rfl rfl rfl (by decide) ?_
    refine am_enter' rfl rfl rfl (by omega) (ls := [some (.ref 45), some (.int (-1))]) rfl (fun d_1 hd_1 => ?_)
    refine am_run 1 (pc' := 1) (ls' := [some (.ref 45), some (.int (-1))]) (st' := [.int (-1)]) (σ' := σ) rfl ?_
    refine am_if (ty := 22) (tn := 4) rfl (by decide) rfl rfl (fun (h_2 : -1 < 0) => ?_) (fun (h_2 : ¬ (-1 < 0)) => ?_)
    rotate_left
    · exact absurd (by decide) h_2
    refine am_run 1 (pc' := 23) (ls' := [some (.ref 45), some (.int (-1))]) (st' := [.int (nI 0)]) (σ' := σ) rfl ?_
    refine am_retz rfl rfl (by decide) ?_
    show am_G _ M_X8_isLive _ 5 [some (.ref 45), some (.int (-1)), some (.int s)] [.int (nI 0)] σ
    refine am_if (ty := 23) (tn := 8) rfl (by decide) rfl rfl (fun (h_3 : nI 0 = 0) => ?_) (fun (h_3 : ¬ (nI 0 = 0)) => ?_)
    rotate_left
    · exact absurd (by decide) h_3
    refine am_run 1 (pc' := 24) (ls' := [some (.ref 45), some (.int (-1)), some (.int s)]) (st' := [.int (nI 0)]) (σ' := σ) rfl ?_
    refine am_retz rfl rfl (by decide) ?_
    exact hq
  · refine am_enter' (M := M_X8_isLive) rfl rfl rfl (by omega) (ls := [some (.ref 54), some (.int (-1)), some (.int s)]) rfl (fun d' hd' => ?_)
    refine am_run 2 (pc' := 2) (ls' := [some (.ref 54), some (.int (-1)), some (.int s)]) (st' := [.int (-1), .ref 54]) (σ' := σ) rfl ?_
    refine am_invv (y := 106) (b := 54) (as := [.int (-1)]) (rest := []) rfl rfl rfl rfl rfl rfl rfl (by decide) ?_
    refine am_enter' rfl rfl rfl (by omega) (ls := [some (.ref 54), some (.int (-1))]) rfl (fun d_1 hd_1 => ?_)
    refine am_run 1 (pc' := 1) (ls' := [some (.ref 54), some (.int (-1))]) (st' := [.int (-1)]) (σ' := σ) rfl ?_
    refine am_if (ty := 22) (tn := 4) rfl (by decide) rfl rfl (fun (h_2 : -1 < 0) => ?_) (fun (h_2 : ¬ (-1 < 0)) => ?_)
    rotate_left
    · exact absurd (by decide) h_2
    refine am_run 1 (pc' := 23) (ls' := [some (.ref 54), some (.int (-1))]) (st' := [.int (nI 0)]) (σ' := σ) rfl ?_
    refine am_retz rfl rfl (by decide) ?_
    show am_G _ M_X8_isLive _ 5 [some (.ref 54), some (.int (-1)), some (.int s)] [.int (nI 0)] σ
    refine am_if (ty := 23) (tn := 8) rfl (by decide) rfl rfl (fun (h_3 : nI 0 = 0) => ?_) (fun (h_3 : ¬ (nI 0 = 0)) => ?_)
    rotate_left
    · exact absurd (by decide) h_3
    refine am_run 1 (pc' := 24) (ls' := [some (.ref 54), some (.int (-1)), some (.int s)]) (st' := [.int (nI 0)]) (σ' := σ) rfl ?_
    refine am_retz rfl rfl (by decide) ?_
    exact hq
  · refine am_enter' (M := M_X8_isLive) rfl rfl rfl (by omega) (ls := [some (.ref 63), some (.int (-1)), some (.int s)]) rfl (fun d' hd' => ?_)
    refine am_run 2 (pc' := 2) (ls' := [some (.ref 63), some (.int (-1)), some (.int s)]) (st' := [.int (-1), .ref 63]) (σ' := σ) rfl ?_
    refine am_invv (y := 106) (b := 63) (as := [.int (-1)]) (rest := []) rfl rfl rfl rfl rfl rfl rfl (by decide) ?_
    refine am_enter' rfl rfl rfl (by omega) (ls := [some (.ref 63), some (.int (-1))]) rfl (fun d_1 hd_1 => ?_)
    refine am_run 1 (pc' := 1) (ls' := [some (.ref 63), some (.int (-1))]) (st' := [.int (-1)]) (σ' := σ) rfl ?_
    refine am_if (ty := 22) (tn := 4) rfl (by decide) rfl rfl (fun (h_2 : -1 < 0) => ?_) (fun (h_2 : ¬ (-1 < 0)) => ?_)
    rotate_left
    · exact absurd (by decide) h_2
    refine am_run 1 (pc' := 23) (ls' := [some (.ref 63), some (.int (-1))]) (st' := [.int (nI 0)]) (σ' := σ) rfl ?_
    refine am_retz rfl rfl (by decide) ?_
    show am_G _ M_X8_isLive _ 5 [some (.ref 63), some (.int (-1)), some (.int s)] [.int (nI 0)] σ
    refine am_if (ty := 23) (tn := 8) rfl (by decide) rfl rfl (fun (h_3 : nI 0 = 0) => ?_) (fun (h_3 : ¬ (nI 0 = 0)) => ?_)
    rotate_left
    · exact absurd (by decide) h_3
    refine am_run 1 (pc' := 24) (ls' := [some (.ref 63), some (.int (-1)), some (.int s)]) (st' := [.int (nI 0)]) (σ' := σ) rfl ?_
    refine am_retz rfl rfl (by decide) ?_
    exact hq
set_option maxRecDepth 10000 in
theorem c_pausesOf0 {d : Nat} (hd : 3 ≤ d) {σ : am_M} {t n : Nat} {p : Pg} (hR : TR σ t p n) {s : Int32} {Q : am_Q} (hq : Q (some (.int (nI 0))) σ) : am_C d 117 [.ref t, .int (-1)] σ Q := by
  obtain ⟨ht, hsz, hT⟩ := hR
  rcases ht with rfl | rfl | rfl
  · refine am_enter' (M := M_X8_pausesOf) rfl rfl rfl (by omega) (ls := [some (.ref 45), some (.int (-1))]) rfl (fun d' hd' => ?_)
    refine am_run 2 (pc' := 2) (ls' := [some (.ref 45), some (.int (-1))]) (st' := [.int (-1), .ref 45]) (σ' := σ) rfl ?_
    refine am_invv (y := 106) (b := 45) (as := [.int (-1)]) (rest := []) rfl rfl rfl rfl rfl rfl rfl (by decide) ?_
    refine am_enter' rfl rfl rfl (by omega) (ls := [some (.ref 45), some (.int (-1))]) rfl (fun d_1 hd_1 => ?_)
    refine am_run 1 (pc' := 1) (ls' := [some (.ref 45), some (.int (-1))]) (st' := [.int (-1)]) (σ' := σ) rfl ?_
    refine am_if (ty := 22) (tn := 4) rfl (by decide) rfl rfl (fun (h_2 : -1 < 0) => ?_) (fun (h_2 : ¬ (-1 < 0)) => ?_)
    rotate_left
    · exact absurd (by decide) h_2
    refine am_run 1 (pc' := 23) (ls' := [some (.ref 45), some (.int (-1))]) (st' := [.int (nI 0)]) (σ' := σ) rfl ?_
    refine am_retz rfl rfl (by decide) ?_
    show am_G _ M_X8_pausesOf _ 5 [some (.ref 45), some (.int (-1))] [.int (nI 0)] σ
    refine am_if (ty := 17) (tn := 8) rfl (by decide) rfl rfl (fun (h_3 : nI 0 = 0) => ?_) (fun (h_3 : ¬ (nI 0 = 0)) => ?_)
    rotate_left
    · exact absurd (by decide) h_3
    refine am_run 1 (pc' := 18) (ls' := [some (.ref 45), some (.int (-1))]) (st' := [.int (nI 0)]) (σ' := σ) rfl ?_
    refine am_reti rfl rfl ?_
    exact hq
  · refine am_enter' (M := M_X8_pausesOf) rfl rfl rfl (by omega) (ls := [some (.ref 54), some (.int (-1))]) rfl (fun d' hd' => ?_)
    refine am_run 2 (pc' := 2) (ls' := [some (.ref 54), some (.int (-1))]) (st' := [.int (-1), .ref 54]) (σ' := σ) rfl ?_
    refine am_invv (y := 106) (b := 54) (as := [.int (-1)]) (rest := []) rfl rfl rfl rfl rfl rfl rfl (by decide) ?_
    refine am_enter' rfl rfl rfl (by omega) (ls := [some (.ref 54), some (.int (-1))]) rfl (fun d_1 hd_1 => ?_)
    refine am_run 1 (pc' := 1) (ls' := [some (.ref 54), some (.int (-1))]) (st' := [.int (-1)]) (σ' := σ) rfl ?_
    refine am_if (ty := 22) (tn := 4) rfl (by decide) rfl rfl (fun (h_2 : -1 < 0) => ?_) (fun (h_2 : ¬ (-1 < 0)) => ?_)
    rotate_left
    · exact absurd (by decide) h_2
    refine am_run 1 (pc' := 23) (ls' := [some (.ref 54), some (.int (-1))]) (st' := [.int (nI 0)]) (σ' := σ) rfl ?_
    refine am_retz rfl rfl (by decide) ?_
    show am_G _ M_X8_pausesOf _ 5 [some (.ref 54), some (.int (-1))] [.int (nI 0)] σ
    refine am_if (ty := 17) (tn := 8) rfl (by decide) rfl rfl (fun (h_3 : nI 0 = 0) => ?_) (fun (h_3 : ¬ (nI 0 = 0)) => ?_)
    rotate_left
    · exact absurd (by decide) h_3
    refine am_run 1 (pc' := 18) (ls' := [some (.ref 54), some (.int (-1))]) (st' := [.int (nI 0)]) (σ' := σ) rfl ?_
    refine am_reti rfl rfl ?_
    exact hq
  · refine am_enter' (M := M_X8_pausesOf) rfl rfl rfl (by omega) (ls := [some (.ref 63), some (.int (-1))]) rfl (fun d' hd' => ?_)
    refine am_run 2 (pc' := 2) (ls' := [some (.ref 63), some (.int (-1))]) (st' := [.int (-1), .ref 63]) (σ' := σ) rfl ?_
    refine am_invv (y := 106) (b := 63) (as := [.int (-1)]) (rest := []) rfl rfl rfl rfl rfl rfl rfl (by decide) ?_
    refine am_enter' rfl rfl rfl (by omega) (ls := [some (.ref 63), some (.int (-1))]) rfl (fun d_1 hd_1 => ?_)
    refine am_run 1 (pc' := 1) (ls' := [some (.ref 63), some (.int (-1))]) (st' := [.int (-1)]) (σ' := σ) rfl ?_
    refine am_if (ty := 22) (tn := 4) rfl (by decide) rfl rfl (fun (h_2 : -1 < 0) => ?_) (fun (h_2 : ¬ (-1 < 0)) => ?_)
    rotate_left
    · exact absurd (by decide) h_2
    refine am_run 1 (pc' := 23) (ls' := [some (.ref 63), some (.int (-1))]) (st' := [.int (nI 0)]) (σ' := σ) rfl ?_
    refine am_retz rfl rfl (by decide) ?_
    show am_G _ M_X8_pausesOf _ 5 [some (.ref 63), some (.int (-1))] [.int (nI 0)] σ
    refine am_if (ty := 17) (tn := 8) rfl (by decide) rfl rfl (fun (h_3 : nI 0 = 0) => ?_) (fun (h_3 : ¬ (nI 0 = 0)) => ?_)
    rotate_left
    · exact absurd (by decide) h_3
    refine am_run 1 (pc' := 18) (ls' := [some (.ref 63), some (.int (-1))]) (st' := [.int (nI 0)]) (σ' := σ) rfl ?_
    refine am_reti rfl rfl ?_
    exact hq
theorem c_lv {d : Nat} (hd : 3 ≤ d) {σ : am_M} {t n : Nat} {p : Pg} (hW : PW p n) (hR : TR σ t p n) {x s : Nat} (hx : x ≤ n) {Q : am_Q} (hq : Q (some (.int (nI (lv p x s).toNat))) σ) : am_C d 119 [.ref t, .int (oI x), .int (nI s)] σ Q := by
  cases x with
  | zero => rw [oI_0]; exact c_isLive0 hd hR hq
  | succ k =>
    rw [oI_s]
    refine c_isLive hd hW hR (by omega) ?_
    have : (lv p (k + 1) s).toNat = if p 4 k &&& s = 0 then 0 else 1 := by
      unfold lv
      by_cases h : p 4 k &&& s = 0 <;> simp [h]
    rw [← this]
    exact hq

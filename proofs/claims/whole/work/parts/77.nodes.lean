set_option maxRecDepth 10000 in
set_option maxHeartbeats 2000000 in
theorem rs_bad {d : Nat} (hd : 2 ≤ d) {σ : am_M} {c : Nat} (hc : c < 256) (hb : c < 97 ∨ 104 < c) {Q : am_Q} (hq : Q (some (.int (nI 1))) σ) : am_C d 168 [.ref 0, .int (nI c)] σ Q := by
  by_cases hlo : c < 97
  · refine am_enter' (M := M_X10_readsSignal) rfl rfl rfl (by omega) (ls := [some (.ref 0), some (.int (nI c)), none]) rfl (fun d' hd' => ?_)
    refine am_run 3 (pc' := 5) (ls' := [some (.ref 0), some (.int (nI c)), none]) (st' := [.int (nI 104), .int (nI 97), .int (nI c)]) (σ' := σ) rfl ?_
    refine am_invs (y := 148) (as := [.int (nI c), .int (nI 97), .int (nI 104)]) (rest := []) rfl rfl rfl rfl rfl rfl (Nat.le_of_ble_eq_true rfl) ?_
    refine am_enter' rfl rfl rfl (by omega) (ls := [some (.int (nI c)), some (.int (nI 97)), some (.int (nI 104))]) rfl (fun d_1 hd_1 => ?_)
    refine am_run 2 (pc' := 2) (ls' := [some (.int (nI c)), some (.int (nI 97)), some (.int (nI 104))]) (st' := [.int (nI 97), .int (nI c)]) (σ' := σ) rfl ?_
    refine am_ic (ty := 14) (tn := 5) rfl (by decide) rfl rfl (fun (h_2 : nI c < nI 97) => ?_) (fun (h_2 : ¬ (nI c < nI 97)) => ?_)
    rotate_left
    · have h_2 : ¬ (c < 97) := fun z => h_2 ((nI_ltI (by omega) (by omega)).mpr z)
      omega
    have h_2 : c < 97 := (nI_ltI (by omega) (by omega)).mp h_2
    refine am_run 1 (pc' := 15) (ls' := [some (.int (nI c)), some (.int (nI 97)), some (.int (nI 104))]) (st' := [.int (nI 0)]) (σ' := σ) rfl ?_
    refine am_retz rfl rfl (by decide) ?_
    show am_G _ M_X10_readsSignal _ 8 [some (.ref 0), some (.int (nI c)), none] [.int (nI 0)] σ
    refine am_if (ty := 11) (tn := 13) rfl (by decide) rfl rfl (fun (h_3 : nI 0 = 0) => ?_) (fun (h_3 : ¬ (nI 0 = 0)) => ?_)
    rotate_left
    · exact absurd (by decide) h_3
    refine am_run 1 (pc' := 12) (ls' := [some (.ref 0), some (.int (nI c)), none]) (st' := [.int (nI 1)]) (σ' := σ) rfl ?_
    refine am_reti rfl rfl ?_
    exact hq
  · refine am_enter' (M := M_X10_readsSignal) rfl rfl rfl (by omega) (ls := [some (.ref 0), some (.int (nI c)), none]) rfl (fun d' hd' => ?_)
    refine am_run 3 (pc' := 5) (ls' := [some (.ref 0), some (.int (nI c)), none]) (st' := [.int (nI 104), .int (nI 97), .int (nI c)]) (σ' := σ) rfl ?_
    refine am_invs (y := 148) (as := [.int (nI c), .int (nI 97), .int (nI 104)]) (rest := []) rfl rfl rfl rfl rfl rfl (Nat.le_of_ble_eq_true rfl) ?_
    refine am_enter' rfl rfl rfl (by omega) (ls := [some (.int (nI c)), some (.int (nI 97)), some (.int (nI 104))]) rfl (fun d_1 hd_1 => ?_)
    refine am_run 2 (pc' := 2) (ls' := [some (.int (nI c)), some (.int (nI 97)), some (.int (nI 104))]) (st' := [.int (nI 97), .int (nI c)]) (σ' := σ) rfl ?_
    refine am_ic (ty := 14) (tn := 5) rfl (by decide) rfl rfl (fun (h_2 : nI c < nI 97) => ?_) (fun (h_2 : ¬ (nI c < nI 97)) => ?_)
    · have h_2 : c < 97 := (nI_ltI (by omega) (by omega)).mp h_2
      omega
    have h_2 : ¬ (c < 97) := fun z => h_2 ((nI_ltI (by omega) (by omega)).mpr z)
    refine am_run 2 (pc' := 7) (ls' := [some (.int (nI c)), some (.int (nI 97)), some (.int (nI 104))]) (st' := [.int (nI 104), .int (nI c)]) (σ' := σ) rfl ?_
    refine am_ic (ty := 14) (tn := 10) rfl (by decide) rfl rfl (fun (h_3 : nI 104 < nI c) => ?_) (fun (h_3 : ¬ (nI 104 < nI c)) => ?_)
    rotate_left
    · have h_3 : ¬ (104 < c) := fun z => h_3 ((nI_ltI (by omega) (by omega)).mpr z)
      omega
    have h_3 : 104 < c := (nI_ltI (by omega) (by omega)).mp h_3
    refine am_run 1 (pc' := 15) (ls' := [some (.int (nI c)), some (.int (nI 97)), some (.int (nI 104))]) (st' := [.int (nI 0)]) (σ' := σ) rfl ?_
    refine am_retz rfl rfl (by decide) ?_
    show am_G _ M_X10_readsSignal _ 8 [some (.ref 0), some (.int (nI c)), none] [.int (nI 0)] σ
    refine am_if (ty := 11) (tn := 13) rfl (by decide) rfl rfl (fun (h_4 : nI 0 = 0) => ?_) (fun (h_4 : ¬ (nI 0 = 0)) => ?_)
    rotate_left
    · exact absurd (by decide) h_4
    refine am_run 1 (pc' := 12) (ls' := [some (.ref 0), some (.int (nI c)), none]) (st' := [.int (nI 1)]) (σ' := σ) rfl ?_
    refine am_reti rfl rfl ?_
    exact hq
set_option maxRecDepth 10000 in
set_option maxHeartbeats 2000000 in
theorem rs_33 {d : Nat} (hd : 6 ≤ d) {σ : am_M} {c n e : Nat} (hc : 97 ≤ c ∧ c ≤ 104) (h23 : σ.1 0 23 = nI n) (hn : n < 60) (h35 : σ.1 0 35 = nI e) (he : e < 60) (h5 : σ.1 5 (120 + n) = nI 33) {Q : am_Q} (hq : EPq (Q (some (.int (nI 0)))) (am_wr (am_wr (am_wr σ 6 (120 + n) (nI (c - 97))) 9 (120 + e) (nI n)) 0 35 (nI (e + 1))) n) : am_C d 168 [.ref 0, .int (nI c)] σ Q := by
  refine am_enter' (M := M_X10_readsSignal) rfl rfl rfl (by omega) (ls := [some (.ref 0), some (.int (nI c)), none]) rfl (fun d' hd' => ?_)
  refine am_run 3 (pc' := 5) (ls' := [some (.ref 0), some (.int (nI c)), none]) (st' := [.int (nI 104), .int (nI 97), .int (nI c)]) (σ' := σ) rfl ?_
  refine am_invs (y := 148) (as := [.int (nI c), .int (nI 97), .int (nI 104)]) (rest := []) rfl rfl rfl rfl rfl rfl (Nat.le_of_ble_eq_true rfl) ?_
  refine am_enter' rfl rfl rfl (by omega) (ls := [some (.int (nI c)), some (.int (nI 97)), some (.int (nI 104))]) rfl (fun d_1 hd_1 => ?_)
  refine am_run 2 (pc' := 2) (ls' := [some (.int (nI c)), some (.int (nI 97)), some (.int (nI 104))]) (st' := [.int (nI 97), .int (nI c)]) (σ' := σ) rfl ?_
  refine am_ic (ty := 14) (tn := 5) rfl (by decide) rfl rfl (fun (h_2 : nI c < nI 97) => ?_) (fun (h_2 : ¬ (nI c < nI 97)) => ?_)
  · have h_2 : c < 97 := (nI_ltI (by omega) (by omega)).mp h_2
    omega
  have h_2 : ¬ (c < 97) := fun z => h_2 ((nI_ltI (by omega) (by omega)).mpr z)
  refine am_run 2 (pc' := 7) (ls' := [some (.int (nI c)), some (.int (nI 97)), some (.int (nI 104))]) (st' := [.int (nI 104), .int (nI c)]) (σ' := σ) rfl ?_
  refine am_ic (ty := 14) (tn := 10) rfl (by decide) rfl rfl (fun (h_3 : nI 104 < nI c) => ?_) (fun (h_3 : ¬ (nI 104 < nI c)) => ?_)
  · have h_3 : 104 < c := (nI_ltI (by omega) (by omega)).mp h_3
    omega
  have h_3 : ¬ (104 < c) := fun z => h_3 ((nI_ltI (by omega) (by omega)).mpr z)
  refine am_run 2 (pc' := 15) (ls' := [some (.int (nI c)), some (.int (nI 97)), some (.int (nI 104))]) (st' := [.int (nI 1)]) (σ' := σ) rfl ?_
  refine am_retz rfl rfl (by decide) ?_
  show am_G _ M_X10_readsSignal _ 8 [some (.ref 0), some (.int (nI c)), none] [.int (nI 1)] σ
  refine am_if (ty := 11) (tn := 13) rfl (by decide) rfl rfl (fun (h_4 : nI 1 = 0) => ?_) (fun (h_4 : ¬ (nI 1 = 0)) => ?_)
  · exact absurd h_4 (by decide)
  refine am_run 3 (pc' := 18) (ls' := [some (.ref 0), some (.int (nI c)), none]) (st' := [.int (σ.1 0 23), .int (nI 2)]) (σ' := σ) rfl ?_
  refine am_top (v' := nI n) h23 ?_
  refine am_invs (y := 158) (as := [.int (nI 2), .int (nI n)]) (rest := []) rfl rfl rfl rfl rfl rfl (Nat.le_of_ble_eq_true rfl) ?_
  refine c_m_placeOf (by omega) (j := 2) ?_
  show am_G _ M_X10_readsSignal _ 21 [some (.ref 0), some (.int (nI c)), none] [.int (nI (120 + n))] σ
  refine am_run 7 (pc' := 31) (ls' := [some (.ref 0), some (.int (nI c)), some (.int (nI (120 + n)))]) (st' := [.int (nI c - nI 97), .int (nI (120 + n)), .ref 6]) (σ' := σ) rfl ?_
  refine am_top (v' := nI (c - 97)) (nx_sub (by omega)) ?_
  refine am_iastN (n := 180) rfl rfl rfl (by omega) (by decide) ?_
  refine am_run 3 (pc' := 37) (ls' := [some (.ref 0), some (.int (nI c)), some (.int (nI (120 + n)))]) (st' := [.int (nI (120 + n)), .ref 5]) (σ' := (am_wr σ 6 (120 + n) (nI (c - 97)))) rfl ?_
  refine am_ialdN (n := 180) (v := nI 33) rfl rfl rfl (by omega) (by rw [am_wr_ne _ (by omega)]; exact h5) (by decide) ?_
  refine am_invs (y := 155) (as := [.int (nI 33)]) (rest := []) rfl rfl rfl rfl rfl rfl (Nat.le_of_ble_eq_true rfl) ?_
  refine am_enter' rfl rfl rfl (by omega) (ls := [some (.int (nI 33))]) rfl (fun d_5 hd_5 => ?_)
  refine am_run 2 (pc' := 3) (ls' := [some (.int (nI 33))]) (st' := [.int (nI 48), .int (nI 33)]) (σ' := (am_wr σ 6 (120 + n) (nI (c - 97)))) rfl ?_
  refine am_ic (ty := 30) (tn := 6) rfl (by decide) rfl rfl (fun (h_6 : nI 33 = nI 48) => ?_) (fun (h_6 : ¬ (nI 33 = nI 48)) => ?_)
  · exact absurd h_6 (by decide)
  refine am_run 2 (pc' := 9) (ls' := [some (.int (nI 33))]) (st' := [.int (nI 46), .int (nI 33)]) (σ' := (am_wr σ 6 (120 + n) (nI (c - 97)))) rfl ?_
  refine am_ic (ty := 30) (tn := 12) rfl (by decide) rfl rfl (fun (h_7 : nI 33 = nI 46) => ?_) (fun (h_7 : ¬ (nI 33 = nI 46)) => ?_)
  · exact absurd h_7 (by decide)
  refine am_run 2 (pc' := 15) (ls' := [some (.int (nI 33))]) (st' := [.int (nI 33), .int (nI 33)]) (σ' := (am_wr σ 6 (120 + n) (nI (c - 97)))) rfl ?_
  refine am_ic (ty := 30) (tn := 18) rfl (by decide) rfl rfl (fun (h_8 : nI 33 = nI 33) => ?_) (fun (h_8 : ¬ (nI 33 = nI 33)) => ?_)
  rotate_left
  · exact absurd (by decide) h_8
  refine am_run 2 (pc' := 35) (ls' := [some (.int (nI 33))]) (st' := [.int (nI 1)]) (σ' := (am_wr σ 6 (120 + n) (nI (c - 97)))) rfl ?_
  refine am_retz rfl rfl (by decide) ?_
  show am_G _ M_X10_readsSignal _ 41 [some (.ref 0), some (.int (nI c)), some (.int (nI (120 + n)))] [.int (nI 1)] (am_wr σ 6 (120 + n) (nI (c - 97)))
  refine am_if (ty := 63) (tn := 44) rfl (by decide) rfl rfl (fun (h_9 : nI 1 = 0) => ?_) (fun (h_9 : ¬ (nI 1 = 0)) => ?_)
  · exact absurd h_9 (by decide)
  refine am_run 3 (pc' := 49) (ls' := [some (.ref 0), some (.int (nI c)), some (.int (nI (120 + n)))]) (st' := [.int (σ.1 0 23), .ref 0]) (σ' := (am_wr σ 6 (120 + n) (nI (c - 97)))) rfl ?_
  refine am_top (v' := nI n) h23 ?_
  refine am_invv (y := 161) (b := 0) (as := [.int (nI n)]) (rest := []) rfl rfl rfl rfl rfl rfl rfl (Nat.le_of_ble_eq_true rfl) ?_
  refine c_m_ends (e := e) (by omega) (by rw [am_wr_ne _ (by omega)]; exact h35) he ?_
  show am_G _ M_X10_readsSignal _ 52 [some (.ref 0), some (.int (nI c)), some (.int (nI (120 + n)))] [] (am_wr (am_wr (am_wr σ 6 (120 + n) (nI (c - 97))) 9 (120 + e) (nI n)) 0 35 (nI (e + 1)))
  refine am_run 3 (pc' := 57) (ls' := [some (.ref 0), some (.int (nI c)), some (.int (nI (120 + n)))]) (st' := [.int (σ.1 0 23), .ref 0]) (σ' := (am_wr (am_wr (am_wr σ 6 (120 + n) (nI (c - 97))) 9 (120 + e) (nI n)) 0 35 (nI (e + 1)))) rfl ?_
  refine am_top (v' := nI n) h23 ?_
  refine am_invv (y := 163) (b := 0) (as := [.int (nI n)]) (rest := []) rfl rfl rfl rfl rfl rfl rfl (Nat.le_of_ble_eq_true rfl) ?_
  refine am_C_to (hq _ (by omega)) (fun v σ2 hv => ?_)
  obtain ⟨rfl, hv⟩ := hv
  show am_G _ M_X10_readsSignal _ 60 [some (.ref 0), some (.int (nI c)), some (.int (nI (120 + n)))] [] σ2
  refine am_run 2 (pc' := 69) (ls' := [some (.ref 0), some (.int (nI c)), some (.int (nI (120 + n)))]) (st' := [.int (nI 0)]) (σ' := σ2) rfl ?_
  refine am_reti rfl rfl ?_
  exact hv
set_option maxRecDepth 10000 in
set_option maxHeartbeats 2000000 in
theorem rs_38 {d : Nat} (hd : 6 ≤ d) {σ : am_M} {c n e : Nat} (hc : 97 ≤ c ∧ c ≤ 104) (h23 : σ.1 0 23 = nI n) (hn : n < 60) (h35 : σ.1 0 35 = nI e) (he : e < 60) (h5 : σ.1 5 (120 + n) = nI 38) {Q : am_Q} (hq : EPq (Q (some (.int (nI 0)))) (am_wr (am_wr (am_wr σ 6 (120 + n) (nI (c - 97))) 9 (120 + e) (nI n)) 0 35 (nI (e + 1))) n) : am_C d 168 [.ref 0, .int (nI c)] σ Q := by
  refine am_enter' (M := M_X10_readsSignal) rfl rfl rfl (by omega) (ls := [some (.ref 0), some (.int (nI c)), none]) rfl (fun d' hd' => ?_)
  refine am_run 3 (pc' := 5) (ls' := [some (.ref 0), some (.int (nI c)), none]) (st' := [.int (nI 104), .int (nI 97), .int (nI c)]) (σ' := σ) rfl ?_
  refine am_invs (y := 148) (as := [.int (nI c), .int (nI 97), .int (nI 104)]) (rest := []) rfl rfl rfl rfl rfl rfl (Nat.le_of_ble_eq_true rfl) ?_
  refine am_enter' rfl rfl rfl (by omega) (ls := [some (.int (nI c)), some (.int (nI 97)), some (.int (nI 104))]) rfl (fun d_1 hd_1 => ?_)
  refine am_run 2 (pc' := 2) (ls' := [some (.int (nI c)), some (.int (nI 97)), some (.int (nI 104))]) (st' := [.int (nI 97), .int (nI c)]) (σ' := σ) rfl ?_
  refine am_ic (ty := 14) (tn := 5) rfl (by decide) rfl rfl (fun (h_2 : nI c < nI 97) => ?_) (fun (h_2 : ¬ (nI c < nI 97)) => ?_)
  · have h_2 : c < 97 := (nI_ltI (by omega) (by omega)).mp h_2
    omega
  have h_2 : ¬ (c < 97) := fun z => h_2 ((nI_ltI (by omega) (by omega)).mpr z)
  refine am_run 2 (pc' := 7) (ls' := [some (.int (nI c)), some (.int (nI 97)), some (.int (nI 104))]) (st' := [.int (nI 104), .int (nI c)]) (σ' := σ) rfl ?_
  refine am_ic (ty := 14) (tn := 10) rfl (by decide) rfl rfl (fun (h_3 : nI 104 < nI c) => ?_) (fun (h_3 : ¬ (nI 104 < nI c)) => ?_)
  · have h_3 : 104 < c := (nI_ltI (by omega) (by omega)).mp h_3
    omega
  have h_3 : ¬ (104 < c) := fun z => h_3 ((nI_ltI (by omega) (by omega)).mpr z)
  refine am_run 2 (pc' := 15) (ls' := [some (.int (nI c)), some (.int (nI 97)), some (.int (nI 104))]) (st' := [.int (nI 1)]) (σ' := σ) rfl ?_
  refine am_retz rfl rfl (by decide) ?_
  show am_G _ M_X10_readsSignal _ 8 [some (.ref 0), some (.int (nI c)), none] [.int (nI 1)] σ
  refine am_if (ty := 11) (tn := 13) rfl (by decide) rfl rfl (fun (h_4 : nI 1 = 0) => ?_) (fun (h_4 : ¬ (nI 1 = 0)) => ?_)
  · exact absurd h_4 (by decide)
  refine am_run 3 (pc' := 18) (ls' := [some (.ref 0), some (.int (nI c)), none]) (st' := [.int (σ.1 0 23), .int (nI 2)]) (σ' := σ) rfl ?_
  refine am_top (v' := nI n) h23 ?_
  refine am_invs (y := 158) (as := [.int (nI 2), .int (nI n)]) (rest := []) rfl rfl rfl rfl rfl rfl (Nat.le_of_ble_eq_true rfl) ?_
  refine c_m_placeOf (by omega) (j := 2) ?_
  show am_G _ M_X10_readsSignal _ 21 [some (.ref 0), some (.int (nI c)), none] [.int (nI (120 + n))] σ
  refine am_run 7 (pc' := 31) (ls' := [some (.ref 0), some (.int (nI c)), some (.int (nI (120 + n)))]) (st' := [.int (nI c - nI 97), .int (nI (120 + n)), .ref 6]) (σ' := σ) rfl ?_
  refine am_top (v' := nI (c - 97)) (nx_sub (by omega)) ?_
  refine am_iastN (n := 180) rfl rfl rfl (by omega) (by decide) ?_
  refine am_run 3 (pc' := 37) (ls' := [some (.ref 0), some (.int (nI c)), some (.int (nI (120 + n)))]) (st' := [.int (nI (120 + n)), .ref 5]) (σ' := (am_wr σ 6 (120 + n) (nI (c - 97)))) rfl ?_
  refine am_ialdN (n := 180) (v := nI 38) rfl rfl rfl (by omega) (by rw [am_wr_ne _ (by omega)]; exact h5) (by decide) ?_
  refine am_invs (y := 155) (as := [.int (nI 38)]) (rest := []) rfl rfl rfl rfl rfl rfl (Nat.le_of_ble_eq_true rfl) ?_
  refine am_enter' rfl rfl rfl (by omega) (ls := [some (.int (nI 38))]) rfl (fun d_5 hd_5 => ?_)
  refine am_run 2 (pc' := 3) (ls' := [some (.int (nI 38))]) (st' := [.int (nI 48), .int (nI 38)]) (σ' := (am_wr σ 6 (120 + n) (nI (c - 97)))) rfl ?_
  refine am_ic (ty := 30) (tn := 6) rfl (by decide) rfl rfl (fun (h_6 : nI 38 = nI 48) => ?_) (fun (h_6 : ¬ (nI 38 = nI 48)) => ?_)
  · exact absurd h_6 (by decide)
  refine am_run 2 (pc' := 9) (ls' := [some (.int (nI 38))]) (st' := [.int (nI 46), .int (nI 38)]) (σ' := (am_wr σ 6 (120 + n) (nI (c - 97)))) rfl ?_
  refine am_ic (ty := 30) (tn := 12) rfl (by decide) rfl rfl (fun (h_7 : nI 38 = nI 46) => ?_) (fun (h_7 : ¬ (nI 38 = nI 46)) => ?_)
  · exact absurd h_7 (by decide)
  refine am_run 2 (pc' := 15) (ls' := [some (.int (nI 38))]) (st' := [.int (nI 33), .int (nI 38)]) (σ' := (am_wr σ 6 (120 + n) (nI (c - 97)))) rfl ?_
  refine am_ic (ty := 30) (tn := 18) rfl (by decide) rfl rfl (fun (h_8 : nI 38 = nI 33) => ?_) (fun (h_8 : ¬ (nI 38 = nI 33)) => ?_)
  · exact absurd h_8 (by decide)
  refine am_run 2 (pc' := 21) (ls' := [some (.int (nI 38))]) (st' := [.int (nI 38), .int (nI 38)]) (σ' := (am_wr σ 6 (120 + n) (nI (c - 97)))) rfl ?_
  refine am_ic (ty := 30) (tn := 24) rfl (by decide) rfl rfl (fun (h_9 : nI 38 = nI 38) => ?_) (fun (h_9 : ¬ (nI 38 = nI 38)) => ?_)
  rotate_left
  · exact absurd (by decide) h_9
  refine am_run 2 (pc' := 35) (ls' := [some (.int (nI 38))]) (st' := [.int (nI 1)]) (σ' := (am_wr σ 6 (120 + n) (nI (c - 97)))) rfl ?_
  refine am_retz rfl rfl (by decide) ?_
  show am_G _ M_X10_readsSignal _ 41 [some (.ref 0), some (.int (nI c)), some (.int (nI (120 + n)))] [.int (nI 1)] (am_wr σ 6 (120 + n) (nI (c - 97)))
  refine am_if (ty := 63) (tn := 44) rfl (by decide) rfl rfl (fun (h_10 : nI 1 = 0) => ?_) (fun (h_10 : ¬ (nI 1 = 0)) => ?_)
  · exact absurd h_10 (by decide)
  refine am_run 3 (pc' := 49) (ls' := [some (.ref 0), some (.int (nI c)), some (.int (nI (120 + n)))]) (st' := [.int (σ.1 0 23), .ref 0]) (σ' := (am_wr σ 6 (120 + n) (nI (c - 97)))) rfl ?_
  refine am_top (v' := nI n) h23 ?_
  refine am_invv (y := 161) (b := 0) (as := [.int (nI n)]) (rest := []) rfl rfl rfl rfl rfl rfl rfl (Nat.le_of_ble_eq_true rfl) ?_
  refine c_m_ends (e := e) (by omega) (by rw [am_wr_ne _ (by omega)]; exact h35) he ?_
  show am_G _ M_X10_readsSignal _ 52 [some (.ref 0), some (.int (nI c)), some (.int (nI (120 + n)))] [] (am_wr (am_wr (am_wr σ 6 (120 + n) (nI (c - 97))) 9 (120 + e) (nI n)) 0 35 (nI (e + 1)))
  refine am_run 3 (pc' := 57) (ls' := [some (.ref 0), some (.int (nI c)), some (.int (nI (120 + n)))]) (st' := [.int (σ.1 0 23), .ref 0]) (σ' := (am_wr (am_wr (am_wr σ 6 (120 + n) (nI (c - 97))) 9 (120 + e) (nI n)) 0 35 (nI (e + 1)))) rfl ?_
  refine am_top (v' := nI n) h23 ?_
  refine am_invv (y := 163) (b := 0) (as := [.int (nI n)]) (rest := []) rfl rfl rfl rfl rfl rfl rfl (Nat.le_of_ble_eq_true rfl) ?_
  refine am_C_to (hq _ (by omega)) (fun v σ2 hv => ?_)
  obtain ⟨rfl, hv⟩ := hv
  show am_G _ M_X10_readsSignal _ 60 [some (.ref 0), some (.int (nI c)), some (.int (nI (120 + n)))] [] σ2
  refine am_run 2 (pc' := 69) (ls' := [some (.ref 0), some (.int (nI c)), some (.int (nI (120 + n)))]) (st' := [.int (nI 0)]) (σ' := σ2) rfl ?_
  refine am_reti rfl rfl ?_
  exact hv
set_option maxRecDepth 10000 in
set_option maxHeartbeats 2000000 in
theorem rs_63 {d : Nat} (hd : 6 ≤ d) {σ : am_M} {c n e : Nat} (hc : 97 ≤ c ∧ c ≤ 104) (h23 : σ.1 0 23 = nI n) (hn : n < 60) (h35 : σ.1 0 35 = nI e) (he : e < 60) (h5 : σ.1 5 (120 + n) = nI 63) {Q : am_Q} (hq : Q (some (.int (nI 0))) (am_wr (am_wr σ 6 (120 + n) (nI (c - 97))) 0 22 (nI 2))) : am_C d 168 [.ref 0, .int (nI c)] σ Q := by
  refine am_enter' (M := M_X10_readsSignal) rfl rfl rfl (by omega) (ls := [some (.ref 0), some (.int (nI c)), none]) rfl (fun d' hd' => ?_)
  refine am_run 3 (pc' := 5) (ls' := [some (.ref 0), some (.int (nI c)), none]) (st' := [.int (nI 104), .int (nI 97), .int (nI c)]) (σ' := σ) rfl ?_
  refine am_invs (y := 148) (as := [.int (nI c), .int (nI 97), .int (nI 104)]) (rest := []) rfl rfl rfl rfl rfl rfl (Nat.le_of_ble_eq_true rfl) ?_
  refine am_enter' rfl rfl rfl (by omega) (ls := [some (.int (nI c)), some (.int (nI 97)), some (.int (nI 104))]) rfl (fun d_1 hd_1 => ?_)
  refine am_run 2 (pc' := 2) (ls' := [some (.int (nI c)), some (.int (nI 97)), some (.int (nI 104))]) (st' := [.int (nI 97), .int (nI c)]) (σ' := σ) rfl ?_
  refine am_ic (ty := 14) (tn := 5) rfl (by decide) rfl rfl (fun (h_2 : nI c < nI 97) => ?_) (fun (h_2 : ¬ (nI c < nI 97)) => ?_)
  · have h_2 : c < 97 := (nI_ltI (by omega) (by omega)).mp h_2
    omega
  have h_2 : ¬ (c < 97) := fun z => h_2 ((nI_ltI (by omega) (by omega)).mpr z)
  refine am_run 2 (pc' := 7) (ls' := [some (.int (nI c)), some (.int (nI 97)), some (.int (nI 104))]) (st' := [.int (nI 104), .int (nI c)]) (σ' := σ) rfl ?_
  refine am_ic (ty := 14) (tn := 10) rfl (by decide) rfl rfl (fun (h_3 : nI 104 < nI c) => ?_) (fun (h_3 : ¬ (nI 104 < nI c)) => ?_)
  · have h_3 : 104 < c := (nI_ltI (by omega) (by omega)).mp h_3
    omega
  have h_3 : ¬ (104 < c) := fun z => h_3 ((nI_ltI (by omega) (by omega)).mpr z)
  refine am_run 2 (pc' := 15) (ls' := [some (.int (nI c)), some (.int (nI 97)), some (.int (nI 104))]) (st' := [.int (nI 1)]) (σ' := σ) rfl ?_
  refine am_retz rfl rfl (by decide) ?_
  show am_G _ M_X10_readsSignal _ 8 [some (.ref 0), some (.int (nI c)), none] [.int (nI 1)] σ
  refine am_if (ty := 11) (tn := 13) rfl (by decide) rfl rfl (fun (h_4 : nI 1 = 0) => ?_) (fun (h_4 : ¬ (nI 1 = 0)) => ?_)
  · exact absurd h_4 (by decide)
  refine am_run 3 (pc' := 18) (ls' := [some (.ref 0), some (.int (nI c)), none]) (st' := [.int (σ.1 0 23), .int (nI 2)]) (σ' := σ) rfl ?_
  refine am_top (v' := nI n) h23 ?_
  refine am_invs (y := 158) (as := [.int (nI 2), .int (nI n)]) (rest := []) rfl rfl rfl rfl rfl rfl (Nat.le_of_ble_eq_true rfl) ?_
  refine c_m_placeOf (by omega) (j := 2) ?_
  show am_G _ M_X10_readsSignal _ 21 [some (.ref 0), some (.int (nI c)), none] [.int (nI (120 + n))] σ
  refine am_run 7 (pc' := 31) (ls' := [some (.ref 0), some (.int (nI c)), some (.int (nI (120 + n)))]) (st' := [.int (nI c - nI 97), .int (nI (120 + n)), .ref 6]) (σ' := σ) rfl ?_
  refine am_top (v' := nI (c - 97)) (nx_sub (by omega)) ?_
  refine am_iastN (n := 180) rfl rfl rfl (by omega) (by decide) ?_
  refine am_run 3 (pc' := 37) (ls' := [some (.ref 0), some (.int (nI c)), some (.int (nI (120 + n)))]) (st' := [.int (nI (120 + n)), .ref 5]) (σ' := (am_wr σ 6 (120 + n) (nI (c - 97)))) rfl ?_
  refine am_ialdN (n := 180) (v := nI 63) rfl rfl rfl (by omega) (by rw [am_wr_ne _ (by omega)]; exact h5) (by decide) ?_
  refine am_invs (y := 155) (as := [.int (nI 63)]) (rest := []) rfl rfl rfl rfl rfl rfl (Nat.le_of_ble_eq_true rfl) ?_
  refine am_enter' rfl rfl rfl (by omega) (ls := [some (.int (nI 63))]) rfl (fun d_5 hd_5 => ?_)
  refine am_run 2 (pc' := 3) (ls' := [some (.int (nI 63))]) (st' := [.int (nI 48), .int (nI 63)]) (σ' := (am_wr σ 6 (120 + n) (nI (c - 97)))) rfl ?_
  refine am_ic (ty := 30) (tn := 6) rfl (by decide) rfl rfl (fun (h_6 : nI 63 = nI 48) => ?_) (fun (h_6 : ¬ (nI 63 = nI 48)) => ?_)
  · exact absurd h_6 (by decide)
  refine am_run 2 (pc' := 9) (ls' := [some (.int (nI 63))]) (st' := [.int (nI 46), .int (nI 63)]) (σ' := (am_wr σ 6 (120 + n) (nI (c - 97)))) rfl ?_
  refine am_ic (ty := 30) (tn := 12) rfl (by decide) rfl rfl (fun (h_7 : nI 63 = nI 46) => ?_) (fun (h_7 : ¬ (nI 63 = nI 46)) => ?_)
  · exact absurd h_7 (by decide)
  refine am_run 2 (pc' := 15) (ls' := [some (.int (nI 63))]) (st' := [.int (nI 33), .int (nI 63)]) (σ' := (am_wr σ 6 (120 + n) (nI (c - 97)))) rfl ?_
  refine am_ic (ty := 30) (tn := 18) rfl (by decide) rfl rfl (fun (h_8 : nI 63 = nI 33) => ?_) (fun (h_8 : ¬ (nI 63 = nI 33)) => ?_)
  · exact absurd h_8 (by decide)
  refine am_run 2 (pc' := 21) (ls' := [some (.int (nI 63))]) (st' := [.int (nI 38), .int (nI 63)]) (σ' := (am_wr σ 6 (120 + n) (nI (c - 97)))) rfl ?_
  refine am_ic (ty := 30) (tn := 24) rfl (by decide) rfl rfl (fun (h_9 : nI 63 = nI 38) => ?_) (fun (h_9 : ¬ (nI 63 = nI 38)) => ?_)
  · exact absurd h_9 (by decide)
  refine am_run 2 (pc' := 27) (ls' := [some (.int (nI 63))]) (st' := [.int (nI 120), .int (nI 63)]) (σ' := (am_wr σ 6 (120 + n) (nI (c - 97)))) rfl ?_
  refine am_ic (ty := 30) (tn := 34) rfl (by decide) rfl rfl (fun (h_10 : nI 63 = nI 120) => ?_) (fun (h_10 : ¬ (nI 63 = nI 120)) => ?_)
  · exact absurd h_10 (by decide)
  refine am_run 1 (pc' := 35) (ls' := [some (.int (nI 63))]) (st' := [.int (nI 0)]) (σ' := (am_wr σ 6 (120 + n) (nI (c - 97)))) rfl ?_
  refine am_retz rfl rfl (by decide) ?_
  show am_G _ M_X10_readsSignal _ 41 [some (.ref 0), some (.int (nI c)), some (.int (nI (120 + n)))] [.int (nI 0)] (am_wr σ 6 (120 + n) (nI (c - 97)))
  refine am_if (ty := 63) (tn := 44) rfl (by decide) rfl rfl (fun (h_11 : nI 0 = 0) => ?_) (fun (h_11 : ¬ (nI 0 = 0)) => ?_)
  rotate_left
  · exact absurd (by decide) h_11
  refine am_run 4 (pc' := 69) (ls' := [some (.ref 0), some (.int (nI c)), some (.int (nI (120 + n)))]) (st' := [.int (nI 0)]) (σ' := (am_wr (am_wr σ 6 (120 + n) (nI (c - 97))) 0 22 (nI 2))) rfl ?_
  refine am_reti rfl rfl ?_
  exact hq
set_option maxRecDepth 10000 in
set_option maxHeartbeats 2000000 in
theorem rs_64 {d : Nat} (hd : 6 ≤ d) {σ : am_M} {c n e : Nat} (hc : 97 ≤ c ∧ c ≤ 104) (h23 : σ.1 0 23 = nI n) (hn : n < 60) (h35 : σ.1 0 35 = nI e) (he : e < 60) (h5 : σ.1 5 (120 + n) = nI 64) {Q : am_Q} (hq : Q (some (.int (nI 0))) (am_wr (am_wr σ 6 (120 + n) (nI (c - 97))) 0 22 (nI 2))) : am_C d 168 [.ref 0, .int (nI c)] σ Q := by
  refine am_enter' (M := M_X10_readsSignal) rfl rfl rfl (by omega) (ls := [some (.ref 0), some (.int (nI c)), none]) rfl (fun d' hd' => ?_)
  refine am_run 3 (pc' := 5) (ls' := [some (.ref 0), some (.int (nI c)), none]) (st' := [.int (nI 104), .int (nI 97), .int (nI c)]) (σ' := σ) rfl ?_
  refine am_invs (y := 148) (as := [.int (nI c), .int (nI 97), .int (nI 104)]) (rest := []) rfl rfl rfl rfl rfl rfl (Nat.le_of_ble_eq_true rfl) ?_
  refine am_enter' rfl rfl rfl (by omega) (ls := [some (.int (nI c)), some (.int (nI 97)), some (.int (nI 104))]) rfl (fun d_1 hd_1 => ?_)
  refine am_run 2 (pc' := 2) (ls' := [some (.int (nI c)), some (.int (nI 97)), some (.int (nI 104))]) (st' := [.int (nI 97), .int (nI c)]) (σ' := σ) rfl ?_
  refine am_ic (ty := 14) (tn := 5) rfl (by decide) rfl rfl (fun (h_2 : nI c < nI 97) => ?_) (fun (h_2 : ¬ (nI c < nI 97)) => ?_)
  · have h_2 : c < 97 := (nI_ltI (by omega) (by omega)).mp h_2
    omega
  have h_2 : ¬ (c < 97) := fun z => h_2 ((nI_ltI (by omega) (by omega)).mpr z)
  refine am_run 2 (pc' := 7) (ls' := [some (.int (nI c)), some (.int (nI 97)), some (.int (nI 104))]) (st' := [.int (nI 104), .int (nI c)]) (σ' := σ) rfl ?_
  refine am_ic (ty := 14) (tn := 10) rfl (by decide) rfl rfl (fun (h_3 : nI 104 < nI c) => ?_) (fun (h_3 : ¬ (nI 104 < nI c)) => ?_)
  · have h_3 : 104 < c := (nI_ltI (by omega) (by omega)).mp h_3
    omega
  have h_3 : ¬ (104 < c) := fun z => h_3 ((nI_ltI (by omega) (by omega)).mpr z)
  refine am_run 2 (pc' := 15) (ls' := [some (.int (nI c)), some (.int (nI 97)), some (.int (nI 104))]) (st' := [.int (nI 1)]) (σ' := σ) rfl ?_
  refine am_retz rfl rfl (by decide) ?_
  show am_G _ M_X10_readsSignal _ 8 [some (.ref 0), some (.int (nI c)), none] [.int (nI 1)] σ
  refine am_if (ty := 11) (tn := 13) rfl (by decide) rfl rfl (fun (h_4 : nI 1 = 0) => ?_) (fun (h_4 : ¬ (nI 1 = 0)) => ?_)
  · exact absurd h_4 (by decide)
  refine am_run 3 (pc' := 18) (ls' := [some (.ref 0), some (.int (nI c)), none]) (st' := [.int (σ.1 0 23), .int (nI 2)]) (σ' := σ) rfl ?_
  refine am_top (v' := nI n) h23 ?_
  refine am_invs (y := 158) (as := [.int (nI 2), .int (nI n)]) (rest := []) rfl rfl rfl rfl rfl rfl (Nat.le_of_ble_eq_true rfl) ?_
  refine c_m_placeOf (by omega) (j := 2) ?_
  show am_G _ M_X10_readsSignal _ 21 [some (.ref 0), some (.int (nI c)), none] [.int (nI (120 + n))] σ
  refine am_run 7 (pc' := 31) (ls' := [some (.ref 0), some (.int (nI c)), some (.int (nI (120 + n)))]) (st' := [.int (nI c - nI 97), .int (nI (120 + n)), .ref 6]) (σ' := σ) rfl ?_
  refine am_top (v' := nI (c - 97)) (nx_sub (by omega)) ?_
  refine am_iastN (n := 180) rfl rfl rfl (by omega) (by decide) ?_
  refine am_run 3 (pc' := 37) (ls' := [some (.ref 0), some (.int (nI c)), some (.int (nI (120 + n)))]) (st' := [.int (nI (120 + n)), .ref 5]) (σ' := (am_wr σ 6 (120 + n) (nI (c - 97)))) rfl ?_
  refine am_ialdN (n := 180) (v := nI 64) rfl rfl rfl (by omega) (by rw [am_wr_ne _ (by omega)]; exact h5) (by decide) ?_
  refine am_invs (y := 155) (as := [.int (nI 64)]) (rest := []) rfl rfl rfl rfl rfl rfl (Nat.le_of_ble_eq_true rfl) ?_
  refine am_enter' rfl rfl rfl (by omega) (ls := [some (.int (nI 64))]) rfl (fun d_5 hd_5 => ?_)
  refine am_run 2 (pc' := 3) (ls' := [some (.int (nI 64))]) (st' := [.int (nI 48), .int (nI 64)]) (σ' := (am_wr σ 6 (120 + n) (nI (c - 97)))) rfl ?_
  refine am_ic (ty := 30) (tn := 6) rfl (by decide) rfl rfl (fun (h_6 : nI 64 = nI 48) => ?_) (fun (h_6 : ¬ (nI 64 = nI 48)) => ?_)
  · exact absurd h_6 (by decide)
  refine am_run 2 (pc' := 9) (ls' := [some (.int (nI 64))]) (st' := [.int (nI 46), .int (nI 64)]) (σ' := (am_wr σ 6 (120 + n) (nI (c - 97)))) rfl ?_
  refine am_ic (ty := 30) (tn := 12) rfl (by decide) rfl rfl (fun (h_7 : nI 64 = nI 46) => ?_) (fun (h_7 : ¬ (nI 64 = nI 46)) => ?_)
  · exact absurd h_7 (by decide)
  refine am_run 2 (pc' := 15) (ls' := [some (.int (nI 64))]) (st' := [.int (nI 33), .int (nI 64)]) (σ' := (am_wr σ 6 (120 + n) (nI (c - 97)))) rfl ?_
  refine am_ic (ty := 30) (tn := 18) rfl (by decide) rfl rfl (fun (h_8 : nI 64 = nI 33) => ?_) (fun (h_8 : ¬ (nI 64 = nI 33)) => ?_)
  · exact absurd h_8 (by decide)
  refine am_run 2 (pc' := 21) (ls' := [some (.int (nI 64))]) (st' := [.int (nI 38), .int (nI 64)]) (σ' := (am_wr σ 6 (120 + n) (nI (c - 97)))) rfl ?_
  refine am_ic (ty := 30) (tn := 24) rfl (by decide) rfl rfl (fun (h_9 : nI 64 = nI 38) => ?_) (fun (h_9 : ¬ (nI 64 = nI 38)) => ?_)
  · exact absurd h_9 (by decide)
  refine am_run 2 (pc' := 27) (ls' := [some (.int (nI 64))]) (st' := [.int (nI 120), .int (nI 64)]) (σ' := (am_wr σ 6 (120 + n) (nI (c - 97)))) rfl ?_
  refine am_ic (ty := 30) (tn := 34) rfl (by decide) rfl rfl (fun (h_10 : nI 64 = nI 120) => ?_) (fun (h_10 : ¬ (nI 64 = nI 120)) => ?_)
  · exact absurd h_10 (by decide)
  refine am_run 1 (pc' := 35) (ls' := [some (.int (nI 64))]) (st' := [.int (nI 0)]) (σ' := (am_wr σ 6 (120 + n) (nI (c - 97)))) rfl ?_
  refine am_retz rfl rfl (by decide) ?_
  show am_G _ M_X10_readsSignal _ 41 [some (.ref 0), some (.int (nI c)), some (.int (nI (120 + n)))] [.int (nI 0)] (am_wr σ 6 (120 + n) (nI (c - 97)))
  refine am_if (ty := 63) (tn := 44) rfl (by decide) rfl rfl (fun (h_11 : nI 0 = 0) => ?_) (fun (h_11 : ¬ (nI 0 = 0)) => ?_)
  rotate_left
  · exact absurd (by decide) h_11
  refine am_run 4 (pc' := 69) (ls' := [some (.ref 0), some (.int (nI c)), some (.int (nI (120 + n)))]) (st' := [.int (nI 0)]) (σ' := (am_wr (am_wr σ 6 (120 + n) (nI (c - 97))) 0 22 (nI 2))) rfl ?_
  refine am_reti rfl rfl ?_
  exact hq
set_option maxRecDepth 10000 in
set_option maxHeartbeats 2000000 in
theorem rs_126 {d : Nat} (hd : 6 ≤ d) {σ : am_M} {c n e : Nat} (hc : 97 ≤ c ∧ c ≤ 104) (h23 : σ.1 0 23 = nI n) (hn : n < 60) (h35 : σ.1 0 35 = nI e) (he : e < 60) (h5 : σ.1 5 (120 + n) = nI 126) {Q : am_Q} (hq : Q (some (.int (nI 0))) (am_wr (am_wr σ 6 (120 + n) (nI (c - 97))) 0 22 (nI 2))) : am_C d 168 [.ref 0, .int (nI c)] σ Q := by
  refine am_enter' (M := M_X10_readsSignal) rfl rfl rfl (by omega) (ls := [some (.ref 0), some (.int (nI c)), none]) rfl (fun d' hd' => ?_)
  refine am_run 3 (pc' := 5) (ls' := [some (.ref 0), some (.int (nI c)), none]) (st' := [.int (nI 104), .int (nI 97), .int (nI c)]) (σ' := σ) rfl ?_
  refine am_invs (y := 148) (as := [.int (nI c), .int (nI 97), .int (nI 104)]) (rest := []) rfl rfl rfl rfl rfl rfl (Nat.le_of_ble_eq_true rfl) ?_
  refine am_enter' rfl rfl rfl (by omega) (ls := [some (.int (nI c)), some (.int (nI 97)), some (.int (nI 104))]) rfl (fun d_1 hd_1 => ?_)
  refine am_run 2 (pc' := 2) (ls' := [some (.int (nI c)), some (.int (nI 97)), some (.int (nI 104))]) (st' := [.int (nI 97), .int (nI c)]) (σ' := σ) rfl ?_
  refine am_ic (ty := 14) (tn := 5) rfl (by decide) rfl rfl (fun (h_2 : nI c < nI 97) => ?_) (fun (h_2 : ¬ (nI c < nI 97)) => ?_)
  · have h_2 : c < 97 := (nI_ltI (by omega) (by omega)).mp h_2
    omega
  have h_2 : ¬ (c < 97) := fun z => h_2 ((nI_ltI (by omega) (by omega)).mpr z)
  refine am_run 2 (pc' := 7) (ls' := [some (.int (nI c)), some (.int (nI 97)), some (.int (nI 104))]) (st' := [.int (nI 104), .int (nI c)]) (σ' := σ) rfl ?_
  refine am_ic (ty := 14) (tn := 10) rfl (by decide) rfl rfl (fun (h_3 : nI 104 < nI c) => ?_) (fun (h_3 : ¬ (nI 104 < nI c)) => ?_)
  · have h_3 : 104 < c := (nI_ltI (by omega) (by omega)).mp h_3
    omega
  have h_3 : ¬ (104 < c) := fun z => h_3 ((nI_ltI (by omega) (by omega)).mpr z)
  refine am_run 2 (pc' := 15) (ls' := [some (.int (nI c)), some (.int (nI 97)), some (.int (nI 104))]) (st' := [.int (nI 1)]) (σ' := σ) rfl ?_
  refine am_retz rfl rfl (by decide) ?_
  show am_G _ M_X10_readsSignal _ 8 [some (.ref 0), some (.int (nI c)), none] [.int (nI 1)] σ
  refine am_if (ty := 11) (tn := 13) rfl (by decide) rfl rfl (fun (h_4 : nI 1 = 0) => ?_) (fun (h_4 : ¬ (nI 1 = 0)) => ?_)
  · exact absurd h_4 (by decide)
  refine am_run 3 (pc' := 18) (ls' := [some (.ref 0), some (.int (nI c)), none]) (st' := [.int (σ.1 0 23), .int (nI 2)]) (σ' := σ) rfl ?_
  refine am_top (v' := nI n) h23 ?_
  refine am_invs (y := 158) (as := [.int (nI 2), .int (nI n)]) (rest := []) rfl rfl rfl rfl rfl rfl (Nat.le_of_ble_eq_true rfl) ?_
  refine c_m_placeOf (by omega) (j := 2) ?_
  show am_G _ M_X10_readsSignal _ 21 [some (.ref 0), some (.int (nI c)), none] [.int (nI (120 + n))] σ
  refine am_run 7 (pc' := 31) (ls' := [some (.ref 0), some (.int (nI c)), some (.int (nI (120 + n)))]) (st' := [.int (nI c - nI 97), .int (nI (120 + n)), .ref 6]) (σ' := σ) rfl ?_
  refine am_top (v' := nI (c - 97)) (nx_sub (by omega)) ?_
  refine am_iastN (n := 180) rfl rfl rfl (by omega) (by decide) ?_
  refine am_run 3 (pc' := 37) (ls' := [some (.ref 0), some (.int (nI c)), some (.int (nI (120 + n)))]) (st' := [.int (nI (120 + n)), .ref 5]) (σ' := (am_wr σ 6 (120 + n) (nI (c - 97)))) rfl ?_
  refine am_ialdN (n := 180) (v := nI 126) rfl rfl rfl (by omega) (by rw [am_wr_ne _ (by omega)]; exact h5) (by decide) ?_
  refine am_invs (y := 155) (as := [.int (nI 126)]) (rest := []) rfl rfl rfl rfl rfl rfl (Nat.le_of_ble_eq_true rfl) ?_
  refine am_enter' rfl rfl rfl (by omega) (ls := [some (.int (nI 126))]) rfl (fun d_5 hd_5 => ?_)
  refine am_run 2 (pc' := 3) (ls' := [some (.int (nI 126))]) (st' := [.int (nI 48), .int (nI 126)]) (σ' := (am_wr σ 6 (120 + n) (nI (c - 97)))) rfl ?_
  refine am_ic (ty := 30) (tn := 6) rfl (by decide) rfl rfl (fun (h_6 : nI 126 = nI 48) => ?_) (fun (h_6 : ¬ (nI 126 = nI 48)) => ?_)
  · exact absurd h_6 (by decide)
  refine am_run 2 (pc' := 9) (ls' := [some (.int (nI 126))]) (st' := [.int (nI 46), .int (nI 126)]) (σ' := (am_wr σ 6 (120 + n) (nI (c - 97)))) rfl ?_
  refine am_ic (ty := 30) (tn := 12) rfl (by decide) rfl rfl (fun (h_7 : nI 126 = nI 46) => ?_) (fun (h_7 : ¬ (nI 126 = nI 46)) => ?_)
  · exact absurd h_7 (by decide)
  refine am_run 2 (pc' := 15) (ls' := [some (.int (nI 126))]) (st' := [.int (nI 33), .int (nI 126)]) (σ' := (am_wr σ 6 (120 + n) (nI (c - 97)))) rfl ?_
  refine am_ic (ty := 30) (tn := 18) rfl (by decide) rfl rfl (fun (h_8 : nI 126 = nI 33) => ?_) (fun (h_8 : ¬ (nI 126 = nI 33)) => ?_)
  · exact absurd h_8 (by decide)
  refine am_run 2 (pc' := 21) (ls' := [some (.int (nI 126))]) (st' := [.int (nI 38), .int (nI 126)]) (σ' := (am_wr σ 6 (120 + n) (nI (c - 97)))) rfl ?_
  refine am_ic (ty := 30) (tn := 24) rfl (by decide) rfl rfl (fun (h_9 : nI 126 = nI 38) => ?_) (fun (h_9 : ¬ (nI 126 = nI 38)) => ?_)
  · exact absurd h_9 (by decide)
  refine am_run 2 (pc' := 27) (ls' := [some (.int (nI 126))]) (st' := [.int (nI 120), .int (nI 126)]) (σ' := (am_wr σ 6 (120 + n) (nI (c - 97)))) rfl ?_
  refine am_ic (ty := 30) (tn := 34) rfl (by decide) rfl rfl (fun (h_10 : nI 126 = nI 120) => ?_) (fun (h_10 : ¬ (nI 126 = nI 120)) => ?_)
  · exact absurd h_10 (by decide)
  refine am_run 1 (pc' := 35) (ls' := [some (.int (nI 126))]) (st' := [.int (nI 0)]) (σ' := (am_wr σ 6 (120 + n) (nI (c - 97)))) rfl ?_
  refine am_retz rfl rfl (by decide) ?_
  show am_G _ M_X10_readsSignal _ 41 [some (.ref 0), some (.int (nI c)), some (.int (nI (120 + n)))] [.int (nI 0)] (am_wr σ 6 (120 + n) (nI (c - 97)))
  refine am_if (ty := 63) (tn := 44) rfl (by decide) rfl rfl (fun (h_11 : nI 0 = 0) => ?_) (fun (h_11 : ¬ (nI 0 = 0)) => ?_)
  rotate_left
  · exact absurd (by decide) h_11
  refine am_run 4 (pc' := 69) (ls' := [some (.ref 0), some (.int (nI c)), some (.int (nI (120 + n)))]) (st' := [.int (nI 0)]) (σ' := (am_wr (am_wr σ 6 (120 + n) (nI (c - 97))) 0 22 (nI 2))) rfl ?_
  refine am_reti rfl rfl ?_
  exact hq
set_option maxRecDepth 10000 in
set_option maxHeartbeats 2000000 in
theorem rs_36 {d : Nat} (hd : 6 ≤ d) {σ : am_M} {c n e : Nat} (hc : 97 ≤ c ∧ c ≤ 104) (h23 : σ.1 0 23 = nI n) (hn : n < 60) (h35 : σ.1 0 35 = nI e) (he : e < 60) (h5 : σ.1 5 (120 + n) = nI 36) {Q : am_Q} (hq : Q (some (.int (nI 0))) (am_wr (am_wr σ 6 (120 + n) (nI (c - 97))) 0 22 (nI 2))) : am_C d 168 [.ref 0, .int (nI c)] σ Q := by
  refine am_enter' (M := M_X10_readsSignal) rfl rfl rfl (by omega) (ls := [some (.ref 0), some (.int (nI c)), none]) rfl (fun d' hd' => ?_)
  refine am_run 3 (pc' := 5) (ls' := [some (.ref 0), some (.int (nI c)), none]) (st' := [.int (nI 104), .int (nI 97), .int (nI c)]) (σ' := σ) rfl ?_
  refine am_invs (y := 148) (as := [.int (nI c), .int (nI 97), .int (nI 104)]) (rest := []) rfl rfl rfl rfl rfl rfl (Nat.le_of_ble_eq_true rfl) ?_
  refine am_enter' rfl rfl rfl (by omega) (ls := [some (.int (nI c)), some (.int (nI 97)), some (.int (nI 104))]) rfl (fun d_1 hd_1 => ?_)
  refine am_run 2 (pc' := 2) (ls' := [some (.int (nI c)), some (.int (nI 97)), some (.int (nI 104))]) (st' := [.int (nI 97), .int (nI c)]) (σ' := σ) rfl ?_
  refine am_ic (ty := 14) (tn := 5) rfl (by decide) rfl rfl (fun (h_2 : nI c < nI 97) => ?_) (fun (h_2 : ¬ (nI c < nI 97)) => ?_)
  · have h_2 : c < 97 := (nI_ltI (by omega) (by omega)).mp h_2
    omega
  have h_2 : ¬ (c < 97) := fun z => h_2 ((nI_ltI (by omega) (by omega)).mpr z)
  refine am_run 2 (pc' := 7) (ls' := [some (.int (nI c)), some (.int (nI 97)), some (.int (nI 104))]) (st' := [.int (nI 104), .int (nI c)]) (σ' := σ) rfl ?_
  refine am_ic (ty := 14) (tn := 10) rfl (by decide) rfl rfl (fun (h_3 : nI 104 < nI c) => ?_) (fun (h_3 : ¬ (nI 104 < nI c)) => ?_)
  · have h_3 : 104 < c := (nI_ltI (by omega) (by omega)).mp h_3
    omega
  have h_3 : ¬ (104 < c) := fun z => h_3 ((nI_ltI (by omega) (by omega)).mpr z)
  refine am_run 2 (pc' := 15) (ls' := [some (.int (nI c)), some (.int (nI 97)), some (.int (nI 104))]) (st' := [.int (nI 1)]) (σ' := σ) rfl ?_
  refine am_retz rfl rfl (by decide) ?_
  show am_G _ M_X10_readsSignal _ 8 [some (.ref 0), some (.int (nI c)), none] [.int (nI 1)] σ
  refine am_if (ty := 11) (tn := 13) rfl (by decide) rfl rfl (fun (h_4 : nI 1 = 0) => ?_) (fun (h_4 : ¬ (nI 1 = 0)) => ?_)
  · exact absurd h_4 (by decide)
  refine am_run 3 (pc' := 18) (ls' := [some (.ref 0), some (.int (nI c)), none]) (st' := [.int (σ.1 0 23), .int (nI 2)]) (σ' := σ) rfl ?_
  refine am_top (v' := nI n) h23 ?_
  refine am_invs (y := 158) (as := [.int (nI 2), .int (nI n)]) (rest := []) rfl rfl rfl rfl rfl rfl (Nat.le_of_ble_eq_true rfl) ?_
  refine c_m_placeOf (by omega) (j := 2) ?_
  show am_G _ M_X10_readsSignal _ 21 [some (.ref 0), some (.int (nI c)), none] [.int (nI (120 + n))] σ
  refine am_run 7 (pc' := 31) (ls' := [some (.ref 0), some (.int (nI c)), some (.int (nI (120 + n)))]) (st' := [.int (nI c - nI 97), .int (nI (120 + n)), .ref 6]) (σ' := σ) rfl ?_
  refine am_top (v' := nI (c - 97)) (nx_sub (by omega)) ?_
  refine am_iastN (n := 180) rfl rfl rfl (by omega) (by decide) ?_
  refine am_run 3 (pc' := 37) (ls' := [some (.ref 0), some (.int (nI c)), some (.int (nI (120 + n)))]) (st' := [.int (nI (120 + n)), .ref 5]) (σ' := (am_wr σ 6 (120 + n) (nI (c - 97)))) rfl ?_
  refine am_ialdN (n := 180) (v := nI 36) rfl rfl rfl (by omega) (by rw [am_wr_ne _ (by omega)]; exact h5) (by decide) ?_
  refine am_invs (y := 155) (as := [.int (nI 36)]) (rest := []) rfl rfl rfl rfl rfl rfl (Nat.le_of_ble_eq_true rfl) ?_
  refine am_enter' rfl rfl rfl (by omega) (ls := [some (.int (nI 36))]) rfl (fun d_5 hd_5 => ?_)
  refine am_run 2 (pc' := 3) (ls' := [some (.int (nI 36))]) (st' := [.int (nI 48), .int (nI 36)]) (σ' := (am_wr σ 6 (120 + n) (nI (c - 97)))) rfl ?_
  refine am_ic (ty := 30) (tn := 6) rfl (by decide) rfl rfl (fun (h_6 : nI 36 = nI 48) => ?_) (fun (h_6 : ¬ (nI 36 = nI 48)) => ?_)
  · exact absurd h_6 (by decide)
  refine am_run 2 (pc' := 9) (ls' := [some (.int (nI 36))]) (st' := [.int (nI 46), .int (nI 36)]) (σ' := (am_wr σ 6 (120 + n) (nI (c - 97)))) rfl ?_
  refine am_ic (ty := 30) (tn := 12) rfl (by decide) rfl rfl (fun (h_7 : nI 36 = nI 46) => ?_) (fun (h_7 : ¬ (nI 36 = nI 46)) => ?_)
  · exact absurd h_7 (by decide)
  refine am_run 2 (pc' := 15) (ls' := [some (.int (nI 36))]) (st' := [.int (nI 33), .int (nI 36)]) (σ' := (am_wr σ 6 (120 + n) (nI (c - 97)))) rfl ?_
  refine am_ic (ty := 30) (tn := 18) rfl (by decide) rfl rfl (fun (h_8 : nI 36 = nI 33) => ?_) (fun (h_8 : ¬ (nI 36 = nI 33)) => ?_)
  · exact absurd h_8 (by decide)
  refine am_run 2 (pc' := 21) (ls' := [some (.int (nI 36))]) (st' := [.int (nI 38), .int (nI 36)]) (σ' := (am_wr σ 6 (120 + n) (nI (c - 97)))) rfl ?_
  refine am_ic (ty := 30) (tn := 24) rfl (by decide) rfl rfl (fun (h_9 : nI 36 = nI 38) => ?_) (fun (h_9 : ¬ (nI 36 = nI 38)) => ?_)
  · exact absurd h_9 (by decide)
  refine am_run 2 (pc' := 27) (ls' := [some (.int (nI 36))]) (st' := [.int (nI 120), .int (nI 36)]) (σ' := (am_wr σ 6 (120 + n) (nI (c - 97)))) rfl ?_
  refine am_ic (ty := 30) (tn := 34) rfl (by decide) rfl rfl (fun (h_10 : nI 36 = nI 120) => ?_) (fun (h_10 : ¬ (nI 36 = nI 120)) => ?_)
  · exact absurd h_10 (by decide)
  refine am_run 1 (pc' := 35) (ls' := [some (.int (nI 36))]) (st' := [.int (nI 0)]) (σ' := (am_wr σ 6 (120 + n) (nI (c - 97)))) rfl ?_
  refine am_retz rfl rfl (by decide) ?_
  show am_G _ M_X10_readsSignal _ 41 [some (.ref 0), some (.int (nI c)), some (.int (nI (120 + n)))] [.int (nI 0)] (am_wr σ 6 (120 + n) (nI (c - 97)))
  refine am_if (ty := 63) (tn := 44) rfl (by decide) rfl rfl (fun (h_11 : nI 0 = 0) => ?_) (fun (h_11 : ¬ (nI 0 = 0)) => ?_)
  rotate_left
  · exact absurd (by decide) h_11
  refine am_run 4 (pc' := 69) (ls' := [some (.ref 0), some (.int (nI c)), some (.int (nI (120 + n)))]) (st' := [.int (nI 0)]) (σ' := (am_wr (am_wr σ 6 (120 + n) (nI (c - 97))) 0 22 (nI 2))) rfl ?_
  refine am_reti rfl rfl ?_
  exact hq
set_option maxRecDepth 10000 in
set_option maxHeartbeats 2000000 in
theorem rf_bad {d : Nat} (hd : 2 ≤ d) {σ : am_M} {c : Nat} (hc : c < 256) (hb : c < 48 ∨ 52 < c) {Q : am_Q} (hq : Q (some (.int (nI 1))) σ) : am_C d 169 [.ref 0, .int (nI c)] σ Q := by
  by_cases hlo : c < 48
  · refine am_enter' (M := M_X10_readsFigure) rfl rfl rfl (by omega) (ls := [some (.ref 0), some (.int (nI c))]) rfl (fun d' hd' => ?_)
    refine am_run 3 (pc' := 5) (ls' := [some (.ref 0), some (.int (nI c))]) (st' := [.int (nI 52), .int (nI 48), .int (nI c)]) (σ' := σ) rfl ?_
    refine am_invs (y := 148) (as := [.int (nI c), .int (nI 48), .int (nI 52)]) (rest := []) rfl rfl rfl rfl rfl rfl (Nat.le_of_ble_eq_true rfl) ?_
    refine am_enter' rfl rfl rfl (by omega) (ls := [some (.int (nI c)), some (.int (nI 48)), some (.int (nI 52))]) rfl (fun d_1 hd_1 => ?_)
    refine am_run 2 (pc' := 2) (ls' := [some (.int (nI c)), some (.int (nI 48)), some (.int (nI 52))]) (st' := [.int (nI 48), .int (nI c)]) (σ' := σ) rfl ?_
    refine am_ic (ty := 14) (tn := 5) rfl (by decide) rfl rfl (fun (h_2 : nI c < nI 48) => ?_) (fun (h_2 : ¬ (nI c < nI 48)) => ?_)
    rotate_left
    · have h_2 : ¬ (c < 48) := fun z => h_2 ((nI_ltI (by omega) (by omega)).mpr z)
      omega
    have h_2 : c < 48 := (nI_ltI (by omega) (by omega)).mp h_2
    refine am_run 1 (pc' := 15) (ls' := [some (.int (nI c)), some (.int (nI 48)), some (.int (nI 52))]) (st' := [.int (nI 0)]) (σ' := σ) rfl ?_
    refine am_retz rfl rfl (by decide) ?_
    show am_G _ M_X10_readsFigure _ 8 [some (.ref 0), some (.int (nI c))] [.int (nI 0)] σ
    refine am_if (ty := 11) (tn := 13) rfl (by decide) rfl rfl (fun (h_3 : nI 0 = 0) => ?_) (fun (h_3 : ¬ (nI 0 = 0)) => ?_)
    rotate_left
    · exact absurd (by decide) h_3
    refine am_run 1 (pc' := 12) (ls' := [some (.ref 0), some (.int (nI c))]) (st' := [.int (nI 1)]) (σ' := σ) rfl ?_
    refine am_reti rfl rfl ?_
    exact hq
  · refine am_enter' (M := M_X10_readsFigure) rfl rfl rfl (by omega) (ls := [some (.ref 0), some (.int (nI c))]) rfl (fun d' hd' => ?_)
    refine am_run 3 (pc' := 5) (ls' := [some (.ref 0), some (.int (nI c))]) (st' := [.int (nI 52), .int (nI 48), .int (nI c)]) (σ' := σ) rfl ?_
    refine am_invs (y := 148) (as := [.int (nI c), .int (nI 48), .int (nI 52)]) (rest := []) rfl rfl rfl rfl rfl rfl (Nat.le_of_ble_eq_true rfl) ?_
    refine am_enter' rfl rfl rfl (by omega) (ls := [some (.int (nI c)), some (.int (nI 48)), some (.int (nI 52))]) rfl (fun d_1 hd_1 => ?_)
    refine am_run 2 (pc' := 2) (ls' := [some (.int (nI c)), some (.int (nI 48)), some (.int (nI 52))]) (st' := [.int (nI 48), .int (nI c)]) (σ' := σ) rfl ?_
    refine am_ic (ty := 14) (tn := 5) rfl (by decide) rfl rfl (fun (h_2 : nI c < nI 48) => ?_) (fun (h_2 : ¬ (nI c < nI 48)) => ?_)
    · have h_2 : c < 48 := (nI_ltI (by omega) (by omega)).mp h_2
      omega
    have h_2 : ¬ (c < 48) := fun z => h_2 ((nI_ltI (by omega) (by omega)).mpr z)
    refine am_run 2 (pc' := 7) (ls' := [some (.int (nI c)), some (.int (nI 48)), some (.int (nI 52))]) (st' := [.int (nI 52), .int (nI c)]) (σ' := σ) rfl ?_
    refine am_ic (ty := 14) (tn := 10) rfl (by decide) rfl rfl (fun (h_3 : nI 52 < nI c) => ?_) (fun (h_3 : ¬ (nI 52 < nI c)) => ?_)
    rotate_left
    · have h_3 : ¬ (52 < c) := fun z => h_3 ((nI_ltI (by omega) (by omega)).mpr z)
      omega
    have h_3 : 52 < c := (nI_ltI (by omega) (by omega)).mp h_3
    refine am_run 1 (pc' := 15) (ls' := [some (.int (nI c)), some (.int (nI 48)), some (.int (nI 52))]) (st' := [.int (nI 0)]) (σ' := σ) rfl ?_
    refine am_retz rfl rfl (by decide) ?_
    show am_G _ M_X10_readsFigure _ 8 [some (.ref 0), some (.int (nI c))] [.int (nI 0)] σ
    refine am_if (ty := 11) (tn := 13) rfl (by decide) rfl rfl (fun (h_4 : nI 0 = 0) => ?_) (fun (h_4 : ¬ (nI 0 = 0)) => ?_)
    rotate_left
    · exact absurd (by decide) h_4
    refine am_run 1 (pc' := 12) (ls' := [some (.ref 0), some (.int (nI c))]) (st' := [.int (nI 1)]) (σ' := σ) rfl ?_
    refine am_reti rfl rfl ?_
    exact hq
set_option maxRecDepth 10000 in
set_option maxHeartbeats 2000000 in
theorem rf_2 {d : Nat} (hd : 6 ≤ d) {σ : am_M} {c tr : Nat} (hc : 48 ≤ c ∧ c ≤ 52) (h32 : σ.1 0 32 = nI tr) (ht : tr ≤ 12) (hx : tr ≤ c - 48) {Q : am_Q} (hq : Q (some (.int (nI 2))) σ) : am_C d 169 [.ref 0, .int (nI c)] σ Q := by
  refine am_enter' (M := M_X10_readsFigure) rfl rfl rfl (by omega) (ls := [some (.ref 0), some (.int (nI c))]) rfl (fun d' hd' => ?_)
  refine am_run 3 (pc' := 5) (ls' := [some (.ref 0), some (.int (nI c))]) (st' := [.int (nI 52), .int (nI 48), .int (nI c)]) (σ' := σ) rfl ?_
  refine am_invs (y := 148) (as := [.int (nI c), .int (nI 48), .int (nI 52)]) (rest := []) rfl rfl rfl rfl rfl rfl (Nat.le_of_ble_eq_true rfl) ?_
  refine am_enter' rfl rfl rfl (by omega) (ls := [some (.int (nI c)), some (.int (nI 48)), some (.int (nI 52))]) rfl (fun d_1 hd_1 => ?_)
  refine am_run 2 (pc' := 2) (ls' := [some (.int (nI c)), some (.int (nI 48)), some (.int (nI 52))]) (st' := [.int (nI 48), .int (nI c)]) (σ' := σ) rfl ?_
  refine am_ic (ty := 14) (tn := 5) rfl (by decide) rfl rfl (fun (h_2 : nI c < nI 48) => ?_) (fun (h_2 : ¬ (nI c < nI 48)) => ?_)
  · have h_2 : c < 48 := (nI_ltI (by omega) (by omega)).mp h_2
    omega
  have h_2 : ¬ (c < 48) := fun z => h_2 ((nI_ltI (by omega) (by omega)).mpr z)
  refine am_run 2 (pc' := 7) (ls' := [some (.int (nI c)), some (.int (nI 48)), some (.int (nI 52))]) (st' := [.int (nI 52), .int (nI c)]) (σ' := σ) rfl ?_
  refine am_ic (ty := 14) (tn := 10) rfl (by decide) rfl rfl (fun (h_3 : nI 52 < nI c) => ?_) (fun (h_3 : ¬ (nI 52 < nI c)) => ?_)
  · have h_3 : 52 < c := (nI_ltI (by omega) (by omega)).mp h_3
    omega
  have h_3 : ¬ (52 < c) := fun z => h_3 ((nI_ltI (by omega) (by omega)).mpr z)
  refine am_run 2 (pc' := 15) (ls' := [some (.int (nI c)), some (.int (nI 48)), some (.int (nI 52))]) (st' := [.int (nI 1)]) (σ' := σ) rfl ?_
  refine am_retz rfl rfl (by decide) ?_
  show am_G _ M_X10_readsFigure _ 8 [some (.ref 0), some (.int (nI c))] [.int (nI 1)] σ
  refine am_if (ty := 11) (tn := 13) rfl (by decide) rfl rfl (fun (h_4 : nI 1 = 0) => ?_) (fun (h_4 : ¬ (nI 1 = 0)) => ?_)
  · exact absurd h_4 (by decide)
  refine am_run 2 (pc' := 17) (ls' := [some (.ref 0), some (.int (nI c))]) (st' := [.int (σ.1 0 32)]) (σ' := σ) rfl ?_
  refine am_top (v' := nI tr) h32 ?_
  refine am_run 3 (pc' := 21) (ls' := [some (.ref 0), some (.int (nI c))]) (st' := [.int (nI c - nI 48), .int (nI tr)]) (σ' := σ) rfl ?_
  refine am_top (v' := nI (c - 48)) (nx_sub (by omega)) ?_
  refine am_ic (ty := 26) (tn := 24) rfl (by decide) rfl rfl (fun (h_5 : nI (c - 48) < nI tr) => ?_) (fun (h_5 : ¬ (nI (c - 48) < nI tr)) => ?_)
  · have h_5 : c - 48 < tr := (nI_ltI (by omega) (by omega)).mp h_5
    omega
  have h_5 : ¬ (c - 48 < tr) := fun z => h_5 ((nI_ltI (by omega) (by omega)).mpr z)
  refine am_run 1 (pc' := 25) (ls' := [some (.ref 0), some (.int (nI c))]) (st' := [.int (nI 2)]) (σ' := σ) rfl ?_
  refine am_reti rfl rfl ?_
  exact hq
set_option maxRecDepth 10000 in
set_option maxHeartbeats 2000000 in
theorem rf_ok {d : Nat} (hd : 6 ≤ d) {σ : am_M} {c tr : Nat} (hc : 48 ≤ c ∧ c ≤ 52) (h32 : σ.1 0 32 = nI tr) (ht : tr ≤ 12) {n e : Nat} (hx : ¬ tr ≤ c - 48) (h23 : σ.1 0 23 = nI n) (hn : n < 60) (h35 : σ.1 0 35 = nI e) (he : e < 60) {Q : am_Q} (hq : EPq (Q (some (.int (nI 0)))) (am_wr (am_wr (am_wr σ 6 (120 + n) (nI (c - 48))) 9 (120 + e) (nI n)) 0 35 (nI (e + 1))) n) : am_C d 169 [.ref 0, .int (nI c)] σ Q := by
  refine am_enter' (M := M_X10_readsFigure) rfl rfl rfl (by omega) (ls := [some (.ref 0), some (.int (nI c))]) rfl (fun d' hd' => ?_)
  refine am_run 3 (pc' := 5) (ls' := [some (.ref 0), some (.int (nI c))]) (st' := [.int (nI 52), .int (nI 48), .int (nI c)]) (σ' := σ) rfl ?_
  refine am_invs (y := 148) (as := [.int (nI c), .int (nI 48), .int (nI 52)]) (rest := []) rfl rfl rfl rfl rfl rfl (Nat.le_of_ble_eq_true rfl) ?_
  refine am_enter' rfl rfl rfl (by omega) (ls := [some (.int (nI c)), some (.int (nI 48)), some (.int (nI 52))]) rfl (fun d_1 hd_1 => ?_)
  refine am_run 2 (pc' := 2) (ls' := [some (.int (nI c)), some (.int (nI 48)), some (.int (nI 52))]) (st' := [.int (nI 48), .int (nI c)]) (σ' := σ) rfl ?_
  refine am_ic (ty := 14) (tn := 5) rfl (by decide) rfl rfl (fun (h_2 : nI c < nI 48) => ?_) (fun (h_2 : ¬ (nI c < nI 48)) => ?_)
  · have h_2 : c < 48 := (nI_ltI (by omega) (by omega)).mp h_2
    omega
  have h_2 : ¬ (c < 48) := fun z => h_2 ((nI_ltI (by omega) (by omega)).mpr z)
  refine am_run 2 (pc' := 7) (ls' := [some (.int (nI c)), some (.int (nI 48)), some (.int (nI 52))]) (st' := [.int (nI 52), .int (nI c)]) (σ' := σ) rfl ?_
  refine am_ic (ty := 14) (tn := 10) rfl (by decide) rfl rfl (fun (h_3 : nI 52 < nI c) => ?_) (fun (h_3 : ¬ (nI 52 < nI c)) => ?_)
  · have h_3 : 52 < c := (nI_ltI (by omega) (by omega)).mp h_3
    omega
  have h_3 : ¬ (52 < c) := fun z => h_3 ((nI_ltI (by omega) (by omega)).mpr z)
  refine am_run 2 (pc' := 15) (ls' := [some (.int (nI c)), some (.int (nI 48)), some (.int (nI 52))]) (st' := [.int (nI 1)]) (σ' := σ) rfl ?_
  refine am_retz rfl rfl (by decide) ?_
  show am_G _ M_X10_readsFigure _ 8 [some (.ref 0), some (.int (nI c))] [.int (nI 1)] σ
  refine am_if (ty := 11) (tn := 13) rfl (by decide) rfl rfl (fun (h_4 : nI 1 = 0) => ?_) (fun (h_4 : ¬ (nI 1 = 0)) => ?_)
  · exact absurd h_4 (by decide)
  refine am_run 2 (pc' := 17) (ls' := [some (.ref 0), some (.int (nI c))]) (st' := [.int (σ.1 0 32)]) (σ' := σ) rfl ?_
  refine am_top (v' := nI tr) h32 ?_
  refine am_run 3 (pc' := 21) (ls' := [some (.ref 0), some (.int (nI c))]) (st' := [.int (nI c - nI 48), .int (nI tr)]) (σ' := σ) rfl ?_
  refine am_top (v' := nI (c - 48)) (nx_sub (by omega)) ?_
  refine am_ic (ty := 26) (tn := 24) rfl (by decide) rfl rfl (fun (h_5 : nI (c - 48) < nI tr) => ?_) (fun (h_5 : ¬ (nI (c - 48) < nI tr)) => ?_)
  rotate_left
  · have h_5 : ¬ (c - 48 < tr) := fun z => h_5 ((nI_ltI (by omega) (by omega)).mpr z)
    omega
  have h_5 : c - 48 < tr := (nI_ltI (by omega) (by omega)).mp h_5
  refine am_run 5 (pc' := 35) (ls' := [some (.ref 0), some (.int (nI c))]) (st' := [.int (σ.1 0 23), .int (nI 2), .ref 6]) (σ' := σ) rfl ?_
  refine am_top (v' := nI n) h23 ?_
  refine am_invs (y := 158) (as := [.int (nI 2), .int (nI n)]) (rest := [.ref 6]) rfl rfl rfl rfl rfl rfl (Nat.le_of_ble_eq_true rfl) ?_
  refine c_m_placeOf (by omega) (j := 2) ?_
  show am_G _ M_X10_readsFigure _ 38 [some (.ref 0), some (.int (nI c))] [.int (nI (120 + n)), .ref 6] σ
  refine am_run 3 (pc' := 42) (ls' := [some (.ref 0), some (.int (nI c))]) (st' := [.int (nI c - nI 48), .int (nI (120 + n)), .ref 6]) (σ' := σ) rfl ?_
  refine am_top (v' := nI (c - 48)) (nx_sub (by omega)) ?_
  refine am_iastN (n := 180) rfl rfl rfl (by omega) (by decide) ?_
  refine am_run 3 (pc' := 48) (ls' := [some (.ref 0), some (.int (nI c))]) (st' := [.int (σ.1 0 23), .ref 0]) (σ' := (am_wr σ 6 (120 + n) (nI (c - 48)))) rfl ?_
  refine am_top (v' := nI n) h23 ?_
  refine am_invv (y := 161) (b := 0) (as := [.int (nI n)]) (rest := []) rfl rfl rfl rfl rfl rfl rfl (Nat.le_of_ble_eq_true rfl) ?_
  refine c_m_ends (e := e) (by omega) (by rw [am_wr_ne _ (by omega)]; exact h35) he ?_
  show am_G _ M_X10_readsFigure _ 51 [some (.ref 0), some (.int (nI c))] [] (am_wr (am_wr (am_wr σ 6 (120 + n) (nI (c - 48))) 9 (120 + e) (nI n)) 0 35 (nI (e + 1)))
  refine am_run 3 (pc' := 56) (ls' := [some (.ref 0), some (.int (nI c))]) (st' := [.int (σ.1 0 23), .ref 0]) (σ' := (am_wr (am_wr (am_wr σ 6 (120 + n) (nI (c - 48))) 9 (120 + e) (nI n)) 0 35 (nI (e + 1)))) rfl ?_
  refine am_top (v' := nI n) h23 ?_
  refine am_invv (y := 163) (b := 0) (as := [.int (nI n)]) (rest := []) rfl rfl rfl rfl rfl rfl rfl (Nat.le_of_ble_eq_true rfl) ?_
  refine am_C_to (hq _ (by omega)) (fun v σ2 hv => ?_)
  obtain ⟨rfl, hv⟩ := hv
  show am_G _ M_X10_readsFigure _ 59 [some (.ref 0), some (.int (nI c))] [] σ2
  refine am_run 1 (pc' := 60) (ls' := [some (.ref 0), some (.int (nI c))]) (st' := [.int (nI 0)]) (σ' := σ2) rfl ?_
  refine am_reti rfl rfl ?_
  exact hv
set_option maxRecDepth 10000 in
set_option maxHeartbeats 2000000 in
theorem rb_bad0 {d : Nat} (hd : 2 ≤ d) {σ : am_M} {c : Nat} (hc : c < 256) (hb : ¬ c = 123) {Q : am_Q} (hq : Q (some (.int (nI 1))) σ) : am_C d 170 [.ref 0, .int (nI c), .int (nI 0)] σ Q := by
  refine am_enter' (M := M_X10_readsBracket) rfl rfl rfl (by omega) (ls := [some (.ref 0), some (.int (nI c)), some (.int (nI 0)), none]) rfl (fun d' hd' => ?_)
  refine am_run 2 (pc' := 3) (ls' := [some (.ref 0), some (.int (nI c)), some (.int (nI 0)), none]) (st' := [.int (nI 123), .int (nI c)]) (σ' := σ) rfl ?_
  refine am_ic (ty := 8) (tn := 6) rfl (by decide) rfl rfl (fun (h_1 : nI c = nI 123) => ?_) (fun (h_1 : ¬ (nI c = nI 123)) => ?_)
  · have h_1 : c = 123 := (nI_eq (by omega) (by omega)).mp h_1
    omega
  have h_1 : ¬ (c = 123) := fun z => h_1 ((nI_eq (by omega) (by omega)).mpr z)
  refine am_run 1 (pc' := 7) (ls' := [some (.ref 0), some (.int (nI c)), some (.int (nI 0)), none]) (st' := [.int (nI 1)]) (σ' := σ) rfl ?_
  refine am_reti rfl rfl ?_
  exact hq
set_option maxRecDepth 10000 in
set_option maxHeartbeats 2000000 in
theorem rb_12_0 {d : Nat} (hd : 2 ≤ d) {σ : am_M} (h24 : σ.1 0 24 = nI 12) {Q : am_Q} (hq : Q (some (.int (nI 4))) σ) : am_C d 170 [.ref 0, .int (nI 123), .int (nI 0)] σ Q := by
  refine am_enter' (M := M_X10_readsBracket) rfl rfl rfl (by omega) (ls := [some (.ref 0), some (.int (nI 123)), some (.int (nI 0)), none]) rfl (fun d' hd' => ?_)
  refine am_run 2 (pc' := 3) (ls' := [some (.ref 0), some (.int (nI 123)), some (.int (nI 0)), none]) (st' := [.int (nI 123), .int (nI 123)]) (σ' := σ) rfl ?_
  refine am_ic (ty := 8) (tn := 6) rfl (by decide) rfl rfl (fun (h_1 : nI 123 = nI 123) => ?_) (fun (h_1 : ¬ (nI 123 = nI 123)) => ?_)
  rotate_left
  · exact absurd (by decide) h_1
  refine am_run 2 (pc' := 12) (ls' := [some (.ref 0), some (.int (nI 123)), some (.int (nI 0)), none]) (st' := [.int (σ.1 0 24)]) (σ' := σ) rfl ?_
  refine am_top (v' := nI 12) h24 ?_
  refine am_run 1 (pc' := 14) (ls' := [some (.ref 0), some (.int (nI 123)), some (.int (nI 0)), none]) (st' := [.int (nI 12), .int (nI 12)]) (σ' := σ) rfl ?_
  refine am_ic (ty := 17) (tn := 19) rfl (by decide) rfl rfl (fun (h_2 : nI 12 = nI 12) => ?_) (fun (h_2 : ¬ (nI 12 = nI 12)) => ?_)
  rotate_left
  · exact absurd (by decide) h_2
  refine am_run 1 (pc' := 18) (ls' := [some (.ref 0), some (.int (nI 123)), some (.int (nI 0)), none]) (st' := [.int (nI 4)]) (σ' := σ) rfl ?_
  refine am_reti rfl rfl ?_
  exact hq
set_option maxRecDepth 10000 in
set_option maxHeartbeats 2000000 in
theorem rb_bad1 {d : Nat} (hd : 2 ≤ d) {σ : am_M} {c : Nat} (hc : c < 256) (hb : ¬ c = 123) {Q : am_Q} (hq : Q (some (.int (nI 1))) σ) : am_C d 170 [.ref 0, .int (nI c), .int (nI 1)] σ Q := by
  refine am_enter' (M := M_X10_readsBracket) rfl rfl rfl (by omega) (ls := [some (.ref 0), some (.int (nI c)), some (.int (nI 1)), none]) rfl (fun d' hd' => ?_)
  refine am_run 2 (pc' := 3) (ls' := [some (.ref 0), some (.int (nI c)), some (.int (nI 1)), none]) (st' := [.int (nI 123), .int (nI c)]) (σ' := σ) rfl ?_
  refine am_ic (ty := 8) (tn := 6) rfl (by decide) rfl rfl (fun (h_1 : nI c = nI 123) => ?_) (fun (h_1 : ¬ (nI c = nI 123)) => ?_)
  · have h_1 : c = 123 := (nI_eq (by omega) (by omega)).mp h_1
    omega
  have h_1 : ¬ (c = 123) := fun z => h_1 ((nI_eq (by omega) (by omega)).mpr z)
  refine am_run 1 (pc' := 7) (ls' := [some (.ref 0), some (.int (nI c)), some (.int (nI 1)), none]) (st' := [.int (nI 1)]) (σ' := σ) rfl ?_
  refine am_reti rfl rfl ?_
  exact hq
set_option maxRecDepth 10000 in
set_option maxHeartbeats 2000000 in
theorem rb_12_1 {d : Nat} (hd : 2 ≤ d) {σ : am_M} (h24 : σ.1 0 24 = nI 12) {Q : am_Q} (hq : Q (some (.int (nI 4))) σ) : am_C d 170 [.ref 0, .int (nI 123), .int (nI 1)] σ Q := by
  refine am_enter' (M := M_X10_readsBracket) rfl rfl rfl (by omega) (ls := [some (.ref 0), some (.int (nI 123)), some (.int (nI 1)), none]) rfl (fun d' hd' => ?_)
  refine am_run 2 (pc' := 3) (ls' := [some (.ref 0), some (.int (nI 123)), some (.int (nI 1)), none]) (st' := [.int (nI 123), .int (nI 123)]) (σ' := σ) rfl ?_
  refine am_ic (ty := 8) (tn := 6) rfl (by decide) rfl rfl (fun (h_1 : nI 123 = nI 123) => ?_) (fun (h_1 : ¬ (nI 123 = nI 123)) => ?_)
  rotate_left
  · exact absurd (by decide) h_1
  refine am_run 2 (pc' := 12) (ls' := [some (.ref 0), some (.int (nI 123)), some (.int (nI 1)), none]) (st' := [.int (σ.1 0 24)]) (σ' := σ) rfl ?_
  refine am_top (v' := nI 12) h24 ?_
  refine am_run 1 (pc' := 14) (ls' := [some (.ref 0), some (.int (nI 123)), some (.int (nI 1)), none]) (st' := [.int (nI 12), .int (nI 12)]) (σ' := σ) rfl ?_
  refine am_ic (ty := 17) (tn := 19) rfl (by decide) rfl rfl (fun (h_2 : nI 12 = nI 12) => ?_) (fun (h_2 : ¬ (nI 12 = nI 12)) => ?_)
  rotate_left
  · exact absurd (by decide) h_2
  refine am_run 1 (pc' := 18) (ls' := [some (.ref 0), some (.int (nI 123)), some (.int (nI 1)), none]) (st' := [.int (nI 4)]) (σ' := σ) rfl ?_
  refine am_reti rfl rfl ?_
  exact hq
set_option maxRecDepth 10000 in
set_option maxHeartbeats 2000000 in
theorem rb_63_0 {d : Nat} (hd : 6 ≤ d) {σ : am_M} {n tr nw lev : Nat} (h24 : σ.1 0 24 = nI lev) (hlev : lev < 12) (h23 : σ.1 0 23 = nI n) (hn : n < 60) (h32 : σ.1 0 32 = nI tr) (h5 : σ.1 5 (120 + n) = nI 63) {Q : am_Q} (hq : Q (some (.int (nI 0))) (am_wr (am_wr (am_wr (am_wr (am_wr (am_wr (am_wr (am_wr (am_wr (am_wr σ 0 32 (nI tr)) 0 24 (nI (lev + 1))) 24 (lev + 1) (-1)) 26 (lev + 1) (-1)) 23 (lev + 1) (-1)) 25 (lev + 1) (-1)) 20 (lev + 1) (nI 2)) 21 (lev + 1) (nI n)) 22 (lev + 1) (nI 0)) 0 22 (nI 0))) : am_C d 170 [.ref 0, .int (nI 123), .int (nI 0)] σ Q := by
  refine am_enter' (M := M_X10_readsBracket) rfl rfl rfl (by omega) (ls := [some (.ref 0), some (.int (nI 123)), some (.int (nI 0)), none]) rfl (fun d' hd' => ?_)
  refine am_run 2 (pc' := 3) (ls' := [some (.ref 0), some (.int (nI 123)), some (.int (nI 0)), none]) (st' := [.int (nI 123), .int (nI 123)]) (σ' := σ) rfl ?_
  refine am_ic (ty := 8) (tn := 6) rfl (by decide) rfl rfl (fun (h_1 : nI 123 = nI 123) => ?_) (fun (h_1 : ¬ (nI 123 = nI 123)) => ?_)
  rotate_left
  · exact absurd (by decide) h_1
  refine am_run 2 (pc' := 12) (ls' := [some (.ref 0), some (.int (nI 123)), some (.int (nI 0)), none]) (st' := [.int (σ.1 0 24)]) (σ' := σ) rfl ?_
  refine am_top (v' := nI lev) h24 ?_
  refine am_run 1 (pc' := 14) (ls' := [some (.ref 0), some (.int (nI 123)), some (.int (nI 0)), none]) (st' := [.int (nI 12), .int (nI lev)]) (σ' := σ) rfl ?_
  refine am_ic (ty := 17) (tn := 19) rfl (by decide) rfl rfl (fun (h_2 : nI lev = nI 12) => ?_) (fun (h_2 : ¬ (nI lev = nI 12)) => ?_)
  · have h_2 : lev = 12 := (nI_eq (by omega) (by omega)).mp h_2
    omega
  have h_2 : ¬ (lev = 12) := fun z => h_2 ((nI_eq (by omega) (by omega)).mpr z)
  refine am_run 3 (pc' := 24) (ls' := [some (.ref 0), some (.int (nI 123)), some (.int (nI 0)), none]) (st' := [.int (σ.1 0 23), .int (nI 2)]) (σ' := σ) rfl ?_
  refine am_top (v' := nI n) h23 ?_
  refine am_invs (y := 158) (as := [.int (nI 2), .int (nI n)]) (rest := []) rfl rfl rfl rfl rfl rfl (Nat.le_of_ble_eq_true rfl) ?_
  refine c_m_placeOf (by omega) (j := 2) ?_
  show am_G _ M_X10_readsBracket _ 27 [some (.ref 0), some (.int (nI 123)), some (.int (nI 0)), none] [.int (nI (120 + n))] σ
  refine am_run 4 (pc' := 33) (ls' := [some (.ref 0), some (.int (nI 123)), some (.int (nI 0)), some (.int (nI (120 + n)))]) (st' := [.int (σ.1 0 32), .ref 0]) (σ' := σ) rfl ?_
  refine am_top (v' := nI tr) h32 ?_
  refine am_run 3 (pc' := 38) (ls' := [some (.ref 0), some (.int (nI 123)), some (.int (nI 0)), some (.int (nI (120 + n)))]) (st' := [.int (nI (120 + n)), .ref 5, .int (nI tr), .ref 0]) (σ' := σ) rfl ?_
  refine am_ialdN (n := 180) (v := nI 63) rfl rfl rfl (by omega) (h5) (by decide) ?_
  refine am_run 1 (pc' := 41) (ls' := [some (.ref 0), some (.int (nI 123)), some (.int (nI 0)), some (.int (nI (120 + n)))]) (st' := [.int (nI 94), .int (nI 63), .int (nI tr), .ref 0]) (σ' := σ) rfl ?_
  refine am_ic (ty := 44) (tn := 48) rfl (by decide) rfl rfl (fun (h_3 : nI 63 = nI 94) => ?_) (fun (h_3 : ¬ (nI 63 = nI 94)) => ?_)
  · exact absurd h_3 (by decide)
  refine am_run 2 (pc' := 50) (ls' := [some (.ref 0), some (.int (nI 123)), some (.int (nI 0)), some (.int (nI (120 + n)))]) (st' := [.int (nI tr + nI 0), .ref 0]) (σ' := σ) rfl ?_
  refine am_top (v' := nI tr) (by rw [nI_add, Nat.add_zero]) ?_
  refine am_run 4 (pc' := 58) (ls' := [some (.ref 0), some (.int (nI 123)), some (.int (nI 0)), some (.int (nI (120 + n)))]) (st' := [.int (nI (120 + n)), .ref 5]) (σ' := (am_wr σ 0 32 (nI tr))) rfl ?_
  refine am_ialdN (n := 180) (v := nI 63) rfl rfl rfl (by omega) (by rw [am_wr_ne _ (by omega)]; exact h5) (by decide) ?_
  refine am_run 1 (pc' := 61) (ls' := [some (.ref 0), some (.int (nI 123)), some (.int (nI 0)), some (.int (nI (120 + n)))]) (st' := [.int (nI 36), .int (nI 63)]) (σ' := (am_wr σ 0 32 (nI tr))) rfl ?_
  refine am_ic (ty := 64) (tn := 89) rfl (by decide) rfl rfl (fun (h_4 : nI 63 = nI 36) => ?_) (fun (h_4 : ¬ (nI 63 = nI 36)) => ?_)
  · exact absurd h_4 (by decide)
  refine am_run 4 (pc' := 95) (ls' := [some (.ref 0), some (.int (nI 123)), some (.int (nI 0)), some (.int (nI (120 + n)))]) (st' := [.int (σ.1 0 23), .int (nI 2), .ref 0]) (σ' := (am_wr σ 0 32 (nI tr))) rfl ?_
  refine am_top (v' := nI n) h23 ?_
  refine am_run 1 (pc' := 96) (ls' := [some (.ref 0), some (.int (nI 123)), some (.int (nI 0)), some (.int (nI (120 + n)))]) (st' := [.int (nI 0), .int (nI n), .int (nI 2), .ref 0]) (σ' := (am_wr σ 0 32 (nI tr))) rfl ?_
  refine am_invv (y := 165) (b := 0) (as := [.int (nI 2), .int (nI n), .int (nI 0)]) (rest := []) rfl rfl rfl rfl rfl rfl rfl (Nat.le_of_ble_eq_true rfl) ?_
  refine c_m_opens (lev := lev) (by omega) (by rw [am_diff _ _ _ _ _ (by decide)]; exact h24) hlev ?_
  show am_G _ M_X10_readsBracket _ 99 [some (.ref 0), some (.int (nI 123)), some (.int (nI 0)), some (.int (nI (120 + n)))] [] (am_wr (am_wr (am_wr (am_wr (am_wr (am_wr (am_wr (am_wr (am_wr (am_wr σ 0 32 (nI tr)) 0 24 (nI (lev + 1))) 24 (lev + 1) (-1)) 26 (lev + 1) (-1)) 23 (lev + 1) (-1)) 25 (lev + 1) (-1)) 20 (lev + 1) (nI 2)) 21 (lev + 1) (nI n)) 22 (lev + 1) (nI 0)) 0 22 (nI 0))
  refine am_run 1 (pc' := 100) (ls' := [some (.ref 0), some (.int (nI 123)), some (.int (nI 0)), some (.int (nI (120 + n)))]) (st' := [.int (nI 0)]) (σ' := (am_wr (am_wr (am_wr (am_wr (am_wr (am_wr (am_wr (am_wr (am_wr (am_wr σ 0 32 (nI tr)) 0 24 (nI (lev + 1))) 24 (lev + 1) (-1)) 26 (lev + 1) (-1)) 23 (lev + 1) (-1)) 25 (lev + 1) (-1)) 20 (lev + 1) (nI 2)) 21 (lev + 1) (nI n)) 22 (lev + 1) (nI 0)) 0 22 (nI 0))) rfl ?_
  refine am_reti rfl rfl ?_
  exact hq
set_option maxRecDepth 10000 in
set_option maxHeartbeats 2000000 in
theorem rb_63_1 {d : Nat} (hd : 6 ≤ d) {σ : am_M} {n tr nw lev : Nat} (h24 : σ.1 0 24 = nI lev) (hlev : lev < 12) (h23 : σ.1 0 23 = nI n) (hn : n < 60) (h32 : σ.1 0 32 = nI tr) (h5 : σ.1 5 (120 + n) = nI 63) {Q : am_Q} (hq : Q (some (.int (nI 0))) (am_wr (am_wr (am_wr (am_wr (am_wr (am_wr (am_wr (am_wr (am_wr (am_wr σ 0 32 (nI tr)) 0 24 (nI (lev + 1))) 24 (lev + 1) (-1)) 26 (lev + 1) (-1)) 23 (lev + 1) (-1)) 25 (lev + 1) (-1)) 20 (lev + 1) (nI 2)) 21 (lev + 1) (nI n)) 22 (lev + 1) (nI 1)) 0 22 (nI 0))) : am_C d 170 [.ref 0, .int (nI 123), .int (nI 1)] σ Q := by
  refine am_enter' (M := M_X10_readsBracket) rfl rfl rfl (by omega) (ls := [some (.ref 0), some (.int (nI 123)), some (.int (nI 1)), none]) rfl (fun d' hd' => ?_)
  refine am_run 2 (pc' := 3) (ls' := [some (.ref 0), some (.int (nI 123)), some (.int (nI 1)), none]) (st' := [.int (nI 123), .int (nI 123)]) (σ' := σ) rfl ?_
  refine am_ic (ty := 8) (tn := 6) rfl (by decide) rfl rfl (fun (h_1 : nI 123 = nI 123) => ?_) (fun (h_1 : ¬ (nI 123 = nI 123)) => ?_)
  rotate_left
  · exact absurd (by decide) h_1
  refine am_run 2 (pc' := 12) (ls' := [some (.ref 0), some (.int (nI 123)), some (.int (nI 1)), none]) (st' := [.int (σ.1 0 24)]) (σ' := σ) rfl ?_
  refine am_top (v' := nI lev) h24 ?_
  refine am_run 1 (pc' := 14) (ls' := [some (.ref 0), some (.int (nI 123)), some (.int (nI 1)), none]) (st' := [.int (nI 12), .int (nI lev)]) (σ' := σ) rfl ?_
  refine am_ic (ty := 17) (tn := 19) rfl (by decide) rfl rfl (fun (h_2 : nI lev = nI 12) => ?_) (fun (h_2 : ¬ (nI lev = nI 12)) => ?_)
  · have h_2 : lev = 12 := (nI_eq (by omega) (by omega)).mp h_2
    omega
  have h_2 : ¬ (lev = 12) := fun z => h_2 ((nI_eq (by omega) (by omega)).mpr z)
  refine am_run 3 (pc' := 24) (ls' := [some (.ref 0), some (.int (nI 123)), some (.int (nI 1)), none]) (st' := [.int (σ.1 0 23), .int (nI 2)]) (σ' := σ) rfl ?_
  refine am_top (v' := nI n) h23 ?_
  refine am_invs (y := 158) (as := [.int (nI 2), .int (nI n)]) (rest := []) rfl rfl rfl rfl rfl rfl (Nat.le_of_ble_eq_true rfl) ?_
  refine c_m_placeOf (by omega) (j := 2) ?_
  show am_G _ M_X10_readsBracket _ 27 [some (.ref 0), some (.int (nI 123)), some (.int (nI 1)), none] [.int (nI (120 + n))] σ
  refine am_run 4 (pc' := 33) (ls' := [some (.ref 0), some (.int (nI 123)), some (.int (nI 1)), some (.int (nI (120 + n)))]) (st' := [.int (σ.1 0 32), .ref 0]) (σ' := σ) rfl ?_
  refine am_top (v' := nI tr) h32 ?_
  refine am_run 3 (pc' := 38) (ls' := [some (.ref 0), some (.int (nI 123)), some (.int (nI 1)), some (.int (nI (120 + n)))]) (st' := [.int (nI (120 + n)), .ref 5, .int (nI tr), .ref 0]) (σ' := σ) rfl ?_
  refine am_ialdN (n := 180) (v := nI 63) rfl rfl rfl (by omega) (h5) (by decide) ?_
  refine am_run 1 (pc' := 41) (ls' := [some (.ref 0), some (.int (nI 123)), some (.int (nI 1)), some (.int (nI (120 + n)))]) (st' := [.int (nI 94), .int (nI 63), .int (nI tr), .ref 0]) (σ' := σ) rfl ?_
  refine am_ic (ty := 44) (tn := 48) rfl (by decide) rfl rfl (fun (h_3 : nI 63 = nI 94) => ?_) (fun (h_3 : ¬ (nI 63 = nI 94)) => ?_)
  · exact absurd h_3 (by decide)
  refine am_run 2 (pc' := 50) (ls' := [some (.ref 0), some (.int (nI 123)), some (.int (nI 1)), some (.int (nI (120 + n)))]) (st' := [.int (nI tr + nI 0), .ref 0]) (σ' := σ) rfl ?_
  refine am_top (v' := nI tr) (by rw [nI_add, Nat.add_zero]) ?_
  refine am_run 4 (pc' := 58) (ls' := [some (.ref 0), some (.int (nI 123)), some (.int (nI 1)), some (.int (nI (120 + n)))]) (st' := [.int (nI (120 + n)), .ref 5]) (σ' := (am_wr σ 0 32 (nI tr))) rfl ?_
  refine am_ialdN (n := 180) (v := nI 63) rfl rfl rfl (by omega) (by rw [am_wr_ne _ (by omega)]; exact h5) (by decide) ?_
  refine am_run 1 (pc' := 61) (ls' := [some (.ref 0), some (.int (nI 123)), some (.int (nI 1)), some (.int (nI (120 + n)))]) (st' := [.int (nI 36), .int (nI 63)]) (σ' := (am_wr σ 0 32 (nI tr))) rfl ?_
  refine am_ic (ty := 64) (tn := 89) rfl (by decide) rfl rfl (fun (h_4 : nI 63 = nI 36) => ?_) (fun (h_4 : ¬ (nI 63 = nI 36)) => ?_)
  · exact absurd h_4 (by decide)
  refine am_run 4 (pc' := 95) (ls' := [some (.ref 0), some (.int (nI 123)), some (.int (nI 1)), some (.int (nI (120 + n)))]) (st' := [.int (σ.1 0 23), .int (nI 2), .ref 0]) (σ' := (am_wr σ 0 32 (nI tr))) rfl ?_
  refine am_top (v' := nI n) h23 ?_
  refine am_run 1 (pc' := 96) (ls' := [some (.ref 0), some (.int (nI 123)), some (.int (nI 1)), some (.int (nI (120 + n)))]) (st' := [.int (nI 1), .int (nI n), .int (nI 2), .ref 0]) (σ' := (am_wr σ 0 32 (nI tr))) rfl ?_
  refine am_invv (y := 165) (b := 0) (as := [.int (nI 2), .int (nI n), .int (nI 1)]) (rest := []) rfl rfl rfl rfl rfl rfl rfl (Nat.le_of_ble_eq_true rfl) ?_
  refine c_m_opens (lev := lev) (by omega) (by rw [am_diff _ _ _ _ _ (by decide)]; exact h24) hlev ?_
  show am_G _ M_X10_readsBracket _ 99 [some (.ref 0), some (.int (nI 123)), some (.int (nI 1)), some (.int (nI (120 + n)))] [] (am_wr (am_wr (am_wr (am_wr (am_wr (am_wr (am_wr (am_wr (am_wr (am_wr σ 0 32 (nI tr)) 0 24 (nI (lev + 1))) 24 (lev + 1) (-1)) 26 (lev + 1) (-1)) 23 (lev + 1) (-1)) 25 (lev + 1) (-1)) 20 (lev + 1) (nI 2)) 21 (lev + 1) (nI n)) 22 (lev + 1) (nI 1)) 0 22 (nI 0))
  refine am_run 1 (pc' := 100) (ls' := [some (.ref 0), some (.int (nI 123)), some (.int (nI 1)), some (.int (nI (120 + n)))]) (st' := [.int (nI 0)]) (σ' := (am_wr (am_wr (am_wr (am_wr (am_wr (am_wr (am_wr (am_wr (am_wr (am_wr σ 0 32 (nI tr)) 0 24 (nI (lev + 1))) 24 (lev + 1) (-1)) 26 (lev + 1) (-1)) 23 (lev + 1) (-1)) 25 (lev + 1) (-1)) 20 (lev + 1) (nI 2)) 21 (lev + 1) (nI n)) 22 (lev + 1) (nI 1)) 0 22 (nI 0))) rfl ?_
  refine am_reti rfl rfl ?_
  exact hq
set_option maxRecDepth 10000 in
set_option maxHeartbeats 2000000 in
theorem rb_42_0 {d : Nat} (hd : 6 ≤ d) {σ : am_M} {n tr nw lev : Nat} (h24 : σ.1 0 24 = nI lev) (hlev : lev < 12) (h23 : σ.1 0 23 = nI n) (hn : n < 60) (h32 : σ.1 0 32 = nI tr) (h5 : σ.1 5 (120 + n) = nI 42) {Q : am_Q} (hq : Q (some (.int (nI 0))) (am_wr (am_wr (am_wr (am_wr (am_wr (am_wr (am_wr (am_wr (am_wr (am_wr σ 0 32 (nI tr)) 0 24 (nI (lev + 1))) 24 (lev + 1) (-1)) 26 (lev + 1) (-1)) 23 (lev + 1) (-1)) 25 (lev + 1) (-1)) 20 (lev + 1) (nI 2)) 21 (lev + 1) (nI n)) 22 (lev + 1) (nI 0)) 0 22 (nI 0))) : am_C d 170 [.ref 0, .int (nI 123), .int (nI 0)] σ Q := by
  refine am_enter' (M := M_X10_readsBracket) rfl rfl rfl (by omega) (ls := [some (.ref 0), some (.int (nI 123)), some (.int (nI 0)), none]) rfl (fun d' hd' => ?_)
  refine am_run 2 (pc' := 3) (ls' := [some (.ref 0), some (.int (nI 123)), some (.int (nI 0)), none]) (st' := [.int (nI 123), .int (nI 123)]) (σ' := σ) rfl ?_
  refine am_ic (ty := 8) (tn := 6) rfl (by decide) rfl rfl (fun (h_1 : nI 123 = nI 123) => ?_) (fun (h_1 : ¬ (nI 123 = nI 123)) => ?_)
  rotate_left
  · exact absurd (by decide) h_1
  refine am_run 2 (pc' := 12) (ls' := [some (.ref 0), some (.int (nI 123)), some (.int (nI 0)), none]) (st' := [.int (σ.1 0 24)]) (σ' := σ) rfl ?_
  refine am_top (v' := nI lev) h24 ?_
  refine am_run 1 (pc' := 14) (ls' := [some (.ref 0), some (.int (nI 123)), some (.int (nI 0)), none]) (st' := [.int (nI 12), .int (nI lev)]) (σ' := σ) rfl ?_
  refine am_ic (ty := 17) (tn := 19) rfl (by decide) rfl rfl (fun (h_2 : nI lev = nI 12) => ?_) (fun (h_2 : ¬ (nI lev = nI 12)) => ?_)
  · have h_2 : lev = 12 := (nI_eq (by omega) (by omega)).mp h_2
    omega
  have h_2 : ¬ (lev = 12) := fun z => h_2 ((nI_eq (by omega) (by omega)).mpr z)
  refine am_run 3 (pc' := 24) (ls' := [some (.ref 0), some (.int (nI 123)), some (.int (nI 0)), none]) (st' := [.int (σ.1 0 23), .int (nI 2)]) (σ' := σ) rfl ?_
  refine am_top (v' := nI n) h23 ?_
  refine am_invs (y := 158) (as := [.int (nI 2), .int (nI n)]) (rest := []) rfl rfl rfl rfl rfl rfl (Nat.le_of_ble_eq_true rfl) ?_
  refine c_m_placeOf (by omega) (j := 2) ?_
  show am_G _ M_X10_readsBracket _ 27 [some (.ref 0), some (.int (nI 123)), some (.int (nI 0)), none] [.int (nI (120 + n))] σ
  refine am_run 4 (pc' := 33) (ls' := [some (.ref 0), some (.int (nI 123)), some (.int (nI 0)), some (.int (nI (120 + n)))]) (st' := [.int (σ.1 0 32), .ref 0]) (σ' := σ) rfl ?_
  refine am_top (v' := nI tr) h32 ?_
  refine am_run 3 (pc' := 38) (ls' := [some (.ref 0), some (.int (nI 123)), some (.int (nI 0)), some (.int (nI (120 + n)))]) (st' := [.int (nI (120 + n)), .ref 5, .int (nI tr), .ref 0]) (σ' := σ) rfl ?_
  refine am_ialdN (n := 180) (v := nI 42) rfl rfl rfl (by omega) (h5) (by decide) ?_
  refine am_run 1 (pc' := 41) (ls' := [some (.ref 0), some (.int (nI 123)), some (.int (nI 0)), some (.int (nI (120 + n)))]) (st' := [.int (nI 94), .int (nI 42), .int (nI tr), .ref 0]) (σ' := σ) rfl ?_
  refine am_ic (ty := 44) (tn := 48) rfl (by decide) rfl rfl (fun (h_3 : nI 42 = nI 94) => ?_) (fun (h_3 : ¬ (nI 42 = nI 94)) => ?_)
  · exact absurd h_3 (by decide)
  refine am_run 2 (pc' := 50) (ls' := [some (.ref 0), some (.int (nI 123)), some (.int (nI 0)), some (.int (nI (120 + n)))]) (st' := [.int (nI tr + nI 0), .ref 0]) (σ' := σ) rfl ?_
  refine am_top (v' := nI tr) (by rw [nI_add, Nat.add_zero]) ?_
  refine am_run 4 (pc' := 58) (ls' := [some (.ref 0), some (.int (nI 123)), some (.int (nI 0)), some (.int (nI (120 + n)))]) (st' := [.int (nI (120 + n)), .ref 5]) (σ' := (am_wr σ 0 32 (nI tr))) rfl ?_
  refine am_ialdN (n := 180) (v := nI 42) rfl rfl rfl (by omega) (by rw [am_wr_ne _ (by omega)]; exact h5) (by decide) ?_
  refine am_run 1 (pc' := 61) (ls' := [some (.ref 0), some (.int (nI 123)), some (.int (nI 0)), some (.int (nI (120 + n)))]) (st' := [.int (nI 36), .int (nI 42)]) (σ' := (am_wr σ 0 32 (nI tr))) rfl ?_
  refine am_ic (ty := 64) (tn := 89) rfl (by decide) rfl rfl (fun (h_4 : nI 42 = nI 36) => ?_) (fun (h_4 : ¬ (nI 42 = nI 36)) => ?_)
  · exact absurd h_4 (by decide)
  refine am_run 4 (pc' := 95) (ls' := [some (.ref 0), some (.int (nI 123)), some (.int (nI 0)), some (.int (nI (120 + n)))]) (st' := [.int (σ.1 0 23), .int (nI 2), .ref 0]) (σ' := (am_wr σ 0 32 (nI tr))) rfl ?_
  refine am_top (v' := nI n) h23 ?_
  refine am_run 1 (pc' := 96) (ls' := [some (.ref 0), some (.int (nI 123)), some (.int (nI 0)), some (.int (nI (120 + n)))]) (st' := [.int (nI 0), .int (nI n), .int (nI 2), .ref 0]) (σ' := (am_wr σ 0 32 (nI tr))) rfl ?_
  refine am_invv (y := 165) (b := 0) (as := [.int (nI 2), .int (nI n), .int (nI 0)]) (rest := []) rfl rfl rfl rfl rfl rfl rfl (Nat.le_of_ble_eq_true rfl) ?_
  refine c_m_opens (lev := lev) (by omega) (by rw [am_diff _ _ _ _ _ (by decide)]; exact h24) hlev ?_
  show am_G _ M_X10_readsBracket _ 99 [some (.ref 0), some (.int (nI 123)), some (.int (nI 0)), some (.int (nI (120 + n)))] [] (am_wr (am_wr (am_wr (am_wr (am_wr (am_wr (am_wr (am_wr (am_wr (am_wr σ 0 32 (nI tr)) 0 24 (nI (lev + 1))) 24 (lev + 1) (-1)) 26 (lev + 1) (-1)) 23 (lev + 1) (-1)) 25 (lev + 1) (-1)) 20 (lev + 1) (nI 2)) 21 (lev + 1) (nI n)) 22 (lev + 1) (nI 0)) 0 22 (nI 0))
  refine am_run 1 (pc' := 100) (ls' := [some (.ref 0), some (.int (nI 123)), some (.int (nI 0)), some (.int (nI (120 + n)))]) (st' := [.int (nI 0)]) (σ' := (am_wr (am_wr (am_wr (am_wr (am_wr (am_wr (am_wr (am_wr (am_wr (am_wr σ 0 32 (nI tr)) 0 24 (nI (lev + 1))) 24 (lev + 1) (-1)) 26 (lev + 1) (-1)) 23 (lev + 1) (-1)) 25 (lev + 1) (-1)) 20 (lev + 1) (nI 2)) 21 (lev + 1) (nI n)) 22 (lev + 1) (nI 0)) 0 22 (nI 0))) rfl ?_
  refine am_reti rfl rfl ?_
  exact hq
set_option maxRecDepth 10000 in
set_option maxHeartbeats 2000000 in
theorem rb_94_0 {d : Nat} (hd : 6 ≤ d) {σ : am_M} {n tr nw lev : Nat} (h24 : σ.1 0 24 = nI lev) (hlev : lev < 12) (h23 : σ.1 0 23 = nI n) (hn : n < 60) (h32 : σ.1 0 32 = nI tr) (h5 : σ.1 5 (120 + n) = nI 94) {Q : am_Q} (hq : Q (some (.int (nI 0))) (am_wr (am_wr (am_wr (am_wr (am_wr (am_wr (am_wr (am_wr (am_wr (am_wr σ 0 32 (nI (tr + 1))) 0 24 (nI (lev + 1))) 24 (lev + 1) (-1)) 26 (lev + 1) (-1)) 23 (lev + 1) (-1)) 25 (lev + 1) (-1)) 20 (lev + 1) (nI 2)) 21 (lev + 1) (nI n)) 22 (lev + 1) (nI 0)) 0 22 (nI 0))) : am_C d 170 [.ref 0, .int (nI 123), .int (nI 0)] σ Q := by
  refine am_enter' (M := M_X10_readsBracket) rfl rfl rfl (by omega) (ls := [some (.ref 0), some (.int (nI 123)), some (.int (nI 0)), none]) rfl (fun d' hd' => ?_)
  refine am_run 2 (pc' := 3) (ls' := [some (.ref 0), some (.int (nI 123)), some (.int (nI 0)), none]) (st' := [.int (nI 123), .int (nI 123)]) (σ' := σ) rfl ?_
  refine am_ic (ty := 8) (tn := 6) rfl (by decide) rfl rfl (fun (h_1 : nI 123 = nI 123) => ?_) (fun (h_1 : ¬ (nI 123 = nI 123)) => ?_)
  rotate_left
  · exact absurd (by decide) h_1
  refine am_run 2 (pc' := 12) (ls' := [some (.ref 0), some (.int (nI 123)), some (.int (nI 0)), none]) (st' := [.int (σ.1 0 24)]) (σ' := σ) rfl ?_
  refine am_top (v' := nI lev) h24 ?_
  refine am_run 1 (pc' := 14) (ls' := [some (.ref 0), some (.int (nI 123)), some (.int (nI 0)), none]) (st' := [.int (nI 12), .int (nI lev)]) (σ' := σ) rfl ?_
  refine am_ic (ty := 17) (tn := 19) rfl (by decide) rfl rfl (fun (h_2 : nI lev = nI 12) => ?_) (fun (h_2 : ¬ (nI lev = nI 12)) => ?_)
  · have h_2 : lev = 12 := (nI_eq (by omega) (by omega)).mp h_2
    omega
  have h_2 : ¬ (lev = 12) := fun z => h_2 ((nI_eq (by omega) (by omega)).mpr z)
  refine am_run 3 (pc' := 24) (ls' := [some (.ref 0), some (.int (nI 123)), some (.int (nI 0)), none]) (st' := [.int (σ.1 0 23), .int (nI 2)]) (σ' := σ) rfl ?_
  refine am_top (v' := nI n) h23 ?_
  refine am_invs (y := 158) (as := [.int (nI 2), .int (nI n)]) (rest := []) rfl rfl rfl rfl rfl rfl (Nat.le_of_ble_eq_true rfl) ?_
  refine c_m_placeOf (by omega) (j := 2) ?_
  show am_G _ M_X10_readsBracket _ 27 [some (.ref 0), some (.int (nI 123)), some (.int (nI 0)), none] [.int (nI (120 + n))] σ
  refine am_run 4 (pc' := 33) (ls' := [some (.ref 0), some (.int (nI 123)), some (.int (nI 0)), some (.int (nI (120 + n)))]) (st' := [.int (σ.1 0 32), .ref 0]) (σ' := σ) rfl ?_
  refine am_top (v' := nI tr) h32 ?_
  refine am_run 3 (pc' := 38) (ls' := [some (.ref 0), some (.int (nI 123)), some (.int (nI 0)), some (.int (nI (120 + n)))]) (st' := [.int (nI (120 + n)), .ref 5, .int (nI tr), .ref 0]) (σ' := σ) rfl ?_
  refine am_ialdN (n := 180) (v := nI 94) rfl rfl rfl (by omega) (h5) (by decide) ?_
  refine am_run 1 (pc' := 41) (ls' := [some (.ref 0), some (.int (nI 123)), some (.int (nI 0)), some (.int (nI (120 + n)))]) (st' := [.int (nI 94), .int (nI 94), .int (nI tr), .ref 0]) (σ' := σ) rfl ?_
  refine am_ic (ty := 44) (tn := 48) rfl (by decide) rfl rfl (fun (h_3 : nI 94 = nI 94) => ?_) (fun (h_3 : ¬ (nI 94 = nI 94)) => ?_)
  rotate_left
  · exact absurd (by decide) h_3
  refine am_run 3 (pc' := 50) (ls' := [some (.ref 0), some (.int (nI 123)), some (.int (nI 0)), some (.int (nI (120 + n)))]) (st' := [.int (nI tr + nI 1), .ref 0]) (σ' := σ) rfl ?_
  refine am_top (v' := nI (tr + 1)) (nI_add _ _) ?_
  refine am_run 4 (pc' := 58) (ls' := [some (.ref 0), some (.int (nI 123)), some (.int (nI 0)), some (.int (nI (120 + n)))]) (st' := [.int (nI (120 + n)), .ref 5]) (σ' := (am_wr σ 0 32 (nI (tr + 1)))) rfl ?_
  refine am_ialdN (n := 180) (v := nI 94) rfl rfl rfl (by omega) (by rw [am_wr_ne _ (by omega)]; exact h5) (by decide) ?_
  refine am_run 1 (pc' := 61) (ls' := [some (.ref 0), some (.int (nI 123)), some (.int (nI 0)), some (.int (nI (120 + n)))]) (st' := [.int (nI 36), .int (nI 94)]) (σ' := (am_wr σ 0 32 (nI (tr + 1)))) rfl ?_
  refine am_ic (ty := 64) (tn := 89) rfl (by decide) rfl rfl (fun (h_4 : nI 94 = nI 36) => ?_) (fun (h_4 : ¬ (nI 94 = nI 36)) => ?_)
  · exact absurd h_4 (by decide)
  refine am_run 4 (pc' := 95) (ls' := [some (.ref 0), some (.int (nI 123)), some (.int (nI 0)), some (.int (nI (120 + n)))]) (st' := [.int (σ.1 0 23), .int (nI 2), .ref 0]) (σ' := (am_wr σ 0 32 (nI (tr + 1)))) rfl ?_
  refine am_top (v' := nI n) h23 ?_
  refine am_run 1 (pc' := 96) (ls' := [some (.ref 0), some (.int (nI 123)), some (.int (nI 0)), some (.int (nI (120 + n)))]) (st' := [.int (nI 0), .int (nI n), .int (nI 2), .ref 0]) (σ' := (am_wr σ 0 32 (nI (tr + 1)))) rfl ?_
  refine am_invv (y := 165) (b := 0) (as := [.int (nI 2), .int (nI n), .int (nI 0)]) (rest := []) rfl rfl rfl rfl rfl rfl rfl (Nat.le_of_ble_eq_true rfl) ?_
  refine c_m_opens (lev := lev) (by omega) (by rw [am_diff _ _ _ _ _ (by decide)]; exact h24) hlev ?_
  show am_G _ M_X10_readsBracket _ 99 [some (.ref 0), some (.int (nI 123)), some (.int (nI 0)), some (.int (nI (120 + n)))] [] (am_wr (am_wr (am_wr (am_wr (am_wr (am_wr (am_wr (am_wr (am_wr (am_wr σ 0 32 (nI (tr + 1))) 0 24 (nI (lev + 1))) 24 (lev + 1) (-1)) 26 (lev + 1) (-1)) 23 (lev + 1) (-1)) 25 (lev + 1) (-1)) 20 (lev + 1) (nI 2)) 21 (lev + 1) (nI n)) 22 (lev + 1) (nI 0)) 0 22 (nI 0))
  refine am_run 1 (pc' := 100) (ls' := [some (.ref 0), some (.int (nI 123)), some (.int (nI 0)), some (.int (nI (120 + n)))]) (st' := [.int (nI 0)]) (σ' := (am_wr (am_wr (am_wr (am_wr (am_wr (am_wr (am_wr (am_wr (am_wr (am_wr σ 0 32 (nI (tr + 1))) 0 24 (nI (lev + 1))) 24 (lev + 1) (-1)) 26 (lev + 1) (-1)) 23 (lev + 1) (-1)) 25 (lev + 1) (-1)) 20 (lev + 1) (nI 2)) 21 (lev + 1) (nI n)) 22 (lev + 1) (nI 0)) 0 22 (nI 0))) rfl ?_
  refine am_reti rfl rfl ?_
  exact hq
set_option maxRecDepth 10000 in
set_option maxHeartbeats 2000000 in
theorem rb_64_0 {d : Nat} (hd : 6 ≤ d) {σ : am_M} {n tr nw lev : Nat} (h24 : σ.1 0 24 = nI lev) (hlev : lev < 12) (h23 : σ.1 0 23 = nI n) (hn : n < 60) (h32 : σ.1 0 32 = nI tr) (h5 : σ.1 5 (120 + n) = nI 64) {Q : am_Q} (hq : Q (some (.int (nI 0))) (am_wr (am_wr (am_wr (am_wr (am_wr (am_wr (am_wr (am_wr (am_wr (am_wr σ 0 32 (nI tr)) 0 24 (nI (lev + 1))) 24 (lev + 1) (-1)) 26 (lev + 1) (-1)) 23 (lev + 1) (-1)) 25 (lev + 1) (-1)) 20 (lev + 1) (nI 2)) 21 (lev + 1) (nI n)) 22 (lev + 1) (nI 0)) 0 22 (nI 0))) : am_C d 170 [.ref 0, .int (nI 123), .int (nI 0)] σ Q := by
  refine am_enter' (M := M_X10_readsBracket) rfl rfl rfl (by omega) (ls := [some (.ref 0), some (.int (nI 123)), some (.int (nI 0)), none]) rfl (fun d' hd' => ?_)
  refine am_run 2 (pc' := 3) (ls' := [some (.ref 0), some (.int (nI 123)), some (.int (nI 0)), none]) (st' := [.int (nI 123), .int (nI 123)]) (σ' := σ) rfl ?_
  refine am_ic (ty := 8) (tn := 6) rfl (by decide) rfl rfl (fun (h_1 : nI 123 = nI 123) => ?_) (fun (h_1 : ¬ (nI 123 = nI 123)) => ?_)
  rotate_left
  · exact absurd (by decide) h_1
  refine am_run 2 (pc' := 12) (ls' := [some (.ref 0), some (.int (nI 123)), some (.int (nI 0)), none]) (st' := [.int (σ.1 0 24)]) (σ' := σ) rfl ?_
  refine am_top (v' := nI lev) h24 ?_
  refine am_run 1 (pc' := 14) (ls' := [some (.ref 0), some (.int (nI 123)), some (.int (nI 0)), none]) (st' := [.int (nI 12), .int (nI lev)]) (σ' := σ) rfl ?_
  refine am_ic (ty := 17) (tn := 19) rfl (by decide) rfl rfl (fun (h_2 : nI lev = nI 12) => ?_) (fun (h_2 : ¬ (nI lev = nI 12)) => ?_)
  · have h_2 : lev = 12 := (nI_eq (by omega) (by omega)).mp h_2
    omega
  have h_2 : ¬ (lev = 12) := fun z => h_2 ((nI_eq (by omega) (by omega)).mpr z)
  refine am_run 3 (pc' := 24) (ls' := [some (.ref 0), some (.int (nI 123)), some (.int (nI 0)), none]) (st' := [.int (σ.1 0 23), .int (nI 2)]) (σ' := σ) rfl ?_
  refine am_top (v' := nI n) h23 ?_
  refine am_invs (y := 158) (as := [.int (nI 2), .int (nI n)]) (rest := []) rfl rfl rfl rfl rfl rfl (Nat.le_of_ble_eq_true rfl) ?_
  refine c_m_placeOf (by omega) (j := 2) ?_
  show am_G _ M_X10_readsBracket _ 27 [some (.ref 0), some (.int (nI 123)), some (.int (nI 0)), none] [.int (nI (120 + n))] σ
  refine am_run 4 (pc' := 33) (ls' := [some (.ref 0), some (.int (nI 123)), some (.int (nI 0)), some (.int (nI (120 + n)))]) (st' := [.int (σ.1 0 32), .ref 0]) (σ' := σ) rfl ?_
  refine am_top (v' := nI tr) h32 ?_
  refine am_run 3 (pc' := 38) (ls' := [some (.ref 0), some (.int (nI 123)), some (.int (nI 0)), some (.int (nI (120 + n)))]) (st' := [.int (nI (120 + n)), .ref 5, .int (nI tr), .ref 0]) (σ' := σ) rfl ?_
  refine am_ialdN (n := 180) (v := nI 64) rfl rfl rfl (by omega) (h5) (by decide) ?_
  refine am_run 1 (pc' := 41) (ls' := [some (.ref 0), some (.int (nI 123)), some (.int (nI 0)), some (.int (nI (120 + n)))]) (st' := [.int (nI 94), .int (nI 64), .int (nI tr), .ref 0]) (σ' := σ) rfl ?_
  refine am_ic (ty := 44) (tn := 48) rfl (by decide) rfl rfl (fun (h_3 : nI 64 = nI 94) => ?_) (fun (h_3 : ¬ (nI 64 = nI 94)) => ?_)
  · exact absurd h_3 (by decide)
  refine am_run 2 (pc' := 50) (ls' := [some (.ref 0), some (.int (nI 123)), some (.int (nI 0)), some (.int (nI (120 + n)))]) (st' := [.int (nI tr + nI 0), .ref 0]) (σ' := σ) rfl ?_
  refine am_top (v' := nI tr) (by rw [nI_add, Nat.add_zero]) ?_
  refine am_run 4 (pc' := 58) (ls' := [some (.ref 0), some (.int (nI 123)), some (.int (nI 0)), some (.int (nI (120 + n)))]) (st' := [.int (nI (120 + n)), .ref 5]) (σ' := (am_wr σ 0 32 (nI tr))) rfl ?_
  refine am_ialdN (n := 180) (v := nI 64) rfl rfl rfl (by omega) (by rw [am_wr_ne _ (by omega)]; exact h5) (by decide) ?_
  refine am_run 1 (pc' := 61) (ls' := [some (.ref 0), some (.int (nI 123)), some (.int (nI 0)), some (.int (nI (120 + n)))]) (st' := [.int (nI 36), .int (nI 64)]) (σ' := (am_wr σ 0 32 (nI tr))) rfl ?_
  refine am_ic (ty := 64) (tn := 89) rfl (by decide) rfl rfl (fun (h_4 : nI 64 = nI 36) => ?_) (fun (h_4 : ¬ (nI 64 = nI 36)) => ?_)
  · exact absurd h_4 (by decide)
  refine am_run 4 (pc' := 95) (ls' := [some (.ref 0), some (.int (nI 123)), some (.int (nI 0)), some (.int (nI (120 + n)))]) (st' := [.int (σ.1 0 23), .int (nI 2), .ref 0]) (σ' := (am_wr σ 0 32 (nI tr))) rfl ?_
  refine am_top (v' := nI n) h23 ?_
  refine am_run 1 (pc' := 96) (ls' := [some (.ref 0), some (.int (nI 123)), some (.int (nI 0)), some (.int (nI (120 + n)))]) (st' := [.int (nI 0), .int (nI n), .int (nI 2), .ref 0]) (σ' := (am_wr σ 0 32 (nI tr))) rfl ?_
  refine am_invv (y := 165) (b := 0) (as := [.int (nI 2), .int (nI n), .int (nI 0)]) (rest := []) rfl rfl rfl rfl rfl rfl rfl (Nat.le_of_ble_eq_true rfl) ?_
  refine c_m_opens (lev := lev) (by omega) (by rw [am_diff _ _ _ _ _ (by decide)]; exact h24) hlev ?_
  show am_G _ M_X10_readsBracket _ 99 [some (.ref 0), some (.int (nI 123)), some (.int (nI 0)), some (.int (nI (120 + n)))] [] (am_wr (am_wr (am_wr (am_wr (am_wr (am_wr (am_wr (am_wr (am_wr (am_wr σ 0 32 (nI tr)) 0 24 (nI (lev + 1))) 24 (lev + 1) (-1)) 26 (lev + 1) (-1)) 23 (lev + 1) (-1)) 25 (lev + 1) (-1)) 20 (lev + 1) (nI 2)) 21 (lev + 1) (nI n)) 22 (lev + 1) (nI 0)) 0 22 (nI 0))
  refine am_run 1 (pc' := 100) (ls' := [some (.ref 0), some (.int (nI 123)), some (.int (nI 0)), some (.int (nI (120 + n)))]) (st' := [.int (nI 0)]) (σ' := (am_wr (am_wr (am_wr (am_wr (am_wr (am_wr (am_wr (am_wr (am_wr (am_wr σ 0 32 (nI tr)) 0 24 (nI (lev + 1))) 24 (lev + 1) (-1)) 26 (lev + 1) (-1)) 23 (lev + 1) (-1)) 25 (lev + 1) (-1)) 20 (lev + 1) (nI 2)) 21 (lev + 1) (nI n)) 22 (lev + 1) (nI 0)) 0 22 (nI 0))) rfl ?_
  refine am_reti rfl rfl ?_
  exact hq
set_option maxRecDepth 10000 in
set_option maxHeartbeats 2000000 in
theorem rb_126_0 {d : Nat} (hd : 6 ≤ d) {σ : am_M} {n tr nw lev : Nat} (h24 : σ.1 0 24 = nI lev) (hlev : lev < 12) (h23 : σ.1 0 23 = nI n) (hn : n < 60) (h32 : σ.1 0 32 = nI tr) (h5 : σ.1 5 (120 + n) = nI 126) {Q : am_Q} (hq : Q (some (.int (nI 0))) (am_wr (am_wr (am_wr (am_wr (am_wr (am_wr (am_wr (am_wr (am_wr (am_wr σ 0 32 (nI tr)) 0 24 (nI (lev + 1))) 24 (lev + 1) (-1)) 26 (lev + 1) (-1)) 23 (lev + 1) (-1)) 25 (lev + 1) (-1)) 20 (lev + 1) (nI 2)) 21 (lev + 1) (nI n)) 22 (lev + 1) (nI 0)) 0 22 (nI 0))) : am_C d 170 [.ref 0, .int (nI 123), .int (nI 0)] σ Q := by
  refine am_enter' (M := M_X10_readsBracket) rfl rfl rfl (by omega) (ls := [some (.ref 0), some (.int (nI 123)), some (.int (nI 0)), none]) rfl (fun d' hd' => ?_)
  refine am_run 2 (pc' := 3) (ls' := [some (.ref 0), some (.int (nI 123)), some (.int (nI 0)), none]) (st' := [.int (nI 123), .int (nI 123)]) (σ' := σ) rfl ?_
  refine am_ic (ty := 8) (tn := 6) rfl (by decide) rfl rfl (fun (h_1 : nI 123 = nI 123) => ?_) (fun (h_1 : ¬ (nI 123 = nI 123)) => ?_)
  rotate_left
  · exact absurd (by decide) h_1
  refine am_run 2 (pc' := 12) (ls' := [some (.ref 0), some (.int (nI 123)), some (.int (nI 0)), none]) (st' := [.int (σ.1 0 24)]) (σ' := σ) rfl ?_
  refine am_top (v' := nI lev) h24 ?_
  refine am_run 1 (pc' := 14) (ls' := [some (.ref 0), some (.int (nI 123)), some (.int (nI 0)), none]) (st' := [.int (nI 12), .int (nI lev)]) (σ' := σ) rfl ?_
  refine am_ic (ty := 17) (tn := 19) rfl (by decide) rfl rfl (fun (h_2 : nI lev = nI 12) => ?_) (fun (h_2 : ¬ (nI lev = nI 12)) => ?_)
  · have h_2 : lev = 12 := (nI_eq (by omega) (by omega)).mp h_2
    omega
  have h_2 : ¬ (lev = 12) := fun z => h_2 ((nI_eq (by omega) (by omega)).mpr z)
  refine am_run 3 (pc' := 24) (ls' := [some (.ref 0), some (.int (nI 123)), some (.int (nI 0)), none]) (st' := [.int (σ.1 0 23), .int (nI 2)]) (σ' := σ) rfl ?_
  refine am_top (v' := nI n) h23 ?_
  refine am_invs (y := 158) (as := [.int (nI 2), .int (nI n)]) (rest := []) rfl rfl rfl rfl rfl rfl (Nat.le_of_ble_eq_true rfl) ?_
  refine c_m_placeOf (by omega) (j := 2) ?_
  show am_G _ M_X10_readsBracket _ 27 [some (.ref 0), some (.int (nI 123)), some (.int (nI 0)), none] [.int (nI (120 + n))] σ
  refine am_run 4 (pc' := 33) (ls' := [some (.ref 0), some (.int (nI 123)), some (.int (nI 0)), some (.int (nI (120 + n)))]) (st' := [.int (σ.1 0 32), .ref 0]) (σ' := σ) rfl ?_
  refine am_top (v' := nI tr) h32 ?_
  refine am_run 3 (pc' := 38) (ls' := [some (.ref 0), some (.int (nI 123)), some (.int (nI 0)), some (.int (nI (120 + n)))]) (st' := [.int (nI (120 + n)), .ref 5, .int (nI tr), .ref 0]) (σ' := σ) rfl ?_
  refine am_ialdN (n := 180) (v := nI 126) rfl rfl rfl (by omega) (h5) (by decide) ?_
  refine am_run 1 (pc' := 41) (ls' := [some (.ref 0), some (.int (nI 123)), some (.int (nI 0)), some (.int (nI (120 + n)))]) (st' := [.int (nI 94), .int (nI 126), .int (nI tr), .ref 0]) (σ' := σ) rfl ?_
  refine am_ic (ty := 44) (tn := 48) rfl (by decide) rfl rfl (fun (h_3 : nI 126 = nI 94) => ?_) (fun (h_3 : ¬ (nI 126 = nI 94)) => ?_)
  · exact absurd h_3 (by decide)
  refine am_run 2 (pc' := 50) (ls' := [some (.ref 0), some (.int (nI 123)), some (.int (nI 0)), some (.int (nI (120 + n)))]) (st' := [.int (nI tr + nI 0), .ref 0]) (σ' := σ) rfl ?_
  refine am_top (v' := nI tr) (by rw [nI_add, Nat.add_zero]) ?_
  refine am_run 4 (pc' := 58) (ls' := [some (.ref 0), some (.int (nI 123)), some (.int (nI 0)), some (.int (nI (120 + n)))]) (st' := [.int (nI (120 + n)), .ref 5]) (σ' := (am_wr σ 0 32 (nI tr))) rfl ?_
  refine am_ialdN (n := 180) (v := nI 126) rfl rfl rfl (by omega) (by rw [am_wr_ne _ (by omega)]; exact h5) (by decide) ?_
  refine am_run 1 (pc' := 61) (ls' := [some (.ref 0), some (.int (nI 123)), some (.int (nI 0)), some (.int (nI (120 + n)))]) (st' := [.int (nI 36), .int (nI 126)]) (σ' := (am_wr σ 0 32 (nI tr))) rfl ?_
  refine am_ic (ty := 64) (tn := 89) rfl (by decide) rfl rfl (fun (h_4 : nI 126 = nI 36) => ?_) (fun (h_4 : ¬ (nI 126 = nI 36)) => ?_)
  · exact absurd h_4 (by decide)
  refine am_run 4 (pc' := 95) (ls' := [some (.ref 0), some (.int (nI 123)), some (.int (nI 0)), some (.int (nI (120 + n)))]) (st' := [.int (σ.1 0 23), .int (nI 2), .ref 0]) (σ' := (am_wr σ 0 32 (nI tr))) rfl ?_
  refine am_top (v' := nI n) h23 ?_
  refine am_run 1 (pc' := 96) (ls' := [some (.ref 0), some (.int (nI 123)), some (.int (nI 0)), some (.int (nI (120 + n)))]) (st' := [.int (nI 0), .int (nI n), .int (nI 2), .ref 0]) (σ' := (am_wr σ 0 32 (nI tr))) rfl ?_
  refine am_invv (y := 165) (b := 0) (as := [.int (nI 2), .int (nI n), .int (nI 0)]) (rest := []) rfl rfl rfl rfl rfl rfl rfl (Nat.le_of_ble_eq_true rfl) ?_
  refine c_m_opens (lev := lev) (by omega) (by rw [am_diff _ _ _ _ _ (by decide)]; exact h24) hlev ?_
  show am_G _ M_X10_readsBracket _ 99 [some (.ref 0), some (.int (nI 123)), some (.int (nI 0)), some (.int (nI (120 + n)))] [] (am_wr (am_wr (am_wr (am_wr (am_wr (am_wr (am_wr (am_wr (am_wr (am_wr σ 0 32 (nI tr)) 0 24 (nI (lev + 1))) 24 (lev + 1) (-1)) 26 (lev + 1) (-1)) 23 (lev + 1) (-1)) 25 (lev + 1) (-1)) 20 (lev + 1) (nI 2)) 21 (lev + 1) (nI n)) 22 (lev + 1) (nI 0)) 0 22 (nI 0))
  refine am_run 1 (pc' := 100) (ls' := [some (.ref 0), some (.int (nI 123)), some (.int (nI 0)), some (.int (nI (120 + n)))]) (st' := [.int (nI 0)]) (σ' := (am_wr (am_wr (am_wr (am_wr (am_wr (am_wr (am_wr (am_wr (am_wr (am_wr σ 0 32 (nI tr)) 0 24 (nI (lev + 1))) 24 (lev + 1) (-1)) 26 (lev + 1) (-1)) 23 (lev + 1) (-1)) 25 (lev + 1) (-1)) 20 (lev + 1) (nI 2)) 21 (lev + 1) (nI n)) 22 (lev + 1) (nI 0)) 0 22 (nI 0))) rfl ?_
  refine am_reti rfl rfl ?_
  exact hq
set_option maxRecDepth 10000 in
set_option maxHeartbeats 2000000 in
theorem rb_36_0 {d : Nat} (hd : 6 ≤ d) {σ : am_M} {n tr nw lev : Nat} (h24 : σ.1 0 24 = nI lev) (hlev : lev < 12) (h23 : σ.1 0 23 = nI n) (hn : n < 60) (h32 : σ.1 0 32 = nI tr) (h5 : σ.1 5 (120 + n) = nI 36) {sg : Nat} (h33 : σ.1 0 33 = nI nw) (hnw : nw < 3) (h6 : σ.1 6 (120 + n) = nI sg) {Q : am_Q} (hq : Q (some (.int (nI 0))) (am_wr (am_wr (am_wr (am_wr (am_wr (am_wr (am_wr (am_wr (am_wr (am_wr (am_wr (am_wr σ 0 32 (nI tr)) 27 nw (nI sg)) 0 33 (nI (nw + 1))) 0 24 (nI (lev + 1))) 24 (lev + 1) (-1)) 26 (lev + 1) (-1)) 23 (lev + 1) (-1)) 25 (lev + 1) (-1)) 20 (lev + 1) (nI 2)) 21 (lev + 1) (nI n)) 22 (lev + 1) (nI 0)) 0 22 (nI 0))) : am_C d 170 [.ref 0, .int (nI 123), .int (nI 0)] σ Q := by
  refine am_enter' (M := M_X10_readsBracket) rfl rfl rfl (by omega) (ls := [some (.ref 0), some (.int (nI 123)), some (.int (nI 0)), none]) rfl (fun d' hd' => ?_)
  refine am_run 2 (pc' := 3) (ls' := [some (.ref 0), some (.int (nI 123)), some (.int (nI 0)), none]) (st' := [.int (nI 123), .int (nI 123)]) (σ' := σ) rfl ?_
  refine am_ic (ty := 8) (tn := 6) rfl (by decide) rfl rfl (fun (h_1 : nI 123 = nI 123) => ?_) (fun (h_1 : ¬ (nI 123 = nI 123)) => ?_)
  rotate_left
  · exact absurd (by decide) h_1
  refine am_run 2 (pc' := 12) (ls' := [some (.ref 0), some (.int (nI 123)), some (.int (nI 0)), none]) (st' := [.int (σ.1 0 24)]) (σ' := σ) rfl ?_
  refine am_top (v' := nI lev) h24 ?_
  refine am_run 1 (pc' := 14) (ls' := [some (.ref 0), some (.int (nI 123)), some (.int (nI 0)), none]) (st' := [.int (nI 12), .int (nI lev)]) (σ' := σ) rfl ?_
  refine am_ic (ty := 17) (tn := 19) rfl (by decide) rfl rfl (fun (h_2 : nI lev = nI 12) => ?_) (fun (h_2 : ¬ (nI lev = nI 12)) => ?_)
  · have h_2 : lev = 12 := (nI_eq (by omega) (by omega)).mp h_2
    omega
  have h_2 : ¬ (lev = 12) := fun z => h_2 ((nI_eq (by omega) (by omega)).mpr z)
  refine am_run 3 (pc' := 24) (ls' := [some (.ref 0), some (.int (nI 123)), some (.int (nI 0)), none]) (st' := [.int (σ.1 0 23), .int (nI 2)]) (σ' := σ) rfl ?_
  refine am_top (v' := nI n) h23 ?_
  refine am_invs (y := 158) (as := [.int (nI 2), .int (nI n)]) (rest := []) rfl rfl rfl rfl rfl rfl (Nat.le_of_ble_eq_true rfl) ?_
  refine c_m_placeOf (by omega) (j := 2) ?_
  show am_G _ M_X10_readsBracket _ 27 [some (.ref 0), some (.int (nI 123)), some (.int (nI 0)), none] [.int (nI (120 + n))] σ
  refine am_run 4 (pc' := 33) (ls' := [some (.ref 0), some (.int (nI 123)), some (.int (nI 0)), some (.int (nI (120 + n)))]) (st' := [.int (σ.1 0 32), .ref 0]) (σ' := σ) rfl ?_
  refine am_top (v' := nI tr) h32 ?_
  refine am_run 3 (pc' := 38) (ls' := [some (.ref 0), some (.int (nI 123)), some (.int (nI 0)), some (.int (nI (120 + n)))]) (st' := [.int (nI (120 + n)), .ref 5, .int (nI tr), .ref 0]) (σ' := σ) rfl ?_
  refine am_ialdN (n := 180) (v := nI 36) rfl rfl rfl (by omega) (h5) (by decide) ?_
  refine am_run 1 (pc' := 41) (ls' := [some (.ref 0), some (.int (nI 123)), some (.int (nI 0)), some (.int (nI (120 + n)))]) (st' := [.int (nI 94), .int (nI 36), .int (nI tr), .ref 0]) (σ' := σ) rfl ?_
  refine am_ic (ty := 44) (tn := 48) rfl (by decide) rfl rfl (fun (h_3 : nI 36 = nI 94) => ?_) (fun (h_3 : ¬ (nI 36 = nI 94)) => ?_)
  · exact absurd h_3 (by decide)
  refine am_run 2 (pc' := 50) (ls' := [some (.ref 0), some (.int (nI 123)), some (.int (nI 0)), some (.int (nI (120 + n)))]) (st' := [.int (nI tr + nI 0), .ref 0]) (σ' := σ) rfl ?_
  refine am_top (v' := nI tr) (by rw [nI_add, Nat.add_zero]) ?_
  refine am_run 4 (pc' := 58) (ls' := [some (.ref 0), some (.int (nI 123)), some (.int (nI 0)), some (.int (nI (120 + n)))]) (st' := [.int (nI (120 + n)), .ref 5]) (σ' := (am_wr σ 0 32 (nI tr))) rfl ?_
  refine am_ialdN (n := 180) (v := nI 36) rfl rfl rfl (by omega) (by rw [am_wr_ne _ (by omega)]; exact h5) (by decide) ?_
  refine am_run 1 (pc' := 61) (ls' := [some (.ref 0), some (.int (nI 123)), some (.int (nI 0)), some (.int (nI (120 + n)))]) (st' := [.int (nI 36), .int (nI 36)]) (σ' := (am_wr σ 0 32 (nI tr))) rfl ?_
  refine am_ic (ty := 64) (tn := 89) rfl (by decide) rfl rfl (fun (h_4 : nI 36 = nI 36) => ?_) (fun (h_4 : ¬ (nI 36 = nI 36)) => ?_)
  rotate_left
  · exact absurd (by decide) h_4
  refine am_run 4 (pc' := 72) (ls' := [some (.ref 0), some (.int (nI 123)), some (.int (nI 0)), some (.int (nI (120 + n)))]) (st' := [.int (σ.1 0 33), .ref 27]) (σ' := (am_wr σ 0 32 (nI tr))) rfl ?_
  refine am_top (v' := nI nw) h33 ?_
  refine am_run 3 (pc' := 77) (ls' := [some (.ref 0), some (.int (nI 123)), some (.int (nI 0)), some (.int (nI (120 + n)))]) (st' := [.int (nI (120 + n)), .ref 6, .int (nI nw), .ref 27]) (σ' := (am_wr σ 0 32 (nI tr))) rfl ?_
  refine am_ialdN (n := 180) (v := nI sg) rfl rfl rfl (by omega) (by rw [am_wr_ne _ (by omega)]; exact h6) (by decide) ?_
  refine am_iastN (n := 4) rfl rfl rfl (by omega) (by decide) ?_
  refine am_run 3 (pc' := 84) (ls' := [some (.ref 0), some (.int (nI 123)), some (.int (nI 0)), some (.int (nI (120 + n)))]) (st' := [.int (σ.1 0 33), .ref 0]) (σ' := (am_wr (am_wr σ 0 32 (nI tr)) 27 nw (nI sg))) rfl ?_
  refine am_top (v' := nI nw) h33 ?_
  refine am_run 2 (pc' := 86) (ls' := [some (.ref 0), some (.int (nI 123)), some (.int (nI 0)), some (.int (nI (120 + n)))]) (st' := [.int (nI nw + nI 1), .ref 0]) (σ' := (am_wr (am_wr σ 0 32 (nI tr)) 27 nw (nI sg))) rfl ?_
  refine am_top (v' := nI (nw + 1)) (nI_add _ _) ?_
  refine am_run 5 (pc' := 95) (ls' := [some (.ref 0), some (.int (nI 123)), some (.int (nI 0)), some (.int (nI (120 + n)))]) (st' := [.int (σ.1 0 23), .int (nI 2), .ref 0]) (σ' := (am_wr (am_wr (am_wr σ 0 32 (nI tr)) 27 nw (nI sg)) 0 33 (nI (nw + 1)))) rfl ?_
  refine am_top (v' := nI n) h23 ?_
  refine am_run 1 (pc' := 96) (ls' := [some (.ref 0), some (.int (nI 123)), some (.int (nI 0)), some (.int (nI (120 + n)))]) (st' := [.int (nI 0), .int (nI n), .int (nI 2), .ref 0]) (σ' := (am_wr (am_wr (am_wr σ 0 32 (nI tr)) 27 nw (nI sg)) 0 33 (nI (nw + 1)))) rfl ?_
  refine am_invv (y := 165) (b := 0) (as := [.int (nI 2), .int (nI n), .int (nI 0)]) (rest := []) rfl rfl rfl rfl rfl rfl rfl (Nat.le_of_ble_eq_true rfl) ?_
  refine c_m_opens (lev := lev) (by omega) (by rw [am_diff _ _ _ _ _ (by decide), am_wr_ne _ (by omega), am_diff _ _ _ _ _ (by decide)]; exact h24) hlev ?_
  show am_G _ M_X10_readsBracket _ 99 [some (.ref 0), some (.int (nI 123)), some (.int (nI 0)), some (.int (nI (120 + n)))] [] (am_wr (am_wr (am_wr (am_wr (am_wr (am_wr (am_wr (am_wr (am_wr (am_wr (am_wr (am_wr σ 0 32 (nI tr)) 27 nw (nI sg)) 0 33 (nI (nw + 1))) 0 24 (nI (lev + 1))) 24 (lev + 1) (-1)) 26 (lev + 1) (-1)) 23 (lev + 1) (-1)) 25 (lev + 1) (-1)) 20 (lev + 1) (nI 2)) 21 (lev + 1) (nI n)) 22 (lev + 1) (nI 0)) 0 22 (nI 0))
  refine am_run 1 (pc' := 100) (ls' := [some (.ref 0), some (.int (nI 123)), some (.int (nI 0)), some (.int (nI (120 + n)))]) (st' := [.int (nI 0)]) (σ' := (am_wr (am_wr (am_wr (am_wr (am_wr (am_wr (am_wr (am_wr (am_wr (am_wr (am_wr (am_wr σ 0 32 (nI tr)) 27 nw (nI sg)) 0 33 (nI (nw + 1))) 0 24 (nI (lev + 1))) 24 (lev + 1) (-1)) 26 (lev + 1) (-1)) 23 (lev + 1) (-1)) 25 (lev + 1) (-1)) 20 (lev + 1) (nI 2)) 21 (lev + 1) (nI n)) 22 (lev + 1) (nI 0)) 0 22 (nI 0))) rfl ?_
  refine am_reti rfl rfl ?_
  exact hq
set_option maxRecDepth 10000 in
set_option maxHeartbeats 2000000 in
theorem cn_63_0 {d : Nat} (hd : 6 ≤ d) {σ : am_M} {v n tr nw lev : Nat} (h24 : σ.1 0 24 = nI (lev + 1)) (hlev : lev < 12) (hno : σ.1 21 (lev + 1) = nI n) (hsc : σ.1 22 (lev + 1) = nI 0) (hn : n < 60) (hv : v < 60) (h32 : σ.1 0 32 = nI (tr)) (h33 : σ.1 0 33 = nI (nw)) (h5 : σ.1 5 (120 + n) = nI 63) {Q : am_Q} (hq : Q none (am_wr (am_wr (am_wr (am_wr (am_wr (am_wr (am_wr σ 0 24 (nI lev)) 7 (120 + n) (nI v)) 15 (120 + v) (nI n)) 0 32 (nI tr)) 0 33 (nI nw)) 0 23 (nI n)) 0 22 (nI 5))) : am_C d 171 [.ref 0, .int (nI v)] σ Q := by
  refine am_enter' (M := M_X10_closesNode) rfl rfl rfl (by omega) (ls := [some (.ref 0), some (.int (nI v)), none, none, none]) rfl (fun d' hd' => ?_)
  refine am_run 4 (pc' := 8) (ls' := [some (.ref 0), some (.int (nI v)), none, none, none]) (st' := [.int (σ.1 0 24), .ref 21]) (σ' := σ) rfl ?_
  refine am_top (v' := nI (lev + 1)) h24 ?_
  refine am_ialdN (n := 13) (v := nI n) rfl rfl rfl (by omega) (hno) (by decide) ?_
  refine am_run 3 (pc' := 12) (ls' := [some (.ref 0), some (.int (nI v)), some (.int (nI n)), none, none]) (st' := [.int (nI n), .int (nI 2)]) (σ' := σ) rfl ?_
  refine am_invs (y := 158) (as := [.int (nI 2), .int (nI n)]) (rest := []) rfl rfl rfl rfl rfl rfl (Nat.le_of_ble_eq_true rfl) ?_
  refine c_m_placeOf (by omega) (j := 2) ?_
  show am_G _ M_X10_closesNode _ 15 [some (.ref 0), some (.int (nI v)), some (.int (nI n)), none, none] [.int (nI (120 + n))] σ
  refine am_run 5 (pc' := 24) (ls' := [some (.ref 0), some (.int (nI v)), some (.int (nI n)), some (.int (nI (120 + n))), none]) (st' := [.int (σ.1 0 24), .ref 22]) (σ' := σ) rfl ?_
  refine am_top (v' := nI (lev + 1)) h24 ?_
  refine am_ialdN (n := 13) (v := nI 0) rfl rfl rfl (by omega) (hsc) (by decide) ?_
  refine am_if (ty := 28) (tn := 32) rfl (by decide) rfl rfl (fun (h_1 : nI 0 = 0) => ?_) (fun (h_1 : ¬ (nI 0 = 0)) => ?_)
  rotate_left
  · exact absurd (by decide) h_1
  refine am_run 6 (pc' := 40) (ls' := [some (.ref 0), some (.int (nI v)), some (.int (nI n)), some (.int (nI (120 + n))), some (.int (nI 1))]) (st' := [.int (σ.1 0 24), .ref 0]) (σ' := σ) rfl ?_
  refine am_top (v' := nI (lev + 1)) h24 ?_
  refine am_run 2 (pc' := 42) (ls' := [some (.ref 0), some (.int (nI v)), some (.int (nI n)), some (.int (nI (120 + n))), some (.int (nI 1))]) (st' := [.int (nI (lev + 1) - nI 1), .ref 0]) (σ' := σ) rfl ?_
  refine am_top (v' := nI lev) (nx_sub (by omega)) ?_
  refine am_run 2 (pc' := 47) (ls' := [some (.ref 0), some (.int (nI v)), some (.int (nI n)), some (.int (nI (120 + n))), some (.int (nI 1))]) (st' := [.int (nI 1)]) (σ' := (am_wr σ 0 24 (nI lev))) rfl ?_
  refine am_if (ty := 60) (tn := 50) rfl (by decide) rfl rfl (fun (h_2 : nI 1 = 0) => ?_) (fun (h_2 : ¬ (nI 1 = 0)) => ?_)
  · exact absurd h_2 (by decide)
  refine am_run 4 (pc' := 56) (ls' := [some (.ref 0), some (.int (nI v)), some (.int (nI n)), some (.int (nI (120 + n))), some (.int (nI 1))]) (st' := [.int (nI v), .int (nI (120 + n)), .ref 7]) (σ' := (am_wr σ 0 24 (nI lev))) rfl ?_
  refine am_iastN (n := 180) rfl rfl rfl (by omega) (by decide) ?_
  refine am_run 5 (pc' := 73) (ls' := [some (.ref 0), some (.int (nI v)), some (.int (nI n)), some (.int (nI (120 + n))), some (.int (nI 1))]) (st' := [.int (nI v), .int (nI 2), .ref 15]) (σ' := (am_wr (am_wr σ 0 24 (nI lev)) 7 (120 + n) (nI v))) rfl ?_
  refine am_invs (y := 158) (as := [.int (nI 2), .int (nI v)]) (rest := [.ref 15]) rfl rfl rfl rfl rfl rfl (Nat.le_of_ble_eq_true rfl) ?_
  refine c_m_placeOf (by omega) (j := 2) ?_
  show am_G _ M_X10_closesNode _ 76 [some (.ref 0), some (.int (nI v)), some (.int (nI n)), some (.int (nI (120 + n))), some (.int (nI 1))] [.int (nI (120 + v)), .ref 15] (am_wr (am_wr σ 0 24 (nI lev)) 7 (120 + n) (nI v))
  refine am_run 1 (pc' := 77) (ls' := [some (.ref 0), some (.int (nI v)), some (.int (nI n)), some (.int (nI (120 + n))), some (.int (nI 1))]) (st' := [.int (nI n), .int (nI (120 + v)), .ref 15]) (σ' := (am_wr (am_wr σ 0 24 (nI lev)) 7 (120 + n) (nI v))) rfl ?_
  refine am_iastN (n := 180) rfl rfl rfl (by omega) (by decide) ?_
  refine am_run 3 (pc' := 83) (ls' := [some (.ref 0), some (.int (nI v)), some (.int (nI n)), some (.int (nI (120 + n))), some (.int (nI 1))]) (st' := [.int (σ.1 0 32), .ref 0]) (σ' := (am_wr (am_wr (am_wr σ 0 24 (nI lev)) 7 (120 + n) (nI v)) 15 (120 + v) (nI n))) rfl ?_
  refine am_top (v' := nI tr) h32 ?_
  refine am_run 3 (pc' := 88) (ls' := [some (.ref 0), some (.int (nI v)), some (.int (nI n)), some (.int (nI (120 + n))), some (.int (nI 1))]) (st' := [.int (nI (120 + n)), .ref 5, .int (nI tr), .ref 0]) (σ' := (am_wr (am_wr (am_wr σ 0 24 (nI lev)) 7 (120 + n) (nI v)) 15 (120 + v) (nI n))) rfl ?_
  refine am_ialdN (n := 180) (v := nI 63) rfl rfl rfl (by omega) (by rw [am_wr_ne _ (by omega), am_wr_ne _ (by omega), am_wr_ne _ (by omega)]; exact h5) (by decide) ?_
  refine am_run 1 (pc' := 91) (ls' := [some (.ref 0), some (.int (nI v)), some (.int (nI n)), some (.int (nI (120 + n))), some (.int (nI 1))]) (st' := [.int (nI 94), .int (nI 63), .int (nI tr), .ref 0]) (σ' := (am_wr (am_wr (am_wr σ 0 24 (nI lev)) 7 (120 + n) (nI v)) 15 (120 + v) (nI n))) rfl ?_
  refine am_ic (ty := 94) (tn := 98) rfl (by decide) rfl rfl (fun (h_3 : nI 63 = nI 94) => ?_) (fun (h_3 : ¬ (nI 63 = nI 94)) => ?_)
  · exact absurd h_3 (by decide)
  refine am_run 2 (pc' := 100) (ls' := [some (.ref 0), some (.int (nI v)), some (.int (nI n)), some (.int (nI (120 + n))), some (.int (nI 1))]) (st' := [.int (nI tr - nI 0), .ref 0]) (σ' := (am_wr (am_wr (am_wr σ 0 24 (nI lev)) 7 (120 + n) (nI v)) 15 (120 + v) (nI n))) rfl ?_
  refine am_top (v' := nI tr) (nx_sub (Nat.zero_le _)) ?_
  refine am_run 4 (pc' := 108) (ls' := [some (.ref 0), some (.int (nI v)), some (.int (nI n)), some (.int (nI (120 + n))), some (.int (nI 1))]) (st' := [.int (σ.1 0 33), .ref 0]) (σ' := (am_wr (am_wr (am_wr (am_wr σ 0 24 (nI lev)) 7 (120 + n) (nI v)) 15 (120 + v) (nI n)) 0 32 (nI tr))) rfl ?_
  refine am_top (v' := nI nw) h33 ?_
  refine am_run 3 (pc' := 113) (ls' := [some (.ref 0), some (.int (nI v)), some (.int (nI n)), some (.int (nI (120 + n))), some (.int (nI 1))]) (st' := [.int (nI (120 + n)), .ref 5, .int (nI nw), .ref 0]) (σ' := (am_wr (am_wr (am_wr (am_wr σ 0 24 (nI lev)) 7 (120 + n) (nI v)) 15 (120 + v) (nI n)) 0 32 (nI tr))) rfl ?_
  refine am_ialdN (n := 180) (v := nI 63) rfl rfl rfl (by omega) (by rw [am_wr_ne _ (by omega), am_wr_ne _ (by omega), am_wr_ne _ (by omega), am_wr_ne _ (by omega)]; exact h5) (by decide) ?_
  refine am_run 1 (pc' := 116) (ls' := [some (.ref 0), some (.int (nI v)), some (.int (nI n)), some (.int (nI (120 + n))), some (.int (nI 1))]) (st' := [.int (nI 36), .int (nI 63), .int (nI nw), .ref 0]) (σ' := (am_wr (am_wr (am_wr (am_wr σ 0 24 (nI lev)) 7 (120 + n) (nI v)) 15 (120 + v) (nI n)) 0 32 (nI tr))) rfl ?_
  refine am_ic (ty := 119) (tn := 123) rfl (by decide) rfl rfl (fun (h_4 : nI 63 = nI 36) => ?_) (fun (h_4 : ¬ (nI 63 = nI 36)) => ?_)
  · exact absurd h_4 (by decide)
  refine am_run 2 (pc' := 125) (ls' := [some (.ref 0), some (.int (nI v)), some (.int (nI n)), some (.int (nI (120 + n))), some (.int (nI 1))]) (st' := [.int (nI nw - nI 0), .ref 0]) (σ' := (am_wr (am_wr (am_wr (am_wr σ 0 24 (nI lev)) 7 (120 + n) (nI v)) 15 (120 + v) (nI n)) 0 32 (nI tr))) rfl ?_
  refine am_top (v' := nI nw) (nx_sub (Nat.zero_le _)) ?_
  refine am_run 7 (pc' := 138) (ls' := [some (.ref 0), some (.int (nI v)), some (.int (nI n)), some (.int (nI (120 + n))), some (.int (nI 1))]) (st' := [.int (nI (120 + n)), .ref 5]) (σ' := (am_wr (am_wr (am_wr (am_wr (am_wr (am_wr σ 0 24 (nI lev)) 7 (120 + n) (nI v)) 15 (120 + v) (nI n)) 0 32 (nI tr)) 0 33 (nI nw)) 0 23 (nI n))) rfl ?_
  refine am_ialdN (n := 180) (v := nI 63) rfl rfl rfl (by omega) (by rw [am_wr_ne _ (by omega), am_wr_ne _ (by omega), am_wr_ne _ (by omega), am_wr_ne _ (by omega), am_wr_ne _ (by omega), am_wr_ne _ (by omega)]; exact h5) (by decide) ?_
  refine am_run 1 (pc' := 141) (ls' := [some (.ref 0), some (.int (nI v)), some (.int (nI n)), some (.int (nI (120 + n))), some (.int (nI 1))]) (st' := [.int (nI 63), .int (nI 63)]) (σ' := (am_wr (am_wr (am_wr (am_wr (am_wr (am_wr σ 0 24 (nI lev)) 7 (120 + n) (nI v)) 15 (120 + v) (nI n)) 0 32 (nI tr)) 0 33 (nI nw)) 0 23 (nI n))) rfl ?_
  refine am_ic (ty := 144) (tn := 157) rfl (by decide) rfl rfl (fun (h_5 : nI 63 = nI 63) => ?_) (fun (h_5 : ¬ (nI 63 = nI 63)) => ?_)
  rotate_left
  · exact absurd (by decide) h_5
  refine am_run 1 (pc' := 146) (ls' := [some (.ref 0), some (.int (nI v)), some (.int (nI n)), some (.int (nI (120 + n))), some (.int (nI 1))]) (st' := [.int (nI 1)]) (σ' := (am_wr (am_wr (am_wr (am_wr (am_wr (am_wr σ 0 24 (nI lev)) 7 (120 + n) (nI v)) 15 (120 + v) (nI n)) 0 32 (nI tr)) 0 33 (nI nw)) 0 23 (nI n))) rfl ?_
  refine am_if (ty := 157) (tn := 149) rfl (by decide) rfl rfl (fun (h_6 : nI 1 = 0) => ?_) (fun (h_6 : ¬ (nI 1 = 0)) => ?_)
  · exact absurd h_6 (by decide)
  refine am_run 4 (pc' := 167) (ls' := [some (.ref 0), some (.int (nI v)), some (.int (nI n)), some (.int (nI (120 + n))), some (.int (nI 1))]) (st' := []) (σ' := (am_wr (am_wr (am_wr (am_wr (am_wr (am_wr (am_wr σ 0 24 (nI lev)) 7 (120 + n) (nI v)) 15 (120 + v) (nI n)) 0 32 (nI tr)) 0 33 (nI nw)) 0 23 (nI n)) 0 22 (nI 5))) rfl ?_
  refine am_retv rfl rfl ?_
  exact hq
set_option maxRecDepth 10000 in
set_option maxHeartbeats 2000000 in
theorem cn_63_1 {d : Nat} (hd : 6 ≤ d) {σ : am_M} {v n tr nw lev e : Nat} (h24 : σ.1 0 24 = nI (lev + 1)) (hlev : lev < 12) (hno : σ.1 21 (lev + 1) = nI n) (hsc : σ.1 22 (lev + 1) = nI 1) (hn : n < 60) (hv : v < 60) (h32 : σ.1 0 32 = nI (tr)) (h33 : σ.1 0 33 = nI (nw)) (h5 : σ.1 5 (120 + n) = nI 63) (h35 : σ.1 0 35 = nI e) (he : e < 60) {Q : am_Q} (hq : EPq (Q none) (am_wr (am_wr (am_wr (am_wr (am_wr (am_wr (am_wr (am_wr σ 0 24 (nI lev)) 8 (120 + n) (nI v)) 15 (120 + v) (nI n)) 0 32 (nI tr)) 0 33 (nI nw)) 0 23 (nI n)) 9 (120 + e) (nI n)) 0 35 (nI (e + 1))) n) : am_C d 171 [.ref 0, .int (nI v)] σ Q := by
  refine am_enter' (M := M_X10_closesNode) rfl rfl rfl (by omega) (ls := [some (.ref 0), some (.int (nI v)), none, none, none]) rfl (fun d' hd' => ?_)
  refine am_run 4 (pc' := 8) (ls' := [some (.ref 0), some (.int (nI v)), none, none, none]) (st' := [.int (σ.1 0 24), .ref 21]) (σ' := σ) rfl ?_
  refine am_top (v' := nI (lev + 1)) h24 ?_
  refine am_ialdN (n := 13) (v := nI n) rfl rfl rfl (by omega) (hno) (by decide) ?_
  refine am_run 3 (pc' := 12) (ls' := [some (.ref 0), some (.int (nI v)), some (.int (nI n)), none, none]) (st' := [.int (nI n), .int (nI 2)]) (σ' := σ) rfl ?_
  refine am_invs (y := 158) (as := [.int (nI 2), .int (nI n)]) (rest := []) rfl rfl rfl rfl rfl rfl (Nat.le_of_ble_eq_true rfl) ?_
  refine c_m_placeOf (by omega) (j := 2) ?_
  show am_G _ M_X10_closesNode _ 15 [some (.ref 0), some (.int (nI v)), some (.int (nI n)), none, none] [.int (nI (120 + n))] σ
  refine am_run 5 (pc' := 24) (ls' := [some (.ref 0), some (.int (nI v)), some (.int (nI n)), some (.int (nI (120 + n))), none]) (st' := [.int (σ.1 0 24), .ref 22]) (σ' := σ) rfl ?_
  refine am_top (v' := nI (lev + 1)) h24 ?_
  refine am_ialdN (n := 13) (v := nI 1) rfl rfl rfl (by omega) (hsc) (by decide) ?_
  refine am_if (ty := 28) (tn := 32) rfl (by decide) rfl rfl (fun (h_1 : nI 1 = 0) => ?_) (fun (h_1 : ¬ (nI 1 = 0)) => ?_)
  · exact absurd h_1 (by decide)
  refine am_run 5 (pc' := 40) (ls' := [some (.ref 0), some (.int (nI v)), some (.int (nI n)), some (.int (nI (120 + n))), some (.int (nI 0))]) (st' := [.int (σ.1 0 24), .ref 0]) (σ' := σ) rfl ?_
  refine am_top (v' := nI (lev + 1)) h24 ?_
  refine am_run 2 (pc' := 42) (ls' := [some (.ref 0), some (.int (nI v)), some (.int (nI n)), some (.int (nI (120 + n))), some (.int (nI 0))]) (st' := [.int (nI (lev + 1) - nI 1), .ref 0]) (σ' := σ) rfl ?_
  refine am_top (v' := nI lev) (nx_sub (by omega)) ?_
  refine am_run 2 (pc' := 47) (ls' := [some (.ref 0), some (.int (nI v)), some (.int (nI n)), some (.int (nI (120 + n))), some (.int (nI 0))]) (st' := [.int (nI 0)]) (σ' := (am_wr σ 0 24 (nI lev))) rfl ?_
  refine am_if (ty := 60) (tn := 50) rfl (by decide) rfl rfl (fun (h_2 : nI 0 = 0) => ?_) (fun (h_2 : ¬ (nI 0 = 0)) => ?_)
  rotate_left
  · exact absurd (by decide) h_2
  refine am_run 4 (pc' := 66) (ls' := [some (.ref 0), some (.int (nI v)), some (.int (nI n)), some (.int (nI (120 + n))), some (.int (nI 0))]) (st' := [.int (nI v), .int (nI (120 + n)), .ref 8]) (σ' := (am_wr σ 0 24 (nI lev))) rfl ?_
  refine am_iastN (n := 180) rfl rfl rfl (by omega) (by decide) ?_
  refine am_run 4 (pc' := 73) (ls' := [some (.ref 0), some (.int (nI v)), some (.int (nI n)), some (.int (nI (120 + n))), some (.int (nI 0))]) (st' := [.int (nI v), .int (nI 2), .ref 15]) (σ' := (am_wr (am_wr σ 0 24 (nI lev)) 8 (120 + n) (nI v))) rfl ?_
  refine am_invs (y := 158) (as := [.int (nI 2), .int (nI v)]) (rest := [.ref 15]) rfl rfl rfl rfl rfl rfl (Nat.le_of_ble_eq_true rfl) ?_
  refine c_m_placeOf (by omega) (j := 2) ?_
  show am_G _ M_X10_closesNode _ 76 [some (.ref 0), some (.int (nI v)), some (.int (nI n)), some (.int (nI (120 + n))), some (.int (nI 0))] [.int (nI (120 + v)), .ref 15] (am_wr (am_wr σ 0 24 (nI lev)) 8 (120 + n) (nI v))
  refine am_run 1 (pc' := 77) (ls' := [some (.ref 0), some (.int (nI v)), some (.int (nI n)), some (.int (nI (120 + n))), some (.int (nI 0))]) (st' := [.int (nI n), .int (nI (120 + v)), .ref 15]) (σ' := (am_wr (am_wr σ 0 24 (nI lev)) 8 (120 + n) (nI v))) rfl ?_
  refine am_iastN (n := 180) rfl rfl rfl (by omega) (by decide) ?_
  refine am_run 3 (pc' := 83) (ls' := [some (.ref 0), some (.int (nI v)), some (.int (nI n)), some (.int (nI (120 + n))), some (.int (nI 0))]) (st' := [.int (σ.1 0 32), .ref 0]) (σ' := (am_wr (am_wr (am_wr σ 0 24 (nI lev)) 8 (120 + n) (nI v)) 15 (120 + v) (nI n))) rfl ?_
  refine am_top (v' := nI tr) h32 ?_
  refine am_run 3 (pc' := 88) (ls' := [some (.ref 0), some (.int (nI v)), some (.int (nI n)), some (.int (nI (120 + n))), some (.int (nI 0))]) (st' := [.int (nI (120 + n)), .ref 5, .int (nI tr), .ref 0]) (σ' := (am_wr (am_wr (am_wr σ 0 24 (nI lev)) 8 (120 + n) (nI v)) 15 (120 + v) (nI n))) rfl ?_
  refine am_ialdN (n := 180) (v := nI 63) rfl rfl rfl (by omega) (by rw [am_wr_ne _ (by omega), am_wr_ne _ (by omega), am_wr_ne _ (by omega)]; exact h5) (by decide) ?_
  refine am_run 1 (pc' := 91) (ls' := [some (.ref 0), some (.int (nI v)), some (.int (nI n)), some (.int (nI (120 + n))), some (.int (nI 0))]) (st' := [.int (nI 94), .int (nI 63), .int (nI tr), .ref 0]) (σ' := (am_wr (am_wr (am_wr σ 0 24 (nI lev)) 8 (120 + n) (nI v)) 15 (120 + v) (nI n))) rfl ?_
  refine am_ic (ty := 94) (tn := 98) rfl (by decide) rfl rfl (fun (h_3 : nI 63 = nI 94) => ?_) (fun (h_3 : ¬ (nI 63 = nI 94)) => ?_)
  · exact absurd h_3 (by decide)
  refine am_run 2 (pc' := 100) (ls' := [some (.ref 0), some (.int (nI v)), some (.int (nI n)), some (.int (nI (120 + n))), some (.int (nI 0))]) (st' := [.int (nI tr - nI 0), .ref 0]) (σ' := (am_wr (am_wr (am_wr σ 0 24 (nI lev)) 8 (120 + n) (nI v)) 15 (120 + v) (nI n))) rfl ?_
  refine am_top (v' := nI tr) (nx_sub (Nat.zero_le _)) ?_
  refine am_run 4 (pc' := 108) (ls' := [some (.ref 0), some (.int (nI v)), some (.int (nI n)), some (.int (nI (120 + n))), some (.int (nI 0))]) (st' := [.int (σ.1 0 33), .ref 0]) (σ' := (am_wr (am_wr (am_wr (am_wr σ 0 24 (nI lev)) 8 (120 + n) (nI v)) 15 (120 + v) (nI n)) 0 32 (nI tr))) rfl ?_
  refine am_top (v' := nI nw) h33 ?_
  refine am_run 3 (pc' := 113) (ls' := [some (.ref 0), some (.int (nI v)), some (.int (nI n)), some (.int (nI (120 + n))), some (.int (nI 0))]) (st' := [.int (nI (120 + n)), .ref 5, .int (nI nw), .ref 0]) (σ' := (am_wr (am_wr (am_wr (am_wr σ 0 24 (nI lev)) 8 (120 + n) (nI v)) 15 (120 + v) (nI n)) 0 32 (nI tr))) rfl ?_
  refine am_ialdN (n := 180) (v := nI 63) rfl rfl rfl (by omega) (by rw [am_wr_ne _ (by omega), am_wr_ne _ (by omega), am_wr_ne _ (by omega), am_wr_ne _ (by omega)]; exact h5) (by decide) ?_
  refine am_run 1 (pc' := 116) (ls' := [some (.ref 0), some (.int (nI v)), some (.int (nI n)), some (.int (nI (120 + n))), some (.int (nI 0))]) (st' := [.int (nI 36), .int (nI 63), .int (nI nw), .ref 0]) (σ' := (am_wr (am_wr (am_wr (am_wr σ 0 24 (nI lev)) 8 (120 + n) (nI v)) 15 (120 + v) (nI n)) 0 32 (nI tr))) rfl ?_
  refine am_ic (ty := 119) (tn := 123) rfl (by decide) rfl rfl (fun (h_4 : nI 63 = nI 36) => ?_) (fun (h_4 : ¬ (nI 63 = nI 36)) => ?_)
  · exact absurd h_4 (by decide)
  refine am_run 2 (pc' := 125) (ls' := [some (.ref 0), some (.int (nI v)), some (.int (nI n)), some (.int (nI (120 + n))), some (.int (nI 0))]) (st' := [.int (nI nw - nI 0), .ref 0]) (σ' := (am_wr (am_wr (am_wr (am_wr σ 0 24 (nI lev)) 8 (120 + n) (nI v)) 15 (120 + v) (nI n)) 0 32 (nI tr))) rfl ?_
  refine am_top (v' := nI nw) (nx_sub (Nat.zero_le _)) ?_
  refine am_run 7 (pc' := 138) (ls' := [some (.ref 0), some (.int (nI v)), some (.int (nI n)), some (.int (nI (120 + n))), some (.int (nI 0))]) (st' := [.int (nI (120 + n)), .ref 5]) (σ' := (am_wr (am_wr (am_wr (am_wr (am_wr (am_wr σ 0 24 (nI lev)) 8 (120 + n) (nI v)) 15 (120 + v) (nI n)) 0 32 (nI tr)) 0 33 (nI nw)) 0 23 (nI n))) rfl ?_
  refine am_ialdN (n := 180) (v := nI 63) rfl rfl rfl (by omega) (by rw [am_wr_ne _ (by omega), am_wr_ne _ (by omega), am_wr_ne _ (by omega), am_wr_ne _ (by omega), am_wr_ne _ (by omega), am_wr_ne _ (by omega)]; exact h5) (by decide) ?_
  refine am_run 1 (pc' := 141) (ls' := [some (.ref 0), some (.int (nI v)), some (.int (nI n)), some (.int (nI (120 + n))), some (.int (nI 0))]) (st' := [.int (nI 63), .int (nI 63)]) (σ' := (am_wr (am_wr (am_wr (am_wr (am_wr (am_wr σ 0 24 (nI lev)) 8 (120 + n) (nI v)) 15 (120 + v) (nI n)) 0 32 (nI tr)) 0 33 (nI nw)) 0 23 (nI n))) rfl ?_
  refine am_ic (ty := 144) (tn := 157) rfl (by decide) rfl rfl (fun (h_5 : nI 63 = nI 63) => ?_) (fun (h_5 : ¬ (nI 63 = nI 63)) => ?_)
  rotate_left
  · exact absurd (by decide) h_5
  refine am_run 1 (pc' := 146) (ls' := [some (.ref 0), some (.int (nI v)), some (.int (nI n)), some (.int (nI (120 + n))), some (.int (nI 0))]) (st' := [.int (nI 0)]) (σ' := (am_wr (am_wr (am_wr (am_wr (am_wr (am_wr σ 0 24 (nI lev)) 8 (120 + n) (nI v)) 15 (120 + v) (nI n)) 0 32 (nI tr)) 0 33 (nI nw)) 0 23 (nI n))) rfl ?_
  refine am_if (ty := 157) (tn := 149) rfl (by decide) rfl rfl (fun (h_6 : nI 0 = 0) => ?_) (fun (h_6 : ¬ (nI 0 = 0)) => ?_)
  rotate_left
  · exact absurd (by decide) h_6
  refine am_run 2 (pc' := 159) (ls' := [some (.ref 0), some (.int (nI v)), some (.int (nI n)), some (.int (nI (120 + n))), some (.int (nI 0))]) (st' := [.int (nI n), .ref 0]) (σ' := (am_wr (am_wr (am_wr (am_wr (am_wr (am_wr σ 0 24 (nI lev)) 8 (120 + n) (nI v)) 15 (120 + v) (nI n)) 0 32 (nI tr)) 0 33 (nI nw)) 0 23 (nI n))) rfl ?_
  refine am_invv (y := 161) (b := 0) (as := [.int (nI n)]) (rest := []) rfl rfl rfl rfl rfl rfl rfl (Nat.le_of_ble_eq_true rfl) ?_
  refine c_m_ends (e := e) (by omega) (by rw [am_diff _ _ _ _ _ (by decide), am_diff _ _ _ _ _ (by decide), am_diff _ _ _ _ _ (by decide), am_wr_ne _ (by omega), am_wr_ne _ (by omega), am_diff _ _ _ _ _ (by decide)]; exact h35) he ?_
  show am_G _ M_X10_closesNode _ 162 [some (.ref 0), some (.int (nI v)), some (.int (nI n)), some (.int (nI (120 + n))), some (.int (nI 0))] [] (am_wr (am_wr (am_wr (am_wr (am_wr (am_wr (am_wr (am_wr σ 0 24 (nI lev)) 8 (120 + n) (nI v)) 15 (120 + v) (nI n)) 0 32 (nI tr)) 0 33 (nI nw)) 0 23 (nI n)) 9 (120 + e) (nI n)) 0 35 (nI (e + 1)))
  refine am_run 2 (pc' := 164) (ls' := [some (.ref 0), some (.int (nI v)), some (.int (nI n)), some (.int (nI (120 + n))), some (.int (nI 0))]) (st' := [.int (nI n), .ref 0]) (σ' := (am_wr (am_wr (am_wr (am_wr (am_wr (am_wr (am_wr (am_wr σ 0 24 (nI lev)) 8 (120 + n) (nI v)) 15 (120 + v) (nI n)) 0 32 (nI tr)) 0 33 (nI nw)) 0 23 (nI n)) 9 (120 + e) (nI n)) 0 35 (nI (e + 1)))) rfl ?_
  refine am_invv (y := 163) (b := 0) (as := [.int (nI n)]) (rest := []) rfl rfl rfl rfl rfl rfl rfl (Nat.le_of_ble_eq_true rfl) ?_
  refine am_C_to (hq _ (by omega)) (fun v σ2 hv => ?_)
  obtain ⟨rfl, hv⟩ := hv
  show am_G _ M_X10_closesNode _ 167 [some (.ref 0), some (.int (nI v)), some (.int (nI n)), some (.int (nI (120 + n))), some (.int (nI 0))] [] σ2
  refine am_retv rfl rfl ?_
  exact hv
set_option maxRecDepth 10000 in
set_option maxHeartbeats 2000000 in
theorem cn_42_0 {d : Nat} (hd : 6 ≤ d) {σ : am_M} {v n tr nw lev e : Nat} (h24 : σ.1 0 24 = nI (lev + 1)) (hlev : lev < 12) (hno : σ.1 21 (lev + 1) = nI n) (hsc : σ.1 22 (lev + 1) = nI 0) (hn : n < 60) (hv : v < 60) (h32 : σ.1 0 32 = nI (tr)) (h33 : σ.1 0 33 = nI (nw)) (h5 : σ.1 5 (120 + n) = nI 42) (h35 : σ.1 0 35 = nI e) (he : e < 60) {Q : am_Q} (hq : EPq (Q none) (am_wr (am_wr (am_wr (am_wr (am_wr (am_wr (am_wr (am_wr σ 0 24 (nI lev)) 7 (120 + n) (nI v)) 15 (120 + v) (nI n)) 0 32 (nI tr)) 0 33 (nI nw)) 0 23 (nI n)) 9 (120 + e) (nI n)) 0 35 (nI (e + 1))) n) : am_C d 171 [.ref 0, .int (nI v)] σ Q := by
  refine am_enter' (M := M_X10_closesNode) rfl rfl rfl (by omega) (ls := [some (.ref 0), some (.int (nI v)), none, none, none]) rfl (fun d' hd' => ?_)
  refine am_run 4 (pc' := 8) (ls' := [some (.ref 0), some (.int (nI v)), none, none, none]) (st' := [.int (σ.1 0 24), .ref 21]) (σ' := σ) rfl ?_
  refine am_top (v' := nI (lev + 1)) h24 ?_
  refine am_ialdN (n := 13) (v := nI n) rfl rfl rfl (by omega) (hno) (by decide) ?_
  refine am_run 3 (pc' := 12) (ls' := [some (.ref 0), some (.int (nI v)), some (.int (nI n)), none, none]) (st' := [.int (nI n), .int (nI 2)]) (σ' := σ) rfl ?_
  refine am_invs (y := 158) (as := [.int (nI 2), .int (nI n)]) (rest := []) rfl rfl rfl rfl rfl rfl (Nat.le_of_ble_eq_true rfl) ?_
  refine c_m_placeOf (by omega) (j := 2) ?_
  show am_G _ M_X10_closesNode _ 15 [some (.ref 0), some (.int (nI v)), some (.int (nI n)), none, none] [.int (nI (120 + n))] σ
  refine am_run 5 (pc' := 24) (ls' := [some (.ref 0), some (.int (nI v)), some (.int (nI n)), some (.int (nI (120 + n))), none]) (st' := [.int (σ.1 0 24), .ref 22]) (σ' := σ) rfl ?_
  refine am_top (v' := nI (lev + 1)) h24 ?_
  refine am_ialdN (n := 13) (v := nI 0) rfl rfl rfl (by omega) (hsc) (by decide) ?_
  refine am_if (ty := 28) (tn := 32) rfl (by decide) rfl rfl (fun (h_1 : nI 0 = 0) => ?_) (fun (h_1 : ¬ (nI 0 = 0)) => ?_)
  rotate_left
  · exact absurd (by decide) h_1
  refine am_run 6 (pc' := 40) (ls' := [some (.ref 0), some (.int (nI v)), some (.int (nI n)), some (.int (nI (120 + n))), some (.int (nI 1))]) (st' := [.int (σ.1 0 24), .ref 0]) (σ' := σ) rfl ?_
  refine am_top (v' := nI (lev + 1)) h24 ?_
  refine am_run 2 (pc' := 42) (ls' := [some (.ref 0), some (.int (nI v)), some (.int (nI n)), some (.int (nI (120 + n))), some (.int (nI 1))]) (st' := [.int (nI (lev + 1) - nI 1), .ref 0]) (σ' := σ) rfl ?_
  refine am_top (v' := nI lev) (nx_sub (by omega)) ?_
  refine am_run 2 (pc' := 47) (ls' := [some (.ref 0), some (.int (nI v)), some (.int (nI n)), some (.int (nI (120 + n))), some (.int (nI 1))]) (st' := [.int (nI 1)]) (σ' := (am_wr σ 0 24 (nI lev))) rfl ?_
  refine am_if (ty := 60) (tn := 50) rfl (by decide) rfl rfl (fun (h_2 : nI 1 = 0) => ?_) (fun (h_2 : ¬ (nI 1 = 0)) => ?_)
  · exact absurd h_2 (by decide)
  refine am_run 4 (pc' := 56) (ls' := [some (.ref 0), some (.int (nI v)), some (.int (nI n)), some (.int (nI (120 + n))), some (.int (nI 1))]) (st' := [.int (nI v), .int (nI (120 + n)), .ref 7]) (σ' := (am_wr σ 0 24 (nI lev))) rfl ?_
  refine am_iastN (n := 180) rfl rfl rfl (by omega) (by decide) ?_
  refine am_run 5 (pc' := 73) (ls' := [some (.ref 0), some (.int (nI v)), some (.int (nI n)), some (.int (nI (120 + n))), some (.int (nI 1))]) (st' := [.int (nI v), .int (nI 2), .ref 15]) (σ' := (am_wr (am_wr σ 0 24 (nI lev)) 7 (120 + n) (nI v))) rfl ?_
  refine am_invs (y := 158) (as := [.int (nI 2), .int (nI v)]) (rest := [.ref 15]) rfl rfl rfl rfl rfl rfl (Nat.le_of_ble_eq_true rfl) ?_
  refine c_m_placeOf (by omega) (j := 2) ?_
  show am_G _ M_X10_closesNode _ 76 [some (.ref 0), some (.int (nI v)), some (.int (nI n)), some (.int (nI (120 + n))), some (.int (nI 1))] [.int (nI (120 + v)), .ref 15] (am_wr (am_wr σ 0 24 (nI lev)) 7 (120 + n) (nI v))
  refine am_run 1 (pc' := 77) (ls' := [some (.ref 0), some (.int (nI v)), some (.int (nI n)), some (.int (nI (120 + n))), some (.int (nI 1))]) (st' := [.int (nI n), .int (nI (120 + v)), .ref 15]) (σ' := (am_wr (am_wr σ 0 24 (nI lev)) 7 (120 + n) (nI v))) rfl ?_
  refine am_iastN (n := 180) rfl rfl rfl (by omega) (by decide) ?_
  refine am_run 3 (pc' := 83) (ls' := [some (.ref 0), some (.int (nI v)), some (.int (nI n)), some (.int (nI (120 + n))), some (.int (nI 1))]) (st' := [.int (σ.1 0 32), .ref 0]) (σ' := (am_wr (am_wr (am_wr σ 0 24 (nI lev)) 7 (120 + n) (nI v)) 15 (120 + v) (nI n))) rfl ?_
  refine am_top (v' := nI tr) h32 ?_
  refine am_run 3 (pc' := 88) (ls' := [some (.ref 0), some (.int (nI v)), some (.int (nI n)), some (.int (nI (120 + n))), some (.int (nI 1))]) (st' := [.int (nI (120 + n)), .ref 5, .int (nI tr), .ref 0]) (σ' := (am_wr (am_wr (am_wr σ 0 24 (nI lev)) 7 (120 + n) (nI v)) 15 (120 + v) (nI n))) rfl ?_
  refine am_ialdN (n := 180) (v := nI 42) rfl rfl rfl (by omega) (by rw [am_wr_ne _ (by omega), am_wr_ne _ (by omega), am_wr_ne _ (by omega)]; exact h5) (by decide) ?_
  refine am_run 1 (pc' := 91) (ls' := [some (.ref 0), some (.int (nI v)), some (.int (nI n)), some (.int (nI (120 + n))), some (.int (nI 1))]) (st' := [.int (nI 94), .int (nI 42), .int (nI tr), .ref 0]) (σ' := (am_wr (am_wr (am_wr σ 0 24 (nI lev)) 7 (120 + n) (nI v)) 15 (120 + v) (nI n))) rfl ?_
  refine am_ic (ty := 94) (tn := 98) rfl (by decide) rfl rfl (fun (h_3 : nI 42 = nI 94) => ?_) (fun (h_3 : ¬ (nI 42 = nI 94)) => ?_)
  · exact absurd h_3 (by decide)
  refine am_run 2 (pc' := 100) (ls' := [some (.ref 0), some (.int (nI v)), some (.int (nI n)), some (.int (nI (120 + n))), some (.int (nI 1))]) (st' := [.int (nI tr - nI 0), .ref 0]) (σ' := (am_wr (am_wr (am_wr σ 0 24 (nI lev)) 7 (120 + n) (nI v)) 15 (120 + v) (nI n))) rfl ?_
  refine am_top (v' := nI tr) (nx_sub (Nat.zero_le _)) ?_
  refine am_run 4 (pc' := 108) (ls' := [some (.ref 0), some (.int (nI v)), some (.int (nI n)), some (.int (nI (120 + n))), some (.int (nI 1))]) (st' := [.int (σ.1 0 33), .ref 0]) (σ' := (am_wr (am_wr (am_wr (am_wr σ 0 24 (nI lev)) 7 (120 + n) (nI v)) 15 (120 + v) (nI n)) 0 32 (nI tr))) rfl ?_
  refine am_top (v' := nI nw) h33 ?_
  refine am_run 3 (pc' := 113) (ls' := [some (.ref 0), some (.int (nI v)), some (.int (nI n)), some (.int (nI (120 + n))), some (.int (nI 1))]) (st' := [.int (nI (120 + n)), .ref 5, .int (nI nw), .ref 0]) (σ' := (am_wr (am_wr (am_wr (am_wr σ 0 24 (nI lev)) 7 (120 + n) (nI v)) 15 (120 + v) (nI n)) 0 32 (nI tr))) rfl ?_
  refine am_ialdN (n := 180) (v := nI 42) rfl rfl rfl (by omega) (by rw [am_wr_ne _ (by omega), am_wr_ne _ (by omega), am_wr_ne _ (by omega), am_wr_ne _ (by omega)]; exact h5) (by decide) ?_
  refine am_run 1 (pc' := 116) (ls' := [some (.ref 0), some (.int (nI v)), some (.int (nI n)), some (.int (nI (120 + n))), some (.int (nI 1))]) (st' := [.int (nI 36), .int (nI 42), .int (nI nw), .ref 0]) (σ' := (am_wr (am_wr (am_wr (am_wr σ 0 24 (nI lev)) 7 (120 + n) (nI v)) 15 (120 + v) (nI n)) 0 32 (nI tr))) rfl ?_
  refine am_ic (ty := 119) (tn := 123) rfl (by decide) rfl rfl (fun (h_4 : nI 42 = nI 36) => ?_) (fun (h_4 : ¬ (nI 42 = nI 36)) => ?_)
  · exact absurd h_4 (by decide)
  refine am_run 2 (pc' := 125) (ls' := [some (.ref 0), some (.int (nI v)), some (.int (nI n)), some (.int (nI (120 + n))), some (.int (nI 1))]) (st' := [.int (nI nw - nI 0), .ref 0]) (σ' := (am_wr (am_wr (am_wr (am_wr σ 0 24 (nI lev)) 7 (120 + n) (nI v)) 15 (120 + v) (nI n)) 0 32 (nI tr))) rfl ?_
  refine am_top (v' := nI nw) (nx_sub (Nat.zero_le _)) ?_
  refine am_run 7 (pc' := 138) (ls' := [some (.ref 0), some (.int (nI v)), some (.int (nI n)), some (.int (nI (120 + n))), some (.int (nI 1))]) (st' := [.int (nI (120 + n)), .ref 5]) (σ' := (am_wr (am_wr (am_wr (am_wr (am_wr (am_wr σ 0 24 (nI lev)) 7 (120 + n) (nI v)) 15 (120 + v) (nI n)) 0 32 (nI tr)) 0 33 (nI nw)) 0 23 (nI n))) rfl ?_
  refine am_ialdN (n := 180) (v := nI 42) rfl rfl rfl (by omega) (by rw [am_wr_ne _ (by omega), am_wr_ne _ (by omega), am_wr_ne _ (by omega), am_wr_ne _ (by omega), am_wr_ne _ (by omega), am_wr_ne _ (by omega)]; exact h5) (by decide) ?_
  refine am_run 1 (pc' := 141) (ls' := [some (.ref 0), some (.int (nI v)), some (.int (nI n)), some (.int (nI (120 + n))), some (.int (nI 1))]) (st' := [.int (nI 63), .int (nI 42)]) (σ' := (am_wr (am_wr (am_wr (am_wr (am_wr (am_wr σ 0 24 (nI lev)) 7 (120 + n) (nI v)) 15 (120 + v) (nI n)) 0 32 (nI tr)) 0 33 (nI nw)) 0 23 (nI n))) rfl ?_
  refine am_ic (ty := 144) (tn := 157) rfl (by decide) rfl rfl (fun (h_5 : nI 42 = nI 63) => ?_) (fun (h_5 : ¬ (nI 42 = nI 63)) => ?_)
  · exact absurd h_5 (by decide)
  refine am_run 2 (pc' := 159) (ls' := [some (.ref 0), some (.int (nI v)), some (.int (nI n)), some (.int (nI (120 + n))), some (.int (nI 1))]) (st' := [.int (nI n), .ref 0]) (σ' := (am_wr (am_wr (am_wr (am_wr (am_wr (am_wr σ 0 24 (nI lev)) 7 (120 + n) (nI v)) 15 (120 + v) (nI n)) 0 32 (nI tr)) 0 33 (nI nw)) 0 23 (nI n))) rfl ?_
  refine am_invv (y := 161) (b := 0) (as := [.int (nI n)]) (rest := []) rfl rfl rfl rfl rfl rfl rfl (Nat.le_of_ble_eq_true rfl) ?_
  refine c_m_ends (e := e) (by omega) (by rw [am_diff _ _ _ _ _ (by decide), am_diff _ _ _ _ _ (by decide), am_diff _ _ _ _ _ (by decide), am_wr_ne _ (by omega), am_wr_ne _ (by omega), am_diff _ _ _ _ _ (by decide)]; exact h35) he ?_
  show am_G _ M_X10_closesNode _ 162 [some (.ref 0), some (.int (nI v)), some (.int (nI n)), some (.int (nI (120 + n))), some (.int (nI 1))] [] (am_wr (am_wr (am_wr (am_wr (am_wr (am_wr (am_wr (am_wr σ 0 24 (nI lev)) 7 (120 + n) (nI v)) 15 (120 + v) (nI n)) 0 32 (nI tr)) 0 33 (nI nw)) 0 23 (nI n)) 9 (120 + e) (nI n)) 0 35 (nI (e + 1)))
  refine am_run 2 (pc' := 164) (ls' := [some (.ref 0), some (.int (nI v)), some (.int (nI n)), some (.int (nI (120 + n))), some (.int (nI 1))]) (st' := [.int (nI n), .ref 0]) (σ' := (am_wr (am_wr (am_wr (am_wr (am_wr (am_wr (am_wr (am_wr σ 0 24 (nI lev)) 7 (120 + n) (nI v)) 15 (120 + v) (nI n)) 0 32 (nI tr)) 0 33 (nI nw)) 0 23 (nI n)) 9 (120 + e) (nI n)) 0 35 (nI (e + 1)))) rfl ?_
  refine am_invv (y := 163) (b := 0) (as := [.int (nI n)]) (rest := []) rfl rfl rfl rfl rfl rfl rfl (Nat.le_of_ble_eq_true rfl) ?_
  refine am_C_to (hq _ (by omega)) (fun v σ2 hv => ?_)
  obtain ⟨rfl, hv⟩ := hv
  show am_G _ M_X10_closesNode _ 167 [some (.ref 0), some (.int (nI v)), some (.int (nI n)), some (.int (nI (120 + n))), some (.int (nI 1))] [] σ2
  refine am_retv rfl rfl ?_
  exact hv
set_option maxRecDepth 10000 in
set_option maxHeartbeats 2000000 in
theorem cn_94_0 {d : Nat} (hd : 6 ≤ d) {σ : am_M} {v n tr nw lev e : Nat} (h24 : σ.1 0 24 = nI (lev + 1)) (hlev : lev < 12) (hno : σ.1 21 (lev + 1) = nI n) (hsc : σ.1 22 (lev + 1) = nI 0) (hn : n < 60) (hv : v < 60) (h32 : σ.1 0 32 = nI (tr + 1)) (h33 : σ.1 0 33 = nI (nw)) (h5 : σ.1 5 (120 + n) = nI 94) (h35 : σ.1 0 35 = nI e) (he : e < 60) {Q : am_Q} (hq : EPq (Q none) (am_wr (am_wr (am_wr (am_wr (am_wr (am_wr (am_wr (am_wr σ 0 24 (nI lev)) 7 (120 + n) (nI v)) 15 (120 + v) (nI n)) 0 32 (nI tr)) 0 33 (nI nw)) 0 23 (nI n)) 9 (120 + e) (nI n)) 0 35 (nI (e + 1))) n) : am_C d 171 [.ref 0, .int (nI v)] σ Q := by
  refine am_enter' (M := M_X10_closesNode) rfl rfl rfl (by omega) (ls := [some (.ref 0), some (.int (nI v)), none, none, none]) rfl (fun d' hd' => ?_)
  refine am_run 4 (pc' := 8) (ls' := [some (.ref 0), some (.int (nI v)), none, none, none]) (st' := [.int (σ.1 0 24), .ref 21]) (σ' := σ) rfl ?_
  refine am_top (v' := nI (lev + 1)) h24 ?_
  refine am_ialdN (n := 13) (v := nI n) rfl rfl rfl (by omega) (hno) (by decide) ?_
  refine am_run 3 (pc' := 12) (ls' := [some (.ref 0), some (.int (nI v)), some (.int (nI n)), none, none]) (st' := [.int (nI n), .int (nI 2)]) (σ' := σ) rfl ?_
  refine am_invs (y := 158) (as := [.int (nI 2), .int (nI n)]) (rest := []) rfl rfl rfl rfl rfl rfl (Nat.le_of_ble_eq_true rfl) ?_
  refine c_m_placeOf (by omega) (j := 2) ?_
  show am_G _ M_X10_closesNode _ 15 [some (.ref 0), some (.int (nI v)), some (.int (nI n)), none, none] [.int (nI (120 + n))] σ
  refine am_run 5 (pc' := 24) (ls' := [some (.ref 0), some (.int (nI v)), some (.int (nI n)), some (.int (nI (120 + n))), none]) (st' := [.int (σ.1 0 24), .ref 22]) (σ' := σ) rfl ?_
  refine am_top (v' := nI (lev + 1)) h24 ?_
  refine am_ialdN (n := 13) (v := nI 0) rfl rfl rfl (by omega) (hsc) (by decide) ?_
  refine am_if (ty := 28) (tn := 32) rfl (by decide) rfl rfl (fun (h_1 : nI 0 = 0) => ?_) (fun (h_1 : ¬ (nI 0 = 0)) => ?_)
  rotate_left
  · exact absurd (by decide) h_1
  refine am_run 6 (pc' := 40) (ls' := [some (.ref 0), some (.int (nI v)), some (.int (nI n)), some (.int (nI (120 + n))), some (.int (nI 1))]) (st' := [.int (σ.1 0 24), .ref 0]) (σ' := σ) rfl ?_
  refine am_top (v' := nI (lev + 1)) h24 ?_
  refine am_run 2 (pc' := 42) (ls' := [some (.ref 0), some (.int (nI v)), some (.int (nI n)), some (.int (nI (120 + n))), some (.int (nI 1))]) (st' := [.int (nI (lev + 1) - nI 1), .ref 0]) (σ' := σ) rfl ?_
  refine am_top (v' := nI lev) (nx_sub (by omega)) ?_
  refine am_run 2 (pc' := 47) (ls' := [some (.ref 0), some (.int (nI v)), some (.int (nI n)), some (.int (nI (120 + n))), some (.int (nI 1))]) (st' := [.int (nI 1)]) (σ' := (am_wr σ 0 24 (nI lev))) rfl ?_
  refine am_if (ty := 60) (tn := 50) rfl (by decide) rfl rfl (fun (h_2 : nI 1 = 0) => ?_) (fun (h_2 : ¬ (nI 1 = 0)) => ?_)
  · exact absurd h_2 (by decide)
  refine am_run 4 (pc' := 56) (ls' := [some (.ref 0), some (.int (nI v)), some (.int (nI n)), some (.int (nI (120 + n))), some (.int (nI 1))]) (st' := [.int (nI v), .int (nI (120 + n)), .ref 7]) (σ' := (am_wr σ 0 24 (nI lev))) rfl ?_
  refine am_iastN (n := 180) rfl rfl rfl (by omega) (by decide) ?_
  refine am_run 5 (pc' := 73) (ls' := [some (.ref 0), some (.int (nI v)), some (.int (nI n)), some (.int (nI (120 + n))), some (.int (nI 1))]) (st' := [.int (nI v), .int (nI 2), .ref 15]) (σ' := (am_wr (am_wr σ 0 24 (nI lev)) 7 (120 + n) (nI v))) rfl ?_
  refine am_invs (y := 158) (as := [.int (nI 2), .int (nI v)]) (rest := [.ref 15]) rfl rfl rfl rfl rfl rfl (Nat.le_of_ble_eq_true rfl) ?_
  refine c_m_placeOf (by omega) (j := 2) ?_
  show am_G _ M_X10_closesNode _ 76 [some (.ref 0), some (.int (nI v)), some (.int (nI n)), some (.int (nI (120 + n))), some (.int (nI 1))] [.int (nI (120 + v)), .ref 15] (am_wr (am_wr σ 0 24 (nI lev)) 7 (120 + n) (nI v))
  refine am_run 1 (pc' := 77) (ls' := [some (.ref 0), some (.int (nI v)), some (.int (nI n)), some (.int (nI (120 + n))), some (.int (nI 1))]) (st' := [.int (nI n), .int (nI (120 + v)), .ref 15]) (σ' := (am_wr (am_wr σ 0 24 (nI lev)) 7 (120 + n) (nI v))) rfl ?_
  refine am_iastN (n := 180) rfl rfl rfl (by omega) (by decide) ?_
  refine am_run 3 (pc' := 83) (ls' := [some (.ref 0), some (.int (nI v)), some (.int (nI n)), some (.int (nI (120 + n))), some (.int (nI 1))]) (st' := [.int (σ.1 0 32), .ref 0]) (σ' := (am_wr (am_wr (am_wr σ 0 24 (nI lev)) 7 (120 + n) (nI v)) 15 (120 + v) (nI n))) rfl ?_
  refine am_top (v' := nI (tr + 1)) h32 ?_
  refine am_run 3 (pc' := 88) (ls' := [some (.ref 0), some (.int (nI v)), some (.int (nI n)), some (.int (nI (120 + n))), some (.int (nI 1))]) (st' := [.int (nI (120 + n)), .ref 5, .int (nI (tr + 1)), .ref 0]) (σ' := (am_wr (am_wr (am_wr σ 0 24 (nI lev)) 7 (120 + n) (nI v)) 15 (120 + v) (nI n))) rfl ?_
  refine am_ialdN (n := 180) (v := nI 94) rfl rfl rfl (by omega) (by rw [am_wr_ne _ (by omega), am_wr_ne _ (by omega), am_wr_ne _ (by omega)]; exact h5) (by decide) ?_
  refine am_run 1 (pc' := 91) (ls' := [some (.ref 0), some (.int (nI v)), some (.int (nI n)), some (.int (nI (120 + n))), some (.int (nI 1))]) (st' := [.int (nI 94), .int (nI 94), .int (nI (tr + 1)), .ref 0]) (σ' := (am_wr (am_wr (am_wr σ 0 24 (nI lev)) 7 (120 + n) (nI v)) 15 (120 + v) (nI n))) rfl ?_
  refine am_ic (ty := 94) (tn := 98) rfl (by decide) rfl rfl (fun (h_3 : nI 94 = nI 94) => ?_) (fun (h_3 : ¬ (nI 94 = nI 94)) => ?_)
  rotate_left
  · exact absurd (by decide) h_3
  refine am_run 3 (pc' := 100) (ls' := [some (.ref 0), some (.int (nI v)), some (.int (nI n)), some (.int (nI (120 + n))), some (.int (nI 1))]) (st' := [.int (nI (tr + 1) - nI 1), .ref 0]) (σ' := (am_wr (am_wr (am_wr σ 0 24 (nI lev)) 7 (120 + n) (nI v)) 15 (120 + v) (nI n))) rfl ?_
  refine am_top (v' := nI tr) (nx_sub (by omega)) ?_
  refine am_run 4 (pc' := 108) (ls' := [some (.ref 0), some (.int (nI v)), some (.int (nI n)), some (.int (nI (120 + n))), some (.int (nI 1))]) (st' := [.int (σ.1 0 33), .ref 0]) (σ' := (am_wr (am_wr (am_wr (am_wr σ 0 24 (nI lev)) 7 (120 + n) (nI v)) 15 (120 + v) (nI n)) 0 32 (nI tr))) rfl ?_
  refine am_top (v' := nI nw) h33 ?_
  refine am_run 3 (pc' := 113) (ls' := [some (.ref 0), some (.int (nI v)), some (.int (nI n)), some (.int (nI (120 + n))), some (.int (nI 1))]) (st' := [.int (nI (120 + n)), .ref 5, .int (nI nw), .ref 0]) (σ' := (am_wr (am_wr (am_wr (am_wr σ 0 24 (nI lev)) 7 (120 + n) (nI v)) 15 (120 + v) (nI n)) 0 32 (nI tr))) rfl ?_
  refine am_ialdN (n := 180) (v := nI 94) rfl rfl rfl (by omega) (by rw [am_wr_ne _ (by omega), am_wr_ne _ (by omega), am_wr_ne _ (by omega), am_wr_ne _ (by omega)]; exact h5) (by decide) ?_
  refine am_run 1 (pc' := 116) (ls' := [some (.ref 0), some (.int (nI v)), some (.int (nI n)), some (.int (nI (120 + n))), some (.int (nI 1))]) (st' := [.int (nI 36), .int (nI 94), .int (nI nw), .ref 0]) (σ' := (am_wr (am_wr (am_wr (am_wr σ 0 24 (nI lev)) 7 (120 + n) (nI v)) 15 (120 + v) (nI n)) 0 32 (nI tr))) rfl ?_
  refine am_ic (ty := 119) (tn := 123) rfl (by decide) rfl rfl (fun (h_4 : nI 94 = nI 36) => ?_) (fun (h_4 : ¬ (nI 94 = nI 36)) => ?_)
  · exact absurd h_4 (by decide)
  refine am_run 2 (pc' := 125) (ls' := [some (.ref 0), some (.int (nI v)), some (.int (nI n)), some (.int (nI (120 + n))), some (.int (nI 1))]) (st' := [.int (nI nw - nI 0), .ref 0]) (σ' := (am_wr (am_wr (am_wr (am_wr σ 0 24 (nI lev)) 7 (120 + n) (nI v)) 15 (120 + v) (nI n)) 0 32 (nI tr))) rfl ?_
  refine am_top (v' := nI nw) (nx_sub (Nat.zero_le _)) ?_
  refine am_run 7 (pc' := 138) (ls' := [some (.ref 0), some (.int (nI v)), some (.int (nI n)), some (.int (nI (120 + n))), some (.int (nI 1))]) (st' := [.int (nI (120 + n)), .ref 5]) (σ' := (am_wr (am_wr (am_wr (am_wr (am_wr (am_wr σ 0 24 (nI lev)) 7 (120 + n) (nI v)) 15 (120 + v) (nI n)) 0 32 (nI tr)) 0 33 (nI nw)) 0 23 (nI n))) rfl ?_
  refine am_ialdN (n := 180) (v := nI 94) rfl rfl rfl (by omega) (by rw [am_wr_ne _ (by omega), am_wr_ne _ (by omega), am_wr_ne _ (by omega), am_wr_ne _ (by omega), am_wr_ne _ (by omega), am_wr_ne _ (by omega)]; exact h5) (by decide) ?_
  refine am_run 1 (pc' := 141) (ls' := [some (.ref 0), some (.int (nI v)), some (.int (nI n)), some (.int (nI (120 + n))), some (.int (nI 1))]) (st' := [.int (nI 63), .int (nI 94)]) (σ' := (am_wr (am_wr (am_wr (am_wr (am_wr (am_wr σ 0 24 (nI lev)) 7 (120 + n) (nI v)) 15 (120 + v) (nI n)) 0 32 (nI tr)) 0 33 (nI nw)) 0 23 (nI n))) rfl ?_
  refine am_ic (ty := 144) (tn := 157) rfl (by decide) rfl rfl (fun (h_5 : nI 94 = nI 63) => ?_) (fun (h_5 : ¬ (nI 94 = nI 63)) => ?_)
  · exact absurd h_5 (by decide)
  refine am_run 2 (pc' := 159) (ls' := [some (.ref 0), some (.int (nI v)), some (.int (nI n)), some (.int (nI (120 + n))), some (.int (nI 1))]) (st' := [.int (nI n), .ref 0]) (σ' := (am_wr (am_wr (am_wr (am_wr (am_wr (am_wr σ 0 24 (nI lev)) 7 (120 + n) (nI v)) 15 (120 + v) (nI n)) 0 32 (nI tr)) 0 33 (nI nw)) 0 23 (nI n))) rfl ?_
  refine am_invv (y := 161) (b := 0) (as := [.int (nI n)]) (rest := []) rfl rfl rfl rfl rfl rfl rfl (Nat.le_of_ble_eq_true rfl) ?_
  refine c_m_ends (e := e) (by omega) (by rw [am_diff _ _ _ _ _ (by decide), am_diff _ _ _ _ _ (by decide), am_diff _ _ _ _ _ (by decide), am_wr_ne _ (by omega), am_wr_ne _ (by omega), am_diff _ _ _ _ _ (by decide)]; exact h35) he ?_
  show am_G _ M_X10_closesNode _ 162 [some (.ref 0), some (.int (nI v)), some (.int (nI n)), some (.int (nI (120 + n))), some (.int (nI 1))] [] (am_wr (am_wr (am_wr (am_wr (am_wr (am_wr (am_wr (am_wr σ 0 24 (nI lev)) 7 (120 + n) (nI v)) 15 (120 + v) (nI n)) 0 32 (nI tr)) 0 33 (nI nw)) 0 23 (nI n)) 9 (120 + e) (nI n)) 0 35 (nI (e + 1)))
  refine am_run 2 (pc' := 164) (ls' := [some (.ref 0), some (.int (nI v)), some (.int (nI n)), some (.int (nI (120 + n))), some (.int (nI 1))]) (st' := [.int (nI n), .ref 0]) (σ' := (am_wr (am_wr (am_wr (am_wr (am_wr (am_wr (am_wr (am_wr σ 0 24 (nI lev)) 7 (120 + n) (nI v)) 15 (120 + v) (nI n)) 0 32 (nI tr)) 0 33 (nI nw)) 0 23 (nI n)) 9 (120 + e) (nI n)) 0 35 (nI (e + 1)))) rfl ?_
  refine am_invv (y := 163) (b := 0) (as := [.int (nI n)]) (rest := []) rfl rfl rfl rfl rfl rfl rfl (Nat.le_of_ble_eq_true rfl) ?_
  refine am_C_to (hq _ (by omega)) (fun v σ2 hv => ?_)
  obtain ⟨rfl, hv⟩ := hv
  show am_G _ M_X10_closesNode _ 167 [some (.ref 0), some (.int (nI v)), some (.int (nI n)), some (.int (nI (120 + n))), some (.int (nI 1))] [] σ2
  refine am_retv rfl rfl ?_
  exact hv
set_option maxRecDepth 10000 in
set_option maxHeartbeats 2000000 in
theorem cn_64_0 {d : Nat} (hd : 6 ≤ d) {σ : am_M} {v n tr nw lev e : Nat} (h24 : σ.1 0 24 = nI (lev + 1)) (hlev : lev < 12) (hno : σ.1 21 (lev + 1) = nI n) (hsc : σ.1 22 (lev + 1) = nI 0) (hn : n < 60) (hv : v < 60) (h32 : σ.1 0 32 = nI (tr)) (h33 : σ.1 0 33 = nI (nw)) (h5 : σ.1 5 (120 + n) = nI 64) (h35 : σ.1 0 35 = nI e) (he : e < 60) {Q : am_Q} (hq : EPq (Q none) (am_wr (am_wr (am_wr (am_wr (am_wr (am_wr (am_wr (am_wr σ 0 24 (nI lev)) 7 (120 + n) (nI v)) 15 (120 + v) (nI n)) 0 32 (nI tr)) 0 33 (nI nw)) 0 23 (nI n)) 9 (120 + e) (nI n)) 0 35 (nI (e + 1))) n) : am_C d 171 [.ref 0, .int (nI v)] σ Q := by
  refine am_enter' (M := M_X10_closesNode) rfl rfl rfl (by omega) (ls := [some (.ref 0), some (.int (nI v)), none, none, none]) rfl (fun d' hd' => ?_)
  refine am_run 4 (pc' := 8) (ls' := [some (.ref 0), some (.int (nI v)), none, none, none]) (st' := [.int (σ.1 0 24), .ref 21]) (σ' := σ) rfl ?_
  refine am_top (v' := nI (lev + 1)) h24 ?_
  refine am_ialdN (n := 13) (v := nI n) rfl rfl rfl (by omega) (hno) (by decide) ?_
  refine am_run 3 (pc' := 12) (ls' := [some (.ref 0), some (.int (nI v)), some (.int (nI n)), none, none]) (st' := [.int (nI n), .int (nI 2)]) (σ' := σ) rfl ?_
  refine am_invs (y := 158) (as := [.int (nI 2), .int (nI n)]) (rest := []) rfl rfl rfl rfl rfl rfl (Nat.le_of_ble_eq_true rfl) ?_
  refine c_m_placeOf (by omega) (j := 2) ?_
  show am_G _ M_X10_closesNode _ 15 [some (.ref 0), some (.int (nI v)), some (.int (nI n)), none, none] [.int (nI (120 + n))] σ
  refine am_run 5 (pc' := 24) (ls' := [some (.ref 0), some (.int (nI v)), some (.int (nI n)), some (.int (nI (120 + n))), none]) (st' := [.int (σ.1 0 24), .ref 22]) (σ' := σ) rfl ?_
  refine am_top (v' := nI (lev + 1)) h24 ?_
  refine am_ialdN (n := 13) (v := nI 0) rfl rfl rfl (by omega) (hsc) (by decide) ?_
  refine am_if (ty := 28) (tn := 32) rfl (by decide) rfl rfl (fun (h_1 : nI 0 = 0) => ?_) (fun (h_1 : ¬ (nI 0 = 0)) => ?_)
  rotate_left
  · exact absurd (by decide) h_1
  refine am_run 6 (pc' := 40) (ls' := [some (.ref 0), some (.int (nI v)), some (.int (nI n)), some (.int (nI (120 + n))), some (.int (nI 1))]) (st' := [.int (σ.1 0 24), .ref 0]) (σ' := σ) rfl ?_
  refine am_top (v' := nI (lev + 1)) h24 ?_
  refine am_run 2 (pc' := 42) (ls' := [some (.ref 0), some (.int (nI v)), some (.int (nI n)), some (.int (nI (120 + n))), some (.int (nI 1))]) (st' := [.int (nI (lev + 1) - nI 1), .ref 0]) (σ' := σ) rfl ?_
  refine am_top (v' := nI lev) (nx_sub (by omega)) ?_
  refine am_run 2 (pc' := 47) (ls' := [some (.ref 0), some (.int (nI v)), some (.int (nI n)), some (.int (nI (120 + n))), some (.int (nI 1))]) (st' := [.int (nI 1)]) (σ' := (am_wr σ 0 24 (nI lev))) rfl ?_
  refine am_if (ty := 60) (tn := 50) rfl (by decide) rfl rfl (fun (h_2 : nI 1 = 0) => ?_) (fun (h_2 : ¬ (nI 1 = 0)) => ?_)
  · exact absurd h_2 (by decide)
  refine am_run 4 (pc' := 56) (ls' := [some (.ref 0), some (.int (nI v)), some (.int (nI n)), some (.int (nI (120 + n))), some (.int (nI 1))]) (st' := [.int (nI v), .int (nI (120 + n)), .ref 7]) (σ' := (am_wr σ 0 24 (nI lev))) rfl ?_
  refine am_iastN (n := 180) rfl rfl rfl (by omega) (by decide) ?_
  refine am_run 5 (pc' := 73) (ls' := [some (.ref 0), some (.int (nI v)), some (.int (nI n)), some (.int (nI (120 + n))), some (.int (nI 1))]) (st' := [.int (nI v), .int (nI 2), .ref 15]) (σ' := (am_wr (am_wr σ 0 24 (nI lev)) 7 (120 + n) (nI v))) rfl ?_
  refine am_invs (y := 158) (as := [.int (nI 2), .int (nI v)]) (rest := [.ref 15]) rfl rfl rfl rfl rfl rfl (Nat.le_of_ble_eq_true rfl) ?_
  refine c_m_placeOf (by omega) (j := 2) ?_
  show am_G _ M_X10_closesNode _ 76 [some (.ref 0), some (.int (nI v)), some (.int (nI n)), some (.int (nI (120 + n))), some (.int (nI 1))] [.int (nI (120 + v)), .ref 15] (am_wr (am_wr σ 0 24 (nI lev)) 7 (120 + n) (nI v))
  refine am_run 1 (pc' := 77) (ls' := [some (.ref 0), some (.int (nI v)), some (.int (nI n)), some (.int (nI (120 + n))), some (.int (nI 1))]) (st' := [.int (nI n), .int (nI (120 + v)), .ref 15]) (σ' := (am_wr (am_wr σ 0 24 (nI lev)) 7 (120 + n) (nI v))) rfl ?_
  refine am_iastN (n := 180) rfl rfl rfl (by omega) (by decide) ?_
  refine am_run 3 (pc' := 83) (ls' := [some (.ref 0), some (.int (nI v)), some (.int (nI n)), some (.int (nI (120 + n))), some (.int (nI 1))]) (st' := [.int (σ.1 0 32), .ref 0]) (σ' := (am_wr (am_wr (am_wr σ 0 24 (nI lev)) 7 (120 + n) (nI v)) 15 (120 + v) (nI n))) rfl ?_
  refine am_top (v' := nI tr) h32 ?_
  refine am_run 3 (pc' := 88) (ls' := [some (.ref 0), some (.int (nI v)), some (.int (nI n)), some (.int (nI (120 + n))), some (.int (nI 1))]) (st' := [.int (nI (120 + n)), .ref 5, .int (nI tr), .ref 0]) (σ' := (am_wr (am_wr (am_wr σ 0 24 (nI lev)) 7 (120 + n) (nI v)) 15 (120 + v) (nI n))) rfl ?_
  refine am_ialdN (n := 180) (v := nI 64) rfl rfl rfl (by omega) (by rw [am_wr_ne _ (by omega), am_wr_ne _ (by omega), am_wr_ne _ (by omega)]; exact h5) (by decide) ?_
  refine am_run 1 (pc' := 91) (ls' := [some (.ref 0), some (.int (nI v)), some (.int (nI n)), some (.int (nI (120 + n))), some (.int (nI 1))]) (st' := [.int (nI 94), .int (nI 64), .int (nI tr), .ref 0]) (σ' := (am_wr (am_wr (am_wr σ 0 24 (nI lev)) 7 (120 + n) (nI v)) 15 (120 + v) (nI n))) rfl ?_
  refine am_ic (ty := 94) (tn := 98) rfl (by decide) rfl rfl (fun (h_3 : nI 64 = nI 94) => ?_) (fun (h_3 : ¬ (nI 64 = nI 94)) => ?_)
  · exact absurd h_3 (by decide)
  refine am_run 2 (pc' := 100) (ls' := [some (.ref 0), some (.int (nI v)), some (.int (nI n)), some (.int (nI (120 + n))), some (.int (nI 1))]) (st' := [.int (nI tr - nI 0), .ref 0]) (σ' := (am_wr (am_wr (am_wr σ 0 24 (nI lev)) 7 (120 + n) (nI v)) 15 (120 + v) (nI n))) rfl ?_
  refine am_top (v' := nI tr) (nx_sub (Nat.zero_le _)) ?_
  refine am_run 4 (pc' := 108) (ls' := [some (.ref 0), some (.int (nI v)), some (.int (nI n)), some (.int (nI (120 + n))), some (.int (nI 1))]) (st' := [.int (σ.1 0 33), .ref 0]) (σ' := (am_wr (am_wr (am_wr (am_wr σ 0 24 (nI lev)) 7 (120 + n) (nI v)) 15 (120 + v) (nI n)) 0 32 (nI tr))) rfl ?_
  refine am_top (v' := nI nw) h33 ?_
  refine am_run 3 (pc' := 113) (ls' := [some (.ref 0), some (.int (nI v)), some (.int (nI n)), some (.int (nI (120 + n))), some (.int (nI 1))]) (st' := [.int (nI (120 + n)), .ref 5, .int (nI nw), .ref 0]) (σ' := (am_wr (am_wr (am_wr (am_wr σ 0 24 (nI lev)) 7 (120 + n) (nI v)) 15 (120 + v) (nI n)) 0 32 (nI tr))) rfl ?_
  refine am_ialdN (n := 180) (v := nI 64) rfl rfl rfl (by omega) (by rw [am_wr_ne _ (by omega), am_wr_ne _ (by omega), am_wr_ne _ (by omega), am_wr_ne _ (by omega)]; exact h5) (by decide) ?_
  refine am_run 1 (pc' := 116) (ls' := [some (.ref 0), some (.int (nI v)), some (.int (nI n)), some (.int (nI (120 + n))), some (.int (nI 1))]) (st' := [.int (nI 36), .int (nI 64), .int (nI nw), .ref 0]) (σ' := (am_wr (am_wr (am_wr (am_wr σ 0 24 (nI lev)) 7 (120 + n) (nI v)) 15 (120 + v) (nI n)) 0 32 (nI tr))) rfl ?_
  refine am_ic (ty := 119) (tn := 123) rfl (by decide) rfl rfl (fun (h_4 : nI 64 = nI 36) => ?_) (fun (h_4 : ¬ (nI 64 = nI 36)) => ?_)
  · exact absurd h_4 (by decide)
  refine am_run 2 (pc' := 125) (ls' := [some (.ref 0), some (.int (nI v)), some (.int (nI n)), some (.int (nI (120 + n))), some (.int (nI 1))]) (st' := [.int (nI nw - nI 0), .ref 0]) (σ' := (am_wr (am_wr (am_wr (am_wr σ 0 24 (nI lev)) 7 (120 + n) (nI v)) 15 (120 + v) (nI n)) 0 32 (nI tr))) rfl ?_
  refine am_top (v' := nI nw) (nx_sub (Nat.zero_le _)) ?_
  refine am_run 7 (pc' := 138) (ls' := [some (.ref 0), some (.int (nI v)), some (.int (nI n)), some (.int (nI (120 + n))), some (.int (nI 1))]) (st' := [.int (nI (120 + n)), .ref 5]) (σ' := (am_wr (am_wr (am_wr (am_wr (am_wr (am_wr σ 0 24 (nI lev)) 7 (120 + n) (nI v)) 15 (120 + v) (nI n)) 0 32 (nI tr)) 0 33 (nI nw)) 0 23 (nI n))) rfl ?_
  refine am_ialdN (n := 180) (v := nI 64) rfl rfl rfl (by omega) (by rw [am_wr_ne _ (by omega), am_wr_ne _ (by omega), am_wr_ne _ (by omega), am_wr_ne _ (by omega), am_wr_ne _ (by omega), am_wr_ne _ (by omega)]; exact h5) (by decide) ?_
  refine am_run 1 (pc' := 141) (ls' := [some (.ref 0), some (.int (nI v)), some (.int (nI n)), some (.int (nI (120 + n))), some (.int (nI 1))]) (st' := [.int (nI 63), .int (nI 64)]) (σ' := (am_wr (am_wr (am_wr (am_wr (am_wr (am_wr σ 0 24 (nI lev)) 7 (120 + n) (nI v)) 15 (120 + v) (nI n)) 0 32 (nI tr)) 0 33 (nI nw)) 0 23 (nI n))) rfl ?_
  refine am_ic (ty := 144) (tn := 157) rfl (by decide) rfl rfl (fun (h_5 : nI 64 = nI 63) => ?_) (fun (h_5 : ¬ (nI 64 = nI 63)) => ?_)
  · exact absurd h_5 (by decide)
  refine am_run 2 (pc' := 159) (ls' := [some (.ref 0), some (.int (nI v)), some (.int (nI n)), some (.int (nI (120 + n))), some (.int (nI 1))]) (st' := [.int (nI n), .ref 0]) (σ' := (am_wr (am_wr (am_wr (am_wr (am_wr (am_wr σ 0 24 (nI lev)) 7 (120 + n) (nI v)) 15 (120 + v) (nI n)) 0 32 (nI tr)) 0 33 (nI nw)) 0 23 (nI n))) rfl ?_
  refine am_invv (y := 161) (b := 0) (as := [.int (nI n)]) (rest := []) rfl rfl rfl rfl rfl rfl rfl (Nat.le_of_ble_eq_true rfl) ?_
  refine c_m_ends (e := e) (by omega) (by rw [am_diff _ _ _ _ _ (by decide), am_diff _ _ _ _ _ (by decide), am_diff _ _ _ _ _ (by decide), am_wr_ne _ (by omega), am_wr_ne _ (by omega), am_diff _ _ _ _ _ (by decide)]; exact h35) he ?_
  show am_G _ M_X10_closesNode _ 162 [some (.ref 0), some (.int (nI v)), some (.int (nI n)), some (.int (nI (120 + n))), some (.int (nI 1))] [] (am_wr (am_wr (am_wr (am_wr (am_wr (am_wr (am_wr (am_wr σ 0 24 (nI lev)) 7 (120 + n) (nI v)) 15 (120 + v) (nI n)) 0 32 (nI tr)) 0 33 (nI nw)) 0 23 (nI n)) 9 (120 + e) (nI n)) 0 35 (nI (e + 1)))
  refine am_run 2 (pc' := 164) (ls' := [some (.ref 0), some (.int (nI v)), some (.int (nI n)), some (.int (nI (120 + n))), some (.int (nI 1))]) (st' := [.int (nI n), .ref 0]) (σ' := (am_wr (am_wr (am_wr (am_wr (am_wr (am_wr (am_wr (am_wr σ 0 24 (nI lev)) 7 (120 + n) (nI v)) 15 (120 + v) (nI n)) 0 32 (nI tr)) 0 33 (nI nw)) 0 23 (nI n)) 9 (120 + e) (nI n)) 0 35 (nI (e + 1)))) rfl ?_
  refine am_invv (y := 163) (b := 0) (as := [.int (nI n)]) (rest := []) rfl rfl rfl rfl rfl rfl rfl (Nat.le_of_ble_eq_true rfl) ?_
  refine am_C_to (hq _ (by omega)) (fun v σ2 hv => ?_)
  obtain ⟨rfl, hv⟩ := hv
  show am_G _ M_X10_closesNode _ 167 [some (.ref 0), some (.int (nI v)), some (.int (nI n)), some (.int (nI (120 + n))), some (.int (nI 1))] [] σ2
  refine am_retv rfl rfl ?_
  exact hv
set_option maxRecDepth 10000 in
set_option maxHeartbeats 2000000 in
theorem cn_126_0 {d : Nat} (hd : 6 ≤ d) {σ : am_M} {v n tr nw lev e : Nat} (h24 : σ.1 0 24 = nI (lev + 1)) (hlev : lev < 12) (hno : σ.1 21 (lev + 1) = nI n) (hsc : σ.1 22 (lev + 1) = nI 0) (hn : n < 60) (hv : v < 60) (h32 : σ.1 0 32 = nI (tr)) (h33 : σ.1 0 33 = nI (nw)) (h5 : σ.1 5 (120 + n) = nI 126) (h35 : σ.1 0 35 = nI e) (he : e < 60) {Q : am_Q} (hq : EPq (Q none) (am_wr (am_wr (am_wr (am_wr (am_wr (am_wr (am_wr (am_wr σ 0 24 (nI lev)) 7 (120 + n) (nI v)) 15 (120 + v) (nI n)) 0 32 (nI tr)) 0 33 (nI nw)) 0 23 (nI n)) 9 (120 + e) (nI n)) 0 35 (nI (e + 1))) n) : am_C d 171 [.ref 0, .int (nI v)] σ Q := by
  refine am_enter' (M := M_X10_closesNode) rfl rfl rfl (by omega) (ls := [some (.ref 0), some (.int (nI v)), none, none, none]) rfl (fun d' hd' => ?_)
  refine am_run 4 (pc' := 8) (ls' := [some (.ref 0), some (.int (nI v)), none, none, none]) (st' := [.int (σ.1 0 24), .ref 21]) (σ' := σ) rfl ?_
  refine am_top (v' := nI (lev + 1)) h24 ?_
  refine am_ialdN (n := 13) (v := nI n) rfl rfl rfl (by omega) (hno) (by decide) ?_
  refine am_run 3 (pc' := 12) (ls' := [some (.ref 0), some (.int (nI v)), some (.int (nI n)), none, none]) (st' := [.int (nI n), .int (nI 2)]) (σ' := σ) rfl ?_
  refine am_invs (y := 158) (as := [.int (nI 2), .int (nI n)]) (rest := []) rfl rfl rfl rfl rfl rfl (Nat.le_of_ble_eq_true rfl) ?_
  refine c_m_placeOf (by omega) (j := 2) ?_
  show am_G _ M_X10_closesNode _ 15 [some (.ref 0), some (.int (nI v)), some (.int (nI n)), none, none] [.int (nI (120 + n))] σ
  refine am_run 5 (pc' := 24) (ls' := [some (.ref 0), some (.int (nI v)), some (.int (nI n)), some (.int (nI (120 + n))), none]) (st' := [.int (σ.1 0 24), .ref 22]) (σ' := σ) rfl ?_
  refine am_top (v' := nI (lev + 1)) h24 ?_
  refine am_ialdN (n := 13) (v := nI 0) rfl rfl rfl (by omega) (hsc) (by decide) ?_
  refine am_if (ty := 28) (tn := 32) rfl (by decide) rfl rfl (fun (h_1 : nI 0 = 0) => ?_) (fun (h_1 : ¬ (nI 0 = 0)) => ?_)
  rotate_left
  · exact absurd (by decide) h_1
  refine am_run 6 (pc' := 40) (ls' := [some (.ref 0), some (.int (nI v)), some (.int (nI n)), some (.int (nI (120 + n))), some (.int (nI 1))]) (st' := [.int (σ.1 0 24), .ref 0]) (σ' := σ) rfl ?_
  refine am_top (v' := nI (lev + 1)) h24 ?_
  refine am_run 2 (pc' := 42) (ls' := [some (.ref 0), some (.int (nI v)), some (.int (nI n)), some (.int (nI (120 + n))), some (.int (nI 1))]) (st' := [.int (nI (lev + 1) - nI 1), .ref 0]) (σ' := σ) rfl ?_
  refine am_top (v' := nI lev) (nx_sub (by omega)) ?_
  refine am_run 2 (pc' := 47) (ls' := [some (.ref 0), some (.int (nI v)), some (.int (nI n)), some (.int (nI (120 + n))), some (.int (nI 1))]) (st' := [.int (nI 1)]) (σ' := (am_wr σ 0 24 (nI lev))) rfl ?_
  refine am_if (ty := 60) (tn := 50) rfl (by decide) rfl rfl (fun (h_2 : nI 1 = 0) => ?_) (fun (h_2 : ¬ (nI 1 = 0)) => ?_)
  · exact absurd h_2 (by decide)
  refine am_run 4 (pc' := 56) (ls' := [some (.ref 0), some (.int (nI v)), some (.int (nI n)), some (.int (nI (120 + n))), some (.int (nI 1))]) (st' := [.int (nI v), .int (nI (120 + n)), .ref 7]) (σ' := (am_wr σ 0 24 (nI lev))) rfl ?_
  refine am_iastN (n := 180) rfl rfl rfl (by omega) (by decide) ?_
  refine am_run 5 (pc' := 73) (ls' := [some (.ref 0), some (.int (nI v)), some (.int (nI n)), some (.int (nI (120 + n))), some (.int (nI 1))]) (st' := [.int (nI v), .int (nI 2), .ref 15]) (σ' := (am_wr (am_wr σ 0 24 (nI lev)) 7 (120 + n) (nI v))) rfl ?_
  refine am_invs (y := 158) (as := [.int (nI 2), .int (nI v)]) (rest := [.ref 15]) rfl rfl rfl rfl rfl rfl (Nat.le_of_ble_eq_true rfl) ?_
  refine c_m_placeOf (by omega) (j := 2) ?_
  show am_G _ M_X10_closesNode _ 76 [some (.ref 0), some (.int (nI v)), some (.int (nI n)), some (.int (nI (120 + n))), some (.int (nI 1))] [.int (nI (120 + v)), .ref 15] (am_wr (am_wr σ 0 24 (nI lev)) 7 (120 + n) (nI v))
  refine am_run 1 (pc' := 77) (ls' := [some (.ref 0), some (.int (nI v)), some (.int (nI n)), some (.int (nI (120 + n))), some (.int (nI 1))]) (st' := [.int (nI n), .int (nI (120 + v)), .ref 15]) (σ' := (am_wr (am_wr σ 0 24 (nI lev)) 7 (120 + n) (nI v))) rfl ?_
  refine am_iastN (n := 180) rfl rfl rfl (by omega) (by decide) ?_
  refine am_run 3 (pc' := 83) (ls' := [some (.ref 0), some (.int (nI v)), some (.int (nI n)), some (.int (nI (120 + n))), some (.int (nI 1))]) (st' := [.int (σ.1 0 32), .ref 0]) (σ' := (am_wr (am_wr (am_wr σ 0 24 (nI lev)) 7 (120 + n) (nI v)) 15 (120 + v) (nI n))) rfl ?_
  refine am_top (v' := nI tr) h32 ?_
  refine am_run 3 (pc' := 88) (ls' := [some (.ref 0), some (.int (nI v)), some (.int (nI n)), some (.int (nI (120 + n))), some (.int (nI 1))]) (st' := [.int (nI (120 + n)), .ref 5, .int (nI tr), .ref 0]) (σ' := (am_wr (am_wr (am_wr σ 0 24 (nI lev)) 7 (120 + n) (nI v)) 15 (120 + v) (nI n))) rfl ?_
  refine am_ialdN (n := 180) (v := nI 126) rfl rfl rfl (by omega) (by rw [am_wr_ne _ (by omega), am_wr_ne _ (by omega), am_wr_ne _ (by omega)]; exact h5) (by decide) ?_
  refine am_run 1 (pc' := 91) (ls' := [some (.ref 0), some (.int (nI v)), some (.int (nI n)), some (.int (nI (120 + n))), some (.int (nI 1))]) (st' := [.int (nI 94), .int (nI 126), .int (nI tr), .ref 0]) (σ' := (am_wr (am_wr (am_wr σ 0 24 (nI lev)) 7 (120 + n) (nI v)) 15 (120 + v) (nI n))) rfl ?_
  refine am_ic (ty := 94) (tn := 98) rfl (by decide) rfl rfl (fun (h_3 : nI 126 = nI 94) => ?_) (fun (h_3 : ¬ (nI 126 = nI 94)) => ?_)
  · exact absurd h_3 (by decide)
  refine am_run 2 (pc' := 100) (ls' := [some (.ref 0), some (.int (nI v)), some (.int (nI n)), some (.int (nI (120 + n))), some (.int (nI 1))]) (st' := [.int (nI tr - nI 0), .ref 0]) (σ' := (am_wr (am_wr (am_wr σ 0 24 (nI lev)) 7 (120 + n) (nI v)) 15 (120 + v) (nI n))) rfl ?_
  refine am_top (v' := nI tr) (nx_sub (Nat.zero_le _)) ?_
  refine am_run 4 (pc' := 108) (ls' := [some (.ref 0), some (.int (nI v)), some (.int (nI n)), some (.int (nI (120 + n))), some (.int (nI 1))]) (st' := [.int (σ.1 0 33), .ref 0]) (σ' := (am_wr (am_wr (am_wr (am_wr σ 0 24 (nI lev)) 7 (120 + n) (nI v)) 15 (120 + v) (nI n)) 0 32 (nI tr))) rfl ?_
  refine am_top (v' := nI nw) h33 ?_
  refine am_run 3 (pc' := 113) (ls' := [some (.ref 0), some (.int (nI v)), some (.int (nI n)), some (.int (nI (120 + n))), some (.int (nI 1))]) (st' := [.int (nI (120 + n)), .ref 5, .int (nI nw), .ref 0]) (σ' := (am_wr (am_wr (am_wr (am_wr σ 0 24 (nI lev)) 7 (120 + n) (nI v)) 15 (120 + v) (nI n)) 0 32 (nI tr))) rfl ?_
  refine am_ialdN (n := 180) (v := nI 126) rfl rfl rfl (by omega) (by rw [am_wr_ne _ (by omega), am_wr_ne _ (by omega), am_wr_ne _ (by omega), am_wr_ne _ (by omega)]; exact h5) (by decide) ?_
  refine am_run 1 (pc' := 116) (ls' := [some (.ref 0), some (.int (nI v)), some (.int (nI n)), some (.int (nI (120 + n))), some (.int (nI 1))]) (st' := [.int (nI 36), .int (nI 126), .int (nI nw), .ref 0]) (σ' := (am_wr (am_wr (am_wr (am_wr σ 0 24 (nI lev)) 7 (120 + n) (nI v)) 15 (120 + v) (nI n)) 0 32 (nI tr))) rfl ?_
  refine am_ic (ty := 119) (tn := 123) rfl (by decide) rfl rfl (fun (h_4 : nI 126 = nI 36) => ?_) (fun (h_4 : ¬ (nI 126 = nI 36)) => ?_)
  · exact absurd h_4 (by decide)
  refine am_run 2 (pc' := 125) (ls' := [some (.ref 0), some (.int (nI v)), some (.int (nI n)), some (.int (nI (120 + n))), some (.int (nI 1))]) (st' := [.int (nI nw - nI 0), .ref 0]) (σ' := (am_wr (am_wr (am_wr (am_wr σ 0 24 (nI lev)) 7 (120 + n) (nI v)) 15 (120 + v) (nI n)) 0 32 (nI tr))) rfl ?_
  refine am_top (v' := nI nw) (nx_sub (Nat.zero_le _)) ?_
  refine am_run 7 (pc' := 138) (ls' := [some (.ref 0), some (.int (nI v)), some (.int (nI n)), some (.int (nI (120 + n))), some (.int (nI 1))]) (st' := [.int (nI (120 + n)), .ref 5]) (σ' := (am_wr (am_wr (am_wr (am_wr (am_wr (am_wr σ 0 24 (nI lev)) 7 (120 + n) (nI v)) 15 (120 + v) (nI n)) 0 32 (nI tr)) 0 33 (nI nw)) 0 23 (nI n))) rfl ?_
  refine am_ialdN (n := 180) (v := nI 126) rfl rfl rfl (by omega) (by rw [am_wr_ne _ (by omega), am_wr_ne _ (by omega), am_wr_ne _ (by omega), am_wr_ne _ (by omega), am_wr_ne _ (by omega), am_wr_ne _ (by omega)]; exact h5) (by decide) ?_
  refine am_run 1 (pc' := 141) (ls' := [some (.ref 0), some (.int (nI v)), some (.int (nI n)), some (.int (nI (120 + n))), some (.int (nI 1))]) (st' := [.int (nI 63), .int (nI 126)]) (σ' := (am_wr (am_wr (am_wr (am_wr (am_wr (am_wr σ 0 24 (nI lev)) 7 (120 + n) (nI v)) 15 (120 + v) (nI n)) 0 32 (nI tr)) 0 33 (nI nw)) 0 23 (nI n))) rfl ?_
  refine am_ic (ty := 144) (tn := 157) rfl (by decide) rfl rfl (fun (h_5 : nI 126 = nI 63) => ?_) (fun (h_5 : ¬ (nI 126 = nI 63)) => ?_)
  · exact absurd h_5 (by decide)
  refine am_run 2 (pc' := 159) (ls' := [some (.ref 0), some (.int (nI v)), some (.int (nI n)), some (.int (nI (120 + n))), some (.int (nI 1))]) (st' := [.int (nI n), .ref 0]) (σ' := (am_wr (am_wr (am_wr (am_wr (am_wr (am_wr σ 0 24 (nI lev)) 7 (120 + n) (nI v)) 15 (120 + v) (nI n)) 0 32 (nI tr)) 0 33 (nI nw)) 0 23 (nI n))) rfl ?_
  refine am_invv (y := 161) (b := 0) (as := [.int (nI n)]) (rest := []) rfl rfl rfl rfl rfl rfl rfl (Nat.le_of_ble_eq_true rfl) ?_
  refine c_m_ends (e := e) (by omega) (by rw [am_diff _ _ _ _ _ (by decide), am_diff _ _ _ _ _ (by decide), am_diff _ _ _ _ _ (by decide), am_wr_ne _ (by omega), am_wr_ne _ (by omega), am_diff _ _ _ _ _ (by decide)]; exact h35) he ?_
  show am_G _ M_X10_closesNode _ 162 [some (.ref 0), some (.int (nI v)), some (.int (nI n)), some (.int (nI (120 + n))), some (.int (nI 1))] [] (am_wr (am_wr (am_wr (am_wr (am_wr (am_wr (am_wr (am_wr σ 0 24 (nI lev)) 7 (120 + n) (nI v)) 15 (120 + v) (nI n)) 0 32 (nI tr)) 0 33 (nI nw)) 0 23 (nI n)) 9 (120 + e) (nI n)) 0 35 (nI (e + 1)))
  refine am_run 2 (pc' := 164) (ls' := [some (.ref 0), some (.int (nI v)), some (.int (nI n)), some (.int (nI (120 + n))), some (.int (nI 1))]) (st' := [.int (nI n), .ref 0]) (σ' := (am_wr (am_wr (am_wr (am_wr (am_wr (am_wr (am_wr (am_wr σ 0 24 (nI lev)) 7 (120 + n) (nI v)) 15 (120 + v) (nI n)) 0 32 (nI tr)) 0 33 (nI nw)) 0 23 (nI n)) 9 (120 + e) (nI n)) 0 35 (nI (e + 1)))) rfl ?_
  refine am_invv (y := 163) (b := 0) (as := [.int (nI n)]) (rest := []) rfl rfl rfl rfl rfl rfl rfl (Nat.le_of_ble_eq_true rfl) ?_
  refine am_C_to (hq _ (by omega)) (fun v σ2 hv => ?_)
  obtain ⟨rfl, hv⟩ := hv
  show am_G _ M_X10_closesNode _ 167 [some (.ref 0), some (.int (nI v)), some (.int (nI n)), some (.int (nI (120 + n))), some (.int (nI 1))] [] σ2
  refine am_retv rfl rfl ?_
  exact hv
set_option maxRecDepth 10000 in
set_option maxHeartbeats 2000000 in
theorem cn_36_0 {d : Nat} (hd : 6 ≤ d) {σ : am_M} {v n tr nw lev e : Nat} (h24 : σ.1 0 24 = nI (lev + 1)) (hlev : lev < 12) (hno : σ.1 21 (lev + 1) = nI n) (hsc : σ.1 22 (lev + 1) = nI 0) (hn : n < 60) (hv : v < 60) (h32 : σ.1 0 32 = nI (tr)) (h33 : σ.1 0 33 = nI (nw + 1)) (h5 : σ.1 5 (120 + n) = nI 36) (h35 : σ.1 0 35 = nI e) (he : e < 60) {Q : am_Q} (hq : EPq (Q none) (am_wr (am_wr (am_wr (am_wr (am_wr (am_wr (am_wr (am_wr σ 0 24 (nI lev)) 7 (120 + n) (nI v)) 15 (120 + v) (nI n)) 0 32 (nI tr)) 0 33 (nI nw)) 0 23 (nI n)) 9 (120 + e) (nI n)) 0 35 (nI (e + 1))) n) : am_C d 171 [.ref 0, .int (nI v)] σ Q := by
  refine am_enter' (M := M_X10_closesNode) rfl rfl rfl (by omega) (ls := [some (.ref 0), some (.int (nI v)), none, none, none]) rfl (fun d' hd' => ?_)
  refine am_run 4 (pc' := 8) (ls' := [some (.ref 0), some (.int (nI v)), none, none, none]) (st' := [.int (σ.1 0 24), .ref 21]) (σ' := σ) rfl ?_
  refine am_top (v' := nI (lev + 1)) h24 ?_
  refine am_ialdN (n := 13) (v := nI n) rfl rfl rfl (by omega) (hno) (by decide) ?_
  refine am_run 3 (pc' := 12) (ls' := [some (.ref 0), some (.int (nI v)), some (.int (nI n)), none, none]) (st' := [.int (nI n), .int (nI 2)]) (σ' := σ) rfl ?_
  refine am_invs (y := 158) (as := [.int (nI 2), .int (nI n)]) (rest := []) rfl rfl rfl rfl rfl rfl (Nat.le_of_ble_eq_true rfl) ?_
  refine c_m_placeOf (by omega) (j := 2) ?_
  show am_G _ M_X10_closesNode _ 15 [some (.ref 0), some (.int (nI v)), some (.int (nI n)), none, none] [.int (nI (120 + n))] σ
  refine am_run 5 (pc' := 24) (ls' := [some (.ref 0), some (.int (nI v)), some (.int (nI n)), some (.int (nI (120 + n))), none]) (st' := [.int (σ.1 0 24), .ref 22]) (σ' := σ) rfl ?_
  refine am_top (v' := nI (lev + 1)) h24 ?_
  refine am_ialdN (n := 13) (v := nI 0) rfl rfl rfl (by omega) (hsc) (by decide) ?_
  refine am_if (ty := 28) (tn := 32) rfl (by decide) rfl rfl (fun (h_1 : nI 0 = 0) => ?_) (fun (h_1 : ¬ (nI 0 = 0)) => ?_)
  rotate_left
  · exact absurd (by decide) h_1
  refine am_run 6 (pc' := 40) (ls' := [some (.ref 0), some (.int (nI v)), some (.int (nI n)), some (.int (nI (120 + n))), some (.int (nI 1))]) (st' := [.int (σ.1 0 24), .ref 0]) (σ' := σ) rfl ?_
  refine am_top (v' := nI (lev + 1)) h24 ?_
  refine am_run 2 (pc' := 42) (ls' := [some (.ref 0), some (.int (nI v)), some (.int (nI n)), some (.int (nI (120 + n))), some (.int (nI 1))]) (st' := [.int (nI (lev + 1) - nI 1), .ref 0]) (σ' := σ) rfl ?_
  refine am_top (v' := nI lev) (nx_sub (by omega)) ?_
  refine am_run 2 (pc' := 47) (ls' := [some (.ref 0), some (.int (nI v)), some (.int (nI n)), some (.int (nI (120 + n))), some (.int (nI 1))]) (st' := [.int (nI 1)]) (σ' := (am_wr σ 0 24 (nI lev))) rfl ?_
  refine am_if (ty := 60) (tn := 50) rfl (by decide) rfl rfl (fun (h_2 : nI 1 = 0) => ?_) (fun (h_2 : ¬ (nI 1 = 0)) => ?_)
  · exact absurd h_2 (by decide)
  refine am_run 4 (pc' := 56) (ls' := [some (.ref 0), some (.int (nI v)), some (.int (nI n)), some (.int (nI (120 + n))), some (.int (nI 1))]) (st' := [.int (nI v), .int (nI (120 + n)), .ref 7]) (σ' := (am_wr σ 0 24 (nI lev))) rfl ?_
  refine am_iastN (n := 180) rfl rfl rfl (by omega) (by decide) ?_
  refine am_run 5 (pc' := 73) (ls' := [some (.ref 0), some (.int (nI v)), some (.int (nI n)), some (.int (nI (120 + n))), some (.int (nI 1))]) (st' := [.int (nI v), .int (nI 2), .ref 15]) (σ' := (am_wr (am_wr σ 0 24 (nI lev)) 7 (120 + n) (nI v))) rfl ?_
  refine am_invs (y := 158) (as := [.int (nI 2), .int (nI v)]) (rest := [.ref 15]) rfl rfl rfl rfl rfl rfl (Nat.le_of_ble_eq_true rfl) ?_
  refine c_m_placeOf (by omega) (j := 2) ?_
  show am_G _ M_X10_closesNode _ 76 [some (.ref 0), some (.int (nI v)), some (.int (nI n)), some (.int (nI (120 + n))), some (.int (nI 1))] [.int (nI (120 + v)), .ref 15] (am_wr (am_wr σ 0 24 (nI lev)) 7 (120 + n) (nI v))
  refine am_run 1 (pc' := 77) (ls' := [some (.ref 0), some (.int (nI v)), some (.int (nI n)), some (.int (nI (120 + n))), some (.int (nI 1))]) (st' := [.int (nI n), .int (nI (120 + v)), .ref 15]) (σ' := (am_wr (am_wr σ 0 24 (nI lev)) 7 (120 + n) (nI v))) rfl ?_
  refine am_iastN (n := 180) rfl rfl rfl (by omega) (by decide) ?_
  refine am_run 3 (pc' := 83) (ls' := [some (.ref 0), some (.int (nI v)), some (.int (nI n)), some (.int (nI (120 + n))), some (.int (nI 1))]) (st' := [.int (σ.1 0 32), .ref 0]) (σ' := (am_wr (am_wr (am_wr σ 0 24 (nI lev)) 7 (120 + n) (nI v)) 15 (120 + v) (nI n))) rfl ?_
  refine am_top (v' := nI tr) h32 ?_
  refine am_run 3 (pc' := 88) (ls' := [some (.ref 0), some (.int (nI v)), some (.int (nI n)), some (.int (nI (120 + n))), some (.int (nI 1))]) (st' := [.int (nI (120 + n)), .ref 5, .int (nI tr), .ref 0]) (σ' := (am_wr (am_wr (am_wr σ 0 24 (nI lev)) 7 (120 + n) (nI v)) 15 (120 + v) (nI n))) rfl ?_
  refine am_ialdN (n := 180) (v := nI 36) rfl rfl rfl (by omega) (by rw [am_wr_ne _ (by omega), am_wr_ne _ (by omega), am_wr_ne _ (by omega)]; exact h5) (by decide) ?_
  refine am_run 1 (pc' := 91) (ls' := [some (.ref 0), some (.int (nI v)), some (.int (nI n)), some (.int (nI (120 + n))), some (.int (nI 1))]) (st' := [.int (nI 94), .int (nI 36), .int (nI tr), .ref 0]) (σ' := (am_wr (am_wr (am_wr σ 0 24 (nI lev)) 7 (120 + n) (nI v)) 15 (120 + v) (nI n))) rfl ?_
  refine am_ic (ty := 94) (tn := 98) rfl (by decide) rfl rfl (fun (h_3 : nI 36 = nI 94) => ?_) (fun (h_3 : ¬ (nI 36 = nI 94)) => ?_)
  · exact absurd h_3 (by decide)
  refine am_run 2 (pc' := 100) (ls' := [some (.ref 0), some (.int (nI v)), some (.int (nI n)), some (.int (nI (120 + n))), some (.int (nI 1))]) (st' := [.int (nI tr - nI 0), .ref 0]) (σ' := (am_wr (am_wr (am_wr σ 0 24 (nI lev)) 7 (120 + n) (nI v)) 15 (120 + v) (nI n))) rfl ?_
  refine am_top (v' := nI tr) (nx_sub (Nat.zero_le _)) ?_
  refine am_run 4 (pc' := 108) (ls' := [some (.ref 0), some (.int (nI v)), some (.int (nI n)), some (.int (nI (120 + n))), some (.int (nI 1))]) (st' := [.int (σ.1 0 33), .ref 0]) (σ' := (am_wr (am_wr (am_wr (am_wr σ 0 24 (nI lev)) 7 (120 + n) (nI v)) 15 (120 + v) (nI n)) 0 32 (nI tr))) rfl ?_
  refine am_top (v' := nI (nw + 1)) h33 ?_
  refine am_run 3 (pc' := 113) (ls' := [some (.ref 0), some (.int (nI v)), some (.int (nI n)), some (.int (nI (120 + n))), some (.int (nI 1))]) (st' := [.int (nI (120 + n)), .ref 5, .int (nI (nw + 1)), .ref 0]) (σ' := (am_wr (am_wr (am_wr (am_wr σ 0 24 (nI lev)) 7 (120 + n) (nI v)) 15 (120 + v) (nI n)) 0 32 (nI tr))) rfl ?_
  refine am_ialdN (n := 180) (v := nI 36) rfl rfl rfl (by omega) (by rw [am_wr_ne _ (by omega), am_wr_ne _ (by omega), am_wr_ne _ (by omega), am_wr_ne _ (by omega)]; exact h5) (by decide) ?_
  refine am_run 1 (pc' := 116) (ls' := [some (.ref 0), some (.int (nI v)), some (.int (nI n)), some (.int (nI (120 + n))), some (.int (nI 1))]) (st' := [.int (nI 36), .int (nI 36), .int (nI (nw + 1)), .ref 0]) (σ' := (am_wr (am_wr (am_wr (am_wr σ 0 24 (nI lev)) 7 (120 + n) (nI v)) 15 (120 + v) (nI n)) 0 32 (nI tr))) rfl ?_
  refine am_ic (ty := 119) (tn := 123) rfl (by decide) rfl rfl (fun (h_4 : nI 36 = nI 36) => ?_) (fun (h_4 : ¬ (nI 36 = nI 36)) => ?_)
  rotate_left
  · exact absurd (by decide) h_4
  refine am_run 3 (pc' := 125) (ls' := [some (.ref 0), some (.int (nI v)), some (.int (nI n)), some (.int (nI (120 + n))), some (.int (nI 1))]) (st' := [.int (nI (nw + 1) - nI 1), .ref 0]) (σ' := (am_wr (am_wr (am_wr (am_wr σ 0 24 (nI lev)) 7 (120 + n) (nI v)) 15 (120 + v) (nI n)) 0 32 (nI tr))) rfl ?_
  refine am_top (v' := nI nw) (nx_sub (by omega)) ?_
  refine am_run 7 (pc' := 138) (ls' := [some (.ref 0), some (.int (nI v)), some (.int (nI n)), some (.int (nI (120 + n))), some (.int (nI 1))]) (st' := [.int (nI (120 + n)), .ref 5]) (σ' := (am_wr (am_wr (am_wr (am_wr (am_wr (am_wr σ 0 24 (nI lev)) 7 (120 + n) (nI v)) 15 (120 + v) (nI n)) 0 32 (nI tr)) 0 33 (nI nw)) 0 23 (nI n))) rfl ?_
  refine am_ialdN (n := 180) (v := nI 36) rfl rfl rfl (by omega) (by rw [am_wr_ne _ (by omega), am_wr_ne _ (by omega), am_wr_ne _ (by omega), am_wr_ne _ (by omega), am_wr_ne _ (by omega), am_wr_ne _ (by omega)]; exact h5) (by decide) ?_
  refine am_run 1 (pc' := 141) (ls' := [some (.ref 0), some (.int (nI v)), some (.int (nI n)), some (.int (nI (120 + n))), some (.int (nI 1))]) (st' := [.int (nI 63), .int (nI 36)]) (σ' := (am_wr (am_wr (am_wr (am_wr (am_wr (am_wr σ 0 24 (nI lev)) 7 (120 + n) (nI v)) 15 (120 + v) (nI n)) 0 32 (nI tr)) 0 33 (nI nw)) 0 23 (nI n))) rfl ?_
  refine am_ic (ty := 144) (tn := 157) rfl (by decide) rfl rfl (fun (h_5 : nI 36 = nI 63) => ?_) (fun (h_5 : ¬ (nI 36 = nI 63)) => ?_)
  · exact absurd h_5 (by decide)
  refine am_run 2 (pc' := 159) (ls' := [some (.ref 0), some (.int (nI v)), some (.int (nI n)), some (.int (nI (120 + n))), some (.int (nI 1))]) (st' := [.int (nI n), .ref 0]) (σ' := (am_wr (am_wr (am_wr (am_wr (am_wr (am_wr σ 0 24 (nI lev)) 7 (120 + n) (nI v)) 15 (120 + v) (nI n)) 0 32 (nI tr)) 0 33 (nI nw)) 0 23 (nI n))) rfl ?_
  refine am_invv (y := 161) (b := 0) (as := [.int (nI n)]) (rest := []) rfl rfl rfl rfl rfl rfl rfl (Nat.le_of_ble_eq_true rfl) ?_
  refine c_m_ends (e := e) (by omega) (by rw [am_diff _ _ _ _ _ (by decide), am_diff _ _ _ _ _ (by decide), am_diff _ _ _ _ _ (by decide), am_wr_ne _ (by omega), am_wr_ne _ (by omega), am_diff _ _ _ _ _ (by decide)]; exact h35) he ?_
  show am_G _ M_X10_closesNode _ 162 [some (.ref 0), some (.int (nI v)), some (.int (nI n)), some (.int (nI (120 + n))), some (.int (nI 1))] [] (am_wr (am_wr (am_wr (am_wr (am_wr (am_wr (am_wr (am_wr σ 0 24 (nI lev)) 7 (120 + n) (nI v)) 15 (120 + v) (nI n)) 0 32 (nI tr)) 0 33 (nI nw)) 0 23 (nI n)) 9 (120 + e) (nI n)) 0 35 (nI (e + 1)))
  refine am_run 2 (pc' := 164) (ls' := [some (.ref 0), some (.int (nI v)), some (.int (nI n)), some (.int (nI (120 + n))), some (.int (nI 1))]) (st' := [.int (nI n), .ref 0]) (σ' := (am_wr (am_wr (am_wr (am_wr (am_wr (am_wr (am_wr (am_wr σ 0 24 (nI lev)) 7 (120 + n) (nI v)) 15 (120 + v) (nI n)) 0 32 (nI tr)) 0 33 (nI nw)) 0 23 (nI n)) 9 (120 + e) (nI n)) 0 35 (nI (e + 1)))) rfl ?_
  refine am_invv (y := 163) (b := 0) (as := [.int (nI n)]) (rest := []) rfl rfl rfl rfl rfl rfl rfl (Nat.le_of_ble_eq_true rfl) ?_
  refine am_C_to (hq _ (by omega)) (fun v σ2 hv => ?_)
  obtain ⟨rfl, hv⟩ := hv
  show am_G _ M_X10_closesNode _ 167 [some (.ref 0), some (.int (nI v)), some (.int (nI n)), some (.int (nI (120 + n))), some (.int (nI 1))] [] σ2
  refine am_retv rfl rfl ?_
  exact hv

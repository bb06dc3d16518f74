/-- a call of endsRow that comes to R -/
def ERq (R : am_M → Prop) (σ : am_M) : Prop := ∀ d, 4 ≤ d → am_C d 164 [.ref 0] σ (fun v σ' => v = none ∧ R σ')
set_option maxRecDepth 10000 in
set_option maxHeartbeats 2000000 in
theorem bh_59 {d : Nat} (hd : 6 ≤ d) {σ : am_M} {L pos n kk e lev tr nw : Nat} {tx O : Nat → Nat} (h : RB σ L tx pos n kk e lev tr nw O) {Q : am_Q} (h3 : 60 ≤ n → Q (some (.int (nI 3))) σ) (hq : ¬ (60 ≤ n) → ∀ σ', RB σ' L tx pos (n + 1) kk e lev tr nw O → RF σ σ' n e lev nw → NW σ' n 59 nw kk O → σ'.1 0 = σ.1 0 → (∀ c', 20 ≤ c' → c' ≤ 27 → σ'.1 c' = σ.1 c') → Q (some (.int (nI 0))) (am_wr (am_wr σ' 26 lev (nI n)) 0 22 (nI 0))) : am_C d 172 [.ref 0, .int (nI 59)] σ Q := by
  obtain ⟨⟨t1, t2, t3⟩, a1, a2, a3, a4, a5, a6, a7, a8, a9, a10, a11, a12, a13, a14⟩ := id h
  refine am_enter' (M := M_X10_readsBehind) rfl rfl rfl (by omega) (ls := [some (.ref 0), some (.int (nI 59)), none, none]) rfl (fun d' hd' => ?_)
  refine am_run 2 (pc' := 3) (ls' := [some (.ref 0), some (.int (nI 59)), none, none]) (st' := [.int (nI 59), .int (nI 59)]) (σ' := σ) rfl ?_
  refine am_ic (ty := 12) (tn := 6) rfl (by decide) rfl rfl (fun (h_1 : nI 59 = nI 59) => ?_) (fun (h_1 : ¬ (nI 59 = nI 59)) => ?_)
  rotate_left
  · exact absurd (by decide) h_1
  refine am_run 2 (pc' := 14) (ls' := [some (.ref 0), some (.int (nI 59)), none, none]) (st' := [.int (nI 59), .ref 0]) (σ' := σ) rfl ?_
  refine am_invv (y := 160) (b := 0) (as := [.int (nI 59)]) (rest := []) rfl rfl rfl rfl rfl rfl rfl (Nat.le_of_ble_eq_true rfl) ?_
  refine c_m_isFull_59 (by omega) a3 a5 a4 a6 (fun hx => ?_) (fun hx => ?_)
  · show am_G _ M_X10_readsBehind _ 17 [some (.ref 0), some (.int (nI 59)), none, none] [.int (nI 1)] σ
    refine am_if (ty := 22) (tn := 20) rfl (by decide) rfl rfl (fun (h_2 : nI 1 = 0) => ?_) (fun (h_2 : ¬ (nI 1 = 0)) => ?_)
    · exact absurd h_2 (by decide)
    refine am_run 1 (pc' := 21) (ls' := [some (.ref 0), some (.int (nI 59)), none, none]) (st' := [.int (nI 3)]) (σ' := σ) rfl ?_
    refine am_reti rfl rfl ?_
    exact h3 (by omega)
  · show am_G _ M_X10_readsBehind _ 17 [some (.ref 0), some (.int (nI 59)), none, none] [.int (nI 0)] σ
    refine am_if (ty := 22) (tn := 20) rfl (by decide) rfl rfl (fun (h_3 : nI 0 = 0) => ?_) (fun (h_3 : ¬ (nI 0 = 0)) => ?_)
    rotate_left
    · exact absurd (by decide) h_3
    refine am_run 2 (pc' := 25) (ls' := [some (.ref 0), some (.int (nI 59)), none, none]) (st' := [.int (nI 124), .int (nI 59)]) (σ' := σ) rfl ?_
    refine am_ic (ty := 28) (tn := 49) rfl (by decide) rfl rfl (fun (h_4 : nI 59 = nI 124) => ?_) (fun (h_4 : ¬ (nI 59 = nI 124)) => ?_)
    · exact absurd h_4 (by decide)
    refine am_run 4 (pc' := 57) (ls' := [some (.ref 0), some (.int (nI 59)), none, none]) (st' := [.int (σ.1 0 24), .ref 26]) (σ' := σ) rfl ?_
    refine am_top (v' := nI lev) a9 ?_
    refine am_run 2 (pc' := 59) (ls' := [some (.ref 0), some (.int (nI 59)), none, none]) (st' := [.int (nI 59), .ref 0, .int (nI lev), .ref 26]) (σ' := σ) rfl ?_
    refine am_invv (y := 159) (b := 0) (as := [.int (nI 59)]) (rest := [.int (nI lev), .ref 26]) rfl rfl rfl rfl rfl rfl rfl (Nat.le_of_ble_eq_true rfl) ?_
    refine nn_59 (by omega) h (by omega) (fun σ' hB hF hN h0 h20 => ?_)
    have hq := hq hx σ' hB hF hN h0 h20
    show am_G _ M_X10_readsBehind _ 62 [some (.ref 0), some (.int (nI 59)), none, none] [.int (nI n), .int (nI lev), .ref 26] σ'
    refine am_iastN (n := 13) rfl rfl rfl (by omega) (by decide) ?_
    refine am_run 4 (pc' := 69) (ls' := [some (.ref 0), some (.int (nI 59)), none, none]) (st' := [.int (nI 0)]) (σ' := (am_wr (am_wr σ' 26 lev (nI n)) 0 22 (nI 0))) rfl ?_
    refine am_reti rfl rfl ?_
    exact hq
set_option maxRecDepth 10000 in
set_option maxHeartbeats 2000000 in
theorem bh_124 {d : Nat} (hd : 6 ≤ d) {σ : am_M} {L pos n kk e lev tr nw : Nat} {tx O : Nat → Nat} (h : RB σ L tx pos n kk e lev tr nw O) {Q : am_Q} (h3 : 60 ≤ n → Q (some (.int (nI 3))) σ) {e1 : Nat} (hq : ¬ (60 ≤ n) → ERq (fun σ1 => RB σ1 L tx pos n kk e1 lev tr nw O ∧ ∀ σ', RB σ' L tx pos (n + 1) kk e1 lev tr nw O → RF σ1 σ' n e1 lev nw → NW σ' n 124 nw kk O → σ'.1 0 = σ1.1 0 → (∀ c', 20 ≤ c' → c' ≤ 27 → σ'.1 c' = σ1.1 c') → Q (some (.int (nI 0))) (am_wr (am_wr σ' 24 lev (nI n)) 0 22 (nI 0))) σ) : am_C d 172 [.ref 0, .int (nI 124)] σ Q := by
  obtain ⟨⟨t1, t2, t3⟩, a1, a2, a3, a4, a5, a6, a7, a8, a9, a10, a11, a12, a13, a14⟩ := id h
  refine am_enter' (M := M_X10_readsBehind) rfl rfl rfl (by omega) (ls := [some (.ref 0), some (.int (nI 124)), none, none]) rfl (fun d' hd' => ?_)
  refine am_run 2 (pc' := 3) (ls' := [some (.ref 0), some (.int (nI 124)), none, none]) (st' := [.int (nI 59), .int (nI 124)]) (σ' := σ) rfl ?_
  refine am_ic (ty := 12) (tn := 6) rfl (by decide) rfl rfl (fun (h_1 : nI 124 = nI 59) => ?_) (fun (h_1 : ¬ (nI 124 = nI 59)) => ?_)
  · exact absurd h_1 (by decide)
  refine am_run 2 (pc' := 9) (ls' := [some (.ref 0), some (.int (nI 124)), none, none]) (st' := [.int (nI 124), .int (nI 124)]) (σ' := σ) rfl ?_
  refine am_ic (ty := 12) (tn := 70) rfl (by decide) rfl rfl (fun (h_2 : nI 124 = nI 124) => ?_) (fun (h_2 : ¬ (nI 124 = nI 124)) => ?_)
  rotate_left
  · exact absurd (by decide) h_2
  refine am_run 2 (pc' := 14) (ls' := [some (.ref 0), some (.int (nI 124)), none, none]) (st' := [.int (nI 124), .ref 0]) (σ' := σ) rfl ?_
  refine am_invv (y := 160) (b := 0) (as := [.int (nI 124)]) (rest := []) rfl rfl rfl rfl rfl rfl rfl (Nat.le_of_ble_eq_true rfl) ?_
  refine c_m_isFull_124 (by omega) a3 a5 a4 a6 (fun hx => ?_) (fun hx => ?_)
  · show am_G _ M_X10_readsBehind _ 17 [some (.ref 0), some (.int (nI 124)), none, none] [.int (nI 1)] σ
    refine am_if (ty := 22) (tn := 20) rfl (by decide) rfl rfl (fun (h_3 : nI 1 = 0) => ?_) (fun (h_3 : ¬ (nI 1 = 0)) => ?_)
    · exact absurd h_3 (by decide)
    refine am_run 1 (pc' := 21) (ls' := [some (.ref 0), some (.int (nI 124)), none, none]) (st' := [.int (nI 3)]) (σ' := σ) rfl ?_
    refine am_reti rfl rfl ?_
    exact h3 (by omega)
  · show am_G _ M_X10_readsBehind _ 17 [some (.ref 0), some (.int (nI 124)), none, none] [.int (nI 0)] σ
    refine am_if (ty := 22) (tn := 20) rfl (by decide) rfl rfl (fun (h_4 : nI 0 = 0) => ?_) (fun (h_4 : ¬ (nI 0 = 0)) => ?_)
    rotate_left
    · exact absurd (by decide) h_4
    refine am_run 2 (pc' := 25) (ls' := [some (.ref 0), some (.int (nI 124)), none, none]) (st' := [.int (nI 124), .int (nI 124)]) (σ' := σ) rfl ?_
    refine am_ic (ty := 28) (tn := 49) rfl (by decide) rfl rfl (fun (h_5 : nI 124 = nI 124) => ?_) (fun (h_5 : ¬ (nI 124 = nI 124)) => ?_)
    rotate_left
    · exact absurd (by decide) h_5
    refine am_run 1 (pc' := 29) (ls' := [some (.ref 0), some (.int (nI 124)), none, none]) (st' := [.ref 0]) (σ' := σ) rfl ?_
    refine am_invv (y := 164) (b := 0) (as := []) (rest := []) rfl rfl rfl rfl rfl rfl rfl (Nat.le_of_ble_eq_true rfl) ?_
    refine am_C_to (hq hx _ (by omega)) (fun v σ1 hv => ?_)
    obtain ⟨rfl, hB1, hq⟩ := hv
    have b9 := hB1.2.2.2.2.2.2.2.2.2.1
    show am_G _ M_X10_readsBehind _ 32 [some (.ref 0), some (.int (nI 124)), none, none] [] σ1
    refine am_run 4 (pc' := 40) (ls' := [some (.ref 0), some (.int (nI 124)), none, none]) (st' := [.int (σ1.1 0 24), .ref 24]) (σ' := σ1) rfl ?_
    refine am_top (v' := nI lev) b9 ?_
    refine am_run 2 (pc' := 42) (ls' := [some (.ref 0), some (.int (nI 124)), none, none]) (st' := [.int (nI 124), .ref 0, .int (nI lev), .ref 24]) (σ' := σ1) rfl ?_
    refine am_invv (y := 159) (b := 0) (as := [.int (nI 124)]) (rest := [.int (nI lev), .ref 24]) rfl rfl rfl rfl rfl rfl rfl (Nat.le_of_ble_eq_true rfl) ?_
    refine nn_124 (by omega) hB1 (by omega) (fun σ' hB hF hN h0 h20 => ?_)
    have hq := hq σ' hB hF hN h0 h20
    show am_G _ M_X10_readsBehind _ 45 [some (.ref 0), some (.int (nI 124)), none, none] [.int (nI n), .int (nI lev), .ref 24] σ'
    refine am_iastN (n := 13) rfl rfl rfl (by omega) (by decide) ?_
    refine am_run 5 (pc' := 69) (ls' := [some (.ref 0), some (.int (nI 124)), none, none]) (st' := [.int (nI 0)]) (σ' := (am_wr (am_wr σ' 24 lev (nI n)) 0 22 (nI 0))) rfl ?_
    refine am_reti rfl rfl ?_
    exact hq
set_option maxRecDepth 10000 in
set_option maxHeartbeats 2000000 in
theorem bh_bad0 {d : Nat} (hd : 2 ≤ d) {σ : am_M} {c : Nat} (hc : c < 256) (h59 : ¬ c = 59) (h124 : ¬ c = 124) (h24 : σ.1 0 24 = nI 0) {Q : am_Q} (hq : Q (some (.int (nI 1))) σ) : am_C d 172 [.ref 0, .int (nI c)] σ Q := by
  refine am_enter' (M := M_X10_readsBehind) rfl rfl rfl (by omega) (ls := [some (.ref 0), some (.int (nI c)), none, none]) rfl (fun d' hd' => ?_)
  refine am_run 2 (pc' := 3) (ls' := [some (.ref 0), some (.int (nI c)), none, none]) (st' := [.int (nI 59), .int (nI c)]) (σ' := σ) rfl ?_
  refine am_ic (ty := 12) (tn := 6) rfl (by decide) rfl rfl (fun (h_1 : nI c = nI 59) => ?_) (fun (h_1 : ¬ (nI c = nI 59)) => ?_)
  · have h_1 : c = 59 := (nI_eq (by omega) (by omega)).mp h_1
    omega
  have h_1 : ¬ (c = 59) := fun z => h_1 ((nI_eq (by omega) (by omega)).mpr z)
  refine am_run 2 (pc' := 9) (ls' := [some (.ref 0), some (.int (nI c)), none, none]) (st' := [.int (nI 124), .int (nI c)]) (σ' := σ) rfl ?_
  refine am_ic (ty := 12) (tn := 70) rfl (by decide) rfl rfl (fun (h_2 : nI c = nI 124) => ?_) (fun (h_2 : ¬ (nI c = nI 124)) => ?_)
  · have h_2 : c = 124 := (nI_eq (by omega) (by omega)).mp h_2
    omega
  have h_2 : ¬ (c = 124) := fun z => h_2 ((nI_eq (by omega) (by omega)).mpr z)
  refine am_run 2 (pc' := 74) (ls' := [some (.ref 0), some (.int (nI c)), none, none]) (st' := [.int (σ.1 0 24)]) (σ' := σ) rfl ?_
  refine am_top (v' := nI 0) h24 ?_
  refine am_if (ty := 77) (tn := 105) rfl (by decide) rfl rfl (fun (h_3 : 0 < nI 0) => ?_) (fun (h_3 : ¬ (0 < nI 0)) => ?_)
  · exact absurd h_3 (by decide)
  refine am_run 3 (pc' := 108) (ls' := [some (.ref 0), some (.int (nI c)), some (.int (nI 0)), none]) (st' := [.int (nI 0)]) (σ' := σ) rfl ?_
  refine am_if (ty := 111) (tn := 113) rfl (by decide) rfl rfl (fun (h_4 : nI 0 = 0) => ?_) (fun (h_4 : ¬ (nI 0 = 0)) => ?_)
  rotate_left
  · exact absurd (by decide) h_4
  refine am_run 1 (pc' := 112) (ls' := [some (.ref 0), some (.int (nI c)), some (.int (nI 0)), none]) (st' := [.int (nI 1)]) (σ' := σ) rfl ?_
  refine am_reti rfl rfl ?_
  exact hq
set_option maxRecDepth 10000 in
set_option maxHeartbeats 2000000 in
theorem bh_bad1 {d : Nat} (hd : 2 ≤ d) {σ : am_M} {c : Nat} (hc : c < 256) (h59 : ¬ c = 59) (h124 : ¬ c = 124) (hcl : ¬ c = 41) {lev : Nat} (h24 : σ.1 0 24 = nI (lev + 1)) (hlev : lev < 12) (hso : σ.1 20 (lev + 1) = nI 1) {Q : am_Q} (hq : Q (some (.int (nI 1))) σ) : am_C d 172 [.ref 0, .int (nI c)] σ Q := by
  refine am_enter' (M := M_X10_readsBehind) rfl rfl rfl (by omega) (ls := [some (.ref 0), some (.int (nI c)), none, none]) rfl (fun d' hd' => ?_)
  refine am_run 2 (pc' := 3) (ls' := [some (.ref 0), some (.int (nI c)), none, none]) (st' := [.int (nI 59), .int (nI c)]) (σ' := σ) rfl ?_
  refine am_ic (ty := 12) (tn := 6) rfl (by decide) rfl rfl (fun (h_1 : nI c = nI 59) => ?_) (fun (h_1 : ¬ (nI c = nI 59)) => ?_)
  · have h_1 : c = 59 := (nI_eq (by omega) (by omega)).mp h_1
    omega
  have h_1 : ¬ (c = 59) := fun z => h_1 ((nI_eq (by omega) (by omega)).mpr z)
  refine am_run 2 (pc' := 9) (ls' := [some (.ref 0), some (.int (nI c)), none, none]) (st' := [.int (nI 124), .int (nI c)]) (σ' := σ) rfl ?_
  refine am_ic (ty := 12) (tn := 70) rfl (by decide) rfl rfl (fun (h_2 : nI c = nI 124) => ?_) (fun (h_2 : ¬ (nI c = nI 124)) => ?_)
  · have h_2 : c = 124 := (nI_eq (by omega) (by omega)).mp h_2
    omega
  have h_2 : ¬ (c = 124) := fun z => h_2 ((nI_eq (by omega) (by omega)).mpr z)
  refine am_run 2 (pc' := 74) (ls' := [some (.ref 0), some (.int (nI c)), none, none]) (st' := [.int (σ.1 0 24)]) (σ' := σ) rfl ?_
  refine am_top (v' := nI (lev + 1)) h24 ?_
  refine am_if (ty := 77) (tn := 105) rfl (by decide) rfl rfl (fun (h_3 : 0 < nI (lev + 1)) => ?_) (fun (h_3 : ¬ (0 < nI (lev + 1))) => ?_)
  rotate_left
  · have h_3 : ¬ (0 < lev + 1) := fun z => h_3 ((am_0ltn (by omega)).mpr z)
    omega
  have h_3 : 0 < lev + 1 := (am_0ltn (by omega)).mp h_3
  refine am_run 5 (pc' := 86) (ls' := [some (.ref 0), some (.int (nI c)), none, none]) (st' := [.int (σ.1 0 24), .ref 20, .int (nI c)]) (σ' := σ) rfl ?_
  refine am_top (v' := nI (lev + 1)) h24 ?_
  refine am_ialdN (n := 13) (v := nI 1) rfl rfl rfl (by omega) (hso) (by decide) ?_
  refine am_run 1 (pc' := 88) (ls' := [some (.ref 0), some (.int (nI c)), none, none]) (st' := [.int (nI 1), .int (nI 1), .int (nI c)]) (σ' := σ) rfl ?_
  refine am_ic (ty := 91) (tn := 96) rfl (by decide) rfl rfl (fun (h_4 : nI 1 = nI 1) => ?_) (fun (h_4 : ¬ (nI 1 = nI 1)) => ?_)
  rotate_left
  · exact absurd (by decide) h_4
  refine am_run 2 (pc' := 98) (ls' := [some (.ref 0), some (.int (nI c)), none, none]) (st' := [.int (nI 41), .int (nI c)]) (σ' := σ) rfl ?_
  refine am_ic (ty := 101) (tn := 105) rfl (by decide) rfl rfl (fun (h_5 : nI c = nI 41) => ?_) (fun (h_5 : ¬ (nI c = nI 41)) => ?_)
  · have h_5 : c = 41 := (nI_eq (by omega) (by omega)).mp h_5
    omega
  have h_5 : ¬ (c = 41) := fun z => h_5 ((nI_eq (by omega) (by omega)).mpr z)
  refine am_run 3 (pc' := 108) (ls' := [some (.ref 0), some (.int (nI c)), some (.int (nI 0)), none]) (st' := [.int (nI 0)]) (σ' := σ) rfl ?_
  refine am_if (ty := 111) (tn := 113) rfl (by decide) rfl rfl (fun (h_6 : nI 0 = 0) => ?_) (fun (h_6 : ¬ (nI 0 = 0)) => ?_)
  rotate_left
  · exact absurd (by decide) h_6
  refine am_run 1 (pc' := 112) (ls' := [some (.ref 0), some (.int (nI c)), some (.int (nI 0)), none]) (st' := [.int (nI 1)]) (σ' := σ) rfl ?_
  refine am_reti rfl rfl ?_
  exact hq
set_option maxRecDepth 10000 in
set_option maxHeartbeats 2000000 in
theorem bh_bad2 {d : Nat} (hd : 2 ≤ d) {σ : am_M} {c : Nat} (hc : c < 256) (h59 : ¬ c = 59) (h124 : ¬ c = 124) (hcl : ¬ c = 125) {lev : Nat} (h24 : σ.1 0 24 = nI (lev + 1)) (hlev : lev < 12) (hso : σ.1 20 (lev + 1) = nI 2) {Q : am_Q} (hq : Q (some (.int (nI 1))) σ) : am_C d 172 [.ref 0, .int (nI c)] σ Q := by
  refine am_enter' (M := M_X10_readsBehind) rfl rfl rfl (by omega) (ls := [some (.ref 0), some (.int (nI c)), none, none]) rfl (fun d' hd' => ?_)
  refine am_run 2 (pc' := 3) (ls' := [some (.ref 0), some (.int (nI c)), none, none]) (st' := [.int (nI 59), .int (nI c)]) (σ' := σ) rfl ?_
  refine am_ic (ty := 12) (tn := 6) rfl (by decide) rfl rfl (fun (h_1 : nI c = nI 59) => ?_) (fun (h_1 : ¬ (nI c = nI 59)) => ?_)
  · have h_1 : c = 59 := (nI_eq (by omega) (by omega)).mp h_1
    omega
  have h_1 : ¬ (c = 59) := fun z => h_1 ((nI_eq (by omega) (by omega)).mpr z)
  refine am_run 2 (pc' := 9) (ls' := [some (.ref 0), some (.int (nI c)), none, none]) (st' := [.int (nI 124), .int (nI c)]) (σ' := σ) rfl ?_
  refine am_ic (ty := 12) (tn := 70) rfl (by decide) rfl rfl (fun (h_2 : nI c = nI 124) => ?_) (fun (h_2 : ¬ (nI c = nI 124)) => ?_)
  · have h_2 : c = 124 := (nI_eq (by omega) (by omega)).mp h_2
    omega
  have h_2 : ¬ (c = 124) := fun z => h_2 ((nI_eq (by omega) (by omega)).mpr z)
  refine am_run 2 (pc' := 74) (ls' := [some (.ref 0), some (.int (nI c)), none, none]) (st' := [.int (σ.1 0 24)]) (σ' := σ) rfl ?_
  refine am_top (v' := nI (lev + 1)) h24 ?_
  refine am_if (ty := 77) (tn := 105) rfl (by decide) rfl rfl (fun (h_3 : 0 < nI (lev + 1)) => ?_) (fun (h_3 : ¬ (0 < nI (lev + 1))) => ?_)
  rotate_left
  · have h_3 : ¬ (0 < lev + 1) := fun z => h_3 ((am_0ltn (by omega)).mpr z)
    omega
  have h_3 : 0 < lev + 1 := (am_0ltn (by omega)).mp h_3
  refine am_run 5 (pc' := 86) (ls' := [some (.ref 0), some (.int (nI c)), none, none]) (st' := [.int (σ.1 0 24), .ref 20, .int (nI c)]) (σ' := σ) rfl ?_
  refine am_top (v' := nI (lev + 1)) h24 ?_
  refine am_ialdN (n := 13) (v := nI 2) rfl rfl rfl (by omega) (hso) (by decide) ?_
  refine am_run 1 (pc' := 88) (ls' := [some (.ref 0), some (.int (nI c)), none, none]) (st' := [.int (nI 1), .int (nI 2), .int (nI c)]) (σ' := σ) rfl ?_
  refine am_ic (ty := 91) (tn := 96) rfl (by decide) rfl rfl (fun (h_4 : nI 2 = nI 1) => ?_) (fun (h_4 : ¬ (nI 2 = nI 1)) => ?_)
  · exact absurd h_4 (by decide)
  refine am_run 1 (pc' := 98) (ls' := [some (.ref 0), some (.int (nI c)), none, none]) (st' := [.int (nI 125), .int (nI c)]) (σ' := σ) rfl ?_
  refine am_ic (ty := 101) (tn := 105) rfl (by decide) rfl rfl (fun (h_5 : nI c = nI 125) => ?_) (fun (h_5 : ¬ (nI c = nI 125)) => ?_)
  · have h_5 : c = 125 := (nI_eq (by omega) (by omega)).mp h_5
    omega
  have h_5 : ¬ (c = 125) := fun z => h_5 ((nI_eq (by omega) (by omega)).mpr z)
  refine am_run 3 (pc' := 108) (ls' := [some (.ref 0), some (.int (nI c)), some (.int (nI 0)), none]) (st' := [.int (nI 0)]) (σ' := σ) rfl ?_
  refine am_if (ty := 111) (tn := 113) rfl (by decide) rfl rfl (fun (h_6 : nI 0 = 0) => ?_) (fun (h_6 : ¬ (nI 0 = 0)) => ?_)
  rotate_left
  · exact absurd (by decide) h_6
  refine am_run 1 (pc' := 112) (ls' := [some (.ref 0), some (.int (nI c)), some (.int (nI 0)), none]) (st' := [.int (nI 1)]) (σ' := σ) rfl ?_
  refine am_reti rfl rfl ?_
  exact hq
set_option maxRecDepth 10000 in
set_option maxHeartbeats 2000000 in
theorem bh_41 {d : Nat} (hd : 6 ≤ d) {σ : am_M} {v lev : Nat} (h24 : σ.1 0 24 = nI (lev + 1)) (hlev : lev < 12) (hso : σ.1 20 (lev + 1) = nI 1) {Q : am_Q} (hq : ERq (fun σ1 => σ1.1 0 24 = nI (lev + 1) ∧ σ1.1 20 (lev + 1) = nI 1 ∧ σ1.1 23 (lev + 1) = nI v ∧ EPq (Q (some (.int (nI 0)))) (am_wr σ1 0 24 (nI lev)) v) σ) : am_C d 172 [.ref 0, .int (nI 41)] σ Q := by
  refine am_enter' (M := M_X10_readsBehind) rfl rfl rfl (by omega) (ls := [some (.ref 0), some (.int (nI 41)), none, none]) rfl (fun d' hd' => ?_)
  refine am_run 2 (pc' := 3) (ls' := [some (.ref 0), some (.int (nI 41)), none, none]) (st' := [.int (nI 59), .int (nI 41)]) (σ' := σ) rfl ?_
  refine am_ic (ty := 12) (tn := 6) rfl (by decide) rfl rfl (fun (h_1 : nI 41 = nI 59) => ?_) (fun (h_1 : ¬ (nI 41 = nI 59)) => ?_)
  · exact absurd h_1 (by decide)
  refine am_run 2 (pc' := 9) (ls' := [some (.ref 0), some (.int (nI 41)), none, none]) (st' := [.int (nI 124), .int (nI 41)]) (σ' := σ) rfl ?_
  refine am_ic (ty := 12) (tn := 70) rfl (by decide) rfl rfl (fun (h_2 : nI 41 = nI 124) => ?_) (fun (h_2 : ¬ (nI 41 = nI 124)) => ?_)
  · exact absurd h_2 (by decide)
  refine am_run 2 (pc' := 74) (ls' := [some (.ref 0), some (.int (nI 41)), none, none]) (st' := [.int (σ.1 0 24)]) (σ' := σ) rfl ?_
  refine am_top (v' := nI (lev + 1)) h24 ?_
  refine am_if (ty := 77) (tn := 105) rfl (by decide) rfl rfl (fun (h_3 : 0 < nI (lev + 1)) => ?_) (fun (h_3 : ¬ (0 < nI (lev + 1))) => ?_)
  rotate_left
  · have h_3 : ¬ (0 < lev + 1) := fun z => h_3 ((am_0ltn (by omega)).mpr z)
    omega
  have h_3 : 0 < lev + 1 := (am_0ltn (by omega)).mp h_3
  refine am_run 5 (pc' := 86) (ls' := [some (.ref 0), some (.int (nI 41)), none, none]) (st' := [.int (σ.1 0 24), .ref 20, .int (nI 41)]) (σ' := σ) rfl ?_
  refine am_top (v' := nI (lev + 1)) h24 ?_
  refine am_ialdN (n := 13) (v := nI 1) rfl rfl rfl (by omega) hso (by decide) ?_
  refine am_run 1 (pc' := 88) (ls' := [some (.ref 0), some (.int (nI 41)), none, none]) (st' := [.int (nI 1), .int (nI 1), .int (nI 41)]) (σ' := σ) rfl ?_
  refine am_ic (ty := 91) (tn := 96) rfl (by decide) rfl rfl (fun (h_4 : nI 1 = nI 1) => ?_) (fun (h_4 : ¬ (nI 1 = nI 1)) => ?_)
  rotate_left
  · exact absurd (by decide) h_4
  refine am_run 2 (pc' := 98) (ls' := [some (.ref 0), some (.int (nI 41)), none, none]) (st' := [.int (nI 41), .int (nI 41)]) (σ' := σ) rfl ?_
  refine am_ic (ty := 101) (tn := 105) rfl (by decide) rfl rfl (fun (h_5 : nI 41 = nI 41) => ?_) (fun (h_5 : ¬ (nI 41 = nI 41)) => ?_)
  rotate_left
  · exact absurd (by decide) h_5
  refine am_run 4 (pc' := 108) (ls' := [some (.ref 0), some (.int (nI 41)), some (.int (nI 1)), none]) (st' := [.int (nI 1)]) (σ' := σ) rfl ?_
  refine am_if (ty := 111) (tn := 113) rfl (by decide) rfl rfl (fun (h_6 : nI 1 = 0) => ?_) (fun (h_6 : ¬ (nI 1 = 0)) => ?_)
  · exact absurd h_6 (by decide)
  refine am_run 1 (pc' := 114) (ls' := [some (.ref 0), some (.int (nI 41)), some (.int (nI 1)), none]) (st' := [.ref 0]) (σ' := σ) rfl ?_
  refine am_invv (y := 164) (b := 0) (as := []) (rest := []) rfl rfl rfl rfl rfl rfl rfl (Nat.le_of_ble_eq_true rfl) ?_
  refine am_C_to (hq _ (by omega)) (fun w σ1 hw => ?_)
  obtain ⟨rfl, g24, gso, gsi, hq⟩ := hw
  show am_G _ M_X10_readsBehind _ 117 [some (.ref 0), some (.int (nI 41)), some (.int (nI 1)), none] [] σ1
  refine am_run 4 (pc' := 125) (ls' := [some (.ref 0), some (.int (nI 41)), some (.int (nI 1)), none]) (st' := [.int (σ1.1 0 24), .ref 23]) (σ' := σ1) rfl ?_
  refine am_top (v' := nI (lev + 1)) g24 ?_
  refine am_ialdN (n := 13) (v := nI v) rfl rfl rfl (by omega) gsi (by decide) ?_
  refine am_run 5 (pc' := 135) (ls' := [some (.ref 0), some (.int (nI 41)), some (.int (nI 1)), some (.int (nI v))]) (st' := [.int (σ1.1 0 24), .ref 20]) (σ' := σ1) rfl ?_
  refine am_top (v' := nI (lev + 1)) g24 ?_
  refine am_ialdN (n := 13) (v := nI 1) rfl rfl rfl (by omega) gso (by decide) ?_
  refine am_run 1 (pc' := 137) (ls' := [some (.ref 0), some (.int (nI 41)), some (.int (nI 1)), some (.int (nI v))]) (st' := [.int (nI 1), .int (nI 1)]) (σ' := σ1) rfl ?_
  refine am_ic (ty := 140) (tn := 158) rfl (by decide) rfl rfl (fun (h_7 : nI 1 = nI 1) => ?_) (fun (h_7 : ¬ (nI 1 = nI 1)) => ?_)
  rotate_left
  · exact absurd (by decide) h_7
  refine am_run 3 (pc' := 145) (ls' := [some (.ref 0), some (.int (nI 41)), some (.int (nI 1)), some (.int (nI v))]) (st' := [.int (σ1.1 0 24), .ref 0]) (σ' := σ1) rfl ?_
  refine am_top (v' := nI (lev + 1)) g24 ?_
  refine am_run 2 (pc' := 147) (ls' := [some (.ref 0), some (.int (nI 41)), some (.int (nI 1)), some (.int (nI v))]) (st' := [.int (nI (lev + 1) - nI 1), .ref 0]) (σ' := σ1) rfl ?_
  refine am_top (v' := nI lev) (nx_sub (by omega)) ?_
  refine am_run 3 (pc' := 152) (ls' := [some (.ref 0), some (.int (nI 41)), some (.int (nI 1)), some (.int (nI v))]) (st' := [.int (nI v), .ref 0]) (σ' := (am_wr σ1 0 24 (nI lev))) rfl ?_
  refine am_invv (y := 163) (b := 0) (as := [.int (nI v)]) (rest := []) rfl rfl rfl rfl rfl rfl rfl (Nat.le_of_ble_eq_true rfl) ?_
  refine am_C_to (hq _ (by omega)) (fun v σ2 hv => ?_)
  obtain ⟨rfl, hv⟩ := hv
  show am_G _ M_X10_readsBehind _ 155 [some (.ref 0), some (.int (nI 41)), some (.int (nI 1)), some (.int (nI v))] [] σ2
  refine am_run 2 (pc' := 164) (ls' := [some (.ref 0), some (.int (nI 41)), some (.int (nI 1)), some (.int (nI v))]) (st' := [.int (nI 0)]) (σ' := σ2) rfl ?_
  refine am_reti rfl rfl ?_
  exact hv
set_option maxRecDepth 10000 in
set_option maxHeartbeats 2000000 in
theorem bh_125 {d : Nat} (hd : 8 ≤ d) {σ : am_M} {v lev : Nat} (h24 : σ.1 0 24 = nI (lev + 1)) (hlev : lev < 12) (hso : σ.1 20 (lev + 1) = nI 2) {Q : am_Q} (hq : ERq (fun σ1 => σ1.1 0 24 = nI (lev + 1) ∧ σ1.1 20 (lev + 1) = nI 2 ∧ σ1.1 23 (lev + 1) = nI v ∧ ∀ d', 7 ≤ d' → am_C d' 171 [.ref 0, .int (nI v)] σ1 (fun w σ2 => w = none ∧ Q (some (.int (nI 0))) σ2)) σ) : am_C d 172 [.ref 0, .int (nI 125)] σ Q := by
  refine am_enter' (M := M_X10_readsBehind) rfl rfl rfl (by omega) (ls := [some (.ref 0), some (.int (nI 125)), none, none]) rfl (fun d' hd' => ?_)
  refine am_run 2 (pc' := 3) (ls' := [some (.ref 0), some (.int (nI 125)), none, none]) (st' := [.int (nI 59), .int (nI 125)]) (σ' := σ) rfl ?_
  refine am_ic (ty := 12) (tn := 6) rfl (by decide) rfl rfl (fun (h_1 : nI 125 = nI 59) => ?_) (fun (h_1 : ¬ (nI 125 = nI 59)) => ?_)
  · exact absurd h_1 (by decide)
  refine am_run 2 (pc' := 9) (ls' := [some (.ref 0), some (.int (nI 125)), none, none]) (st' := [.int (nI 124), .int (nI 125)]) (σ' := σ) rfl ?_
  refine am_ic (ty := 12) (tn := 70) rfl (by decide) rfl rfl (fun (h_2 : nI 125 = nI 124) => ?_) (fun (h_2 : ¬ (nI 125 = nI 124)) => ?_)
  · exact absurd h_2 (by decide)
  refine am_run 2 (pc' := 74) (ls' := [some (.ref 0), some (.int (nI 125)), none, none]) (st' := [.int (σ.1 0 24)]) (σ' := σ) rfl ?_
  refine am_top (v' := nI (lev + 1)) h24 ?_
  refine am_if (ty := 77) (tn := 105) rfl (by decide) rfl rfl (fun (h_3 : 0 < nI (lev + 1)) => ?_) (fun (h_3 : ¬ (0 < nI (lev + 1))) => ?_)
  rotate_left
  · have h_3 : ¬ (0 < lev + 1) := fun z => h_3 ((am_0ltn (by omega)).mpr z)
    omega
  have h_3 : 0 < lev + 1 := (am_0ltn (by omega)).mp h_3
  refine am_run 5 (pc' := 86) (ls' := [some (.ref 0), some (.int (nI 125)), none, none]) (st' := [.int (σ.1 0 24), .ref 20, .int (nI 125)]) (σ' := σ) rfl ?_
  refine am_top (v' := nI (lev + 1)) h24 ?_
  refine am_ialdN (n := 13) (v := nI 2) rfl rfl rfl (by omega) hso (by decide) ?_
  refine am_run 1 (pc' := 88) (ls' := [some (.ref 0), some (.int (nI 125)), none, none]) (st' := [.int (nI 1), .int (nI 2), .int (nI 125)]) (σ' := σ) rfl ?_
  refine am_ic (ty := 91) (tn := 96) rfl (by decide) rfl rfl (fun (h_4 : nI 2 = nI 1) => ?_) (fun (h_4 : ¬ (nI 2 = nI 1)) => ?_)
  · exact absurd h_4 (by decide)
  refine am_run 1 (pc' := 98) (ls' := [some (.ref 0), some (.int (nI 125)), none, none]) (st' := [.int (nI 125), .int (nI 125)]) (σ' := σ) rfl ?_
  refine am_ic (ty := 101) (tn := 105) rfl (by decide) rfl rfl (fun (h_5 : nI 125 = nI 125) => ?_) (fun (h_5 : ¬ (nI 125 = nI 125)) => ?_)
  rotate_left
  · exact absurd (by decide) h_5
  refine am_run 4 (pc' := 108) (ls' := [some (.ref 0), some (.int (nI 125)), some (.int (nI 1)), none]) (st' := [.int (nI 1)]) (σ' := σ) rfl ?_
  refine am_if (ty := 111) (tn := 113) rfl (by decide) rfl rfl (fun (h_6 : nI 1 = 0) => ?_) (fun (h_6 : ¬ (nI 1 = 0)) => ?_)
  · exact absurd h_6 (by decide)
  refine am_run 1 (pc' := 114) (ls' := [some (.ref 0), some (.int (nI 125)), some (.int (nI 1)), none]) (st' := [.ref 0]) (σ' := σ) rfl ?_
  refine am_invv (y := 164) (b := 0) (as := []) (rest := []) rfl rfl rfl rfl rfl rfl rfl (Nat.le_of_ble_eq_true rfl) ?_
  refine am_C_to (hq _ (by omega)) (fun w σ1 hw => ?_)
  obtain ⟨rfl, g24, gso, gsi, hq⟩ := hw
  show am_G _ M_X10_readsBehind _ 117 [some (.ref 0), some (.int (nI 125)), some (.int (nI 1)), none] [] σ1
  refine am_run 4 (pc' := 125) (ls' := [some (.ref 0), some (.int (nI 125)), some (.int (nI 1)), none]) (st' := [.int (σ1.1 0 24), .ref 23]) (σ' := σ1) rfl ?_
  refine am_top (v' := nI (lev + 1)) g24 ?_
  refine am_ialdN (n := 13) (v := nI v) rfl rfl rfl (by omega) gsi (by decide) ?_
  refine am_run 5 (pc' := 135) (ls' := [some (.ref 0), some (.int (nI 125)), some (.int (nI 1)), some (.int (nI v))]) (st' := [.int (σ1.1 0 24), .ref 20]) (σ' := σ1) rfl ?_
  refine am_top (v' := nI (lev + 1)) g24 ?_
  refine am_ialdN (n := 13) (v := nI 2) rfl rfl rfl (by omega) gso (by decide) ?_
  refine am_run 1 (pc' := 137) (ls' := [some (.ref 0), some (.int (nI 125)), some (.int (nI 1)), some (.int (nI v))]) (st' := [.int (nI 1), .int (nI 2)]) (σ' := σ1) rfl ?_
  refine am_ic (ty := 140) (tn := 158) rfl (by decide) rfl rfl (fun (h_7 : nI 2 = nI 1) => ?_) (fun (h_7 : ¬ (nI 2 = nI 1)) => ?_)
  · exact absurd h_7 (by decide)
  refine am_run 2 (pc' := 160) (ls' := [some (.ref 0), some (.int (nI 125)), some (.int (nI 1)), some (.int (nI v))]) (st' := [.int (nI v), .ref 0]) (σ' := σ1) rfl ?_
  refine am_invv (y := 171) (b := 0) (as := [.int (nI v)]) (rest := []) rfl rfl rfl rfl rfl rfl rfl (Nat.le_of_ble_eq_true rfl) ?_
  refine am_C_to (hq _ (by omega)) (fun v σ2 hv => ?_)
  obtain ⟨rfl, hv⟩ := hv
  show am_G _ M_X10_readsBehind _ 163 [some (.ref 0), some (.int (nI 125)), some (.int (nI 1)), some (.int (nI v))] [] σ2
  refine am_run 1 (pc' := 164) (ls' := [some (.ref 0), some (.int (nI 125)), some (.int (nI 1)), some (.int (nI v))]) (st' := [.int (nI 0)]) (σ' := σ2) rfl ?_
  refine am_reti rfl rfl ?_
  exact hv
/-- the text has ended -/
def EN (d : Nat) (Q : am_Q) (σ : am_M) : Prop := am_G d M_X10_reads Q 103 [some (.ref 0), some (.int (nI 0))] [] σ
/-- it is whole -/
def EW (d : Nat) (Q : am_Q) (σ : am_M) : Prop := am_G d M_X10_reads Q 112 [some (.ref 0), some (.int (nI 0))] [] σ
set_option maxRecDepth 10000 in
set_option maxHeartbeats 2000000 in
theorem en_0 {d : Nat} (hd : 2 ≤ d) {σ : am_M} (h22 : σ.1 0 22 = nI 0) {Q : am_Q} (hq : Q (some (.int (nI 1))) σ) : EN d Q σ := by
  unfold EN
  refine am_run 1 (pc' := 104) (ls' := [some (.ref 0), some (.int (nI 0))]) (st' := [.ref 0]) (σ' := σ) rfl ?_
  refine am_invv (y := 174) (b := 0) (as := []) (rest := []) rfl rfl rfl rfl rfl rfl rfl (Nat.le_of_ble_eq_true rfl) ?_
  refine am_enter' rfl rfl rfl (by omega) (ls := [some (.ref 0)]) rfl (fun d_1 hd_1 => ?_)
  refine am_run 2 (pc' := 4) (ls' := [some (.ref 0)]) (st' := [.int (σ.1 0 22)]) (σ' := σ) rfl ?_
  refine am_top (v' := nI 0) h22 ?_
  refine am_run 1 (pc' := 5) (ls' := [some (.ref 0)]) (st' := [.int (nI 5), .int (nI 0)]) (σ' := σ) rfl ?_
  refine am_ic (ty := 8) (tn := 24) rfl (by decide) rfl rfl (fun (h_2 : nI 0 = nI 5) => ?_) (fun (h_2 : ¬ (nI 0 = nI 5)) => ?_)
  · exact absurd h_2 (by decide)
  refine am_run 2 (pc' := 28) (ls' := [some (.ref 0)]) (st' := [.int (σ.1 0 22)]) (σ' := σ) rfl ?_
  refine am_top (v' := nI 0) h22 ?_
  refine am_run 1 (pc' := 29) (ls' := [some (.ref 0)]) (st' := [.int (nI 4), .int (nI 0)]) (σ' := σ) rfl ?_
  refine am_ic (ty := 32) (tn := 43) rfl (by decide) rfl rfl (fun (h_3 : nI 0 = nI 4) => ?_) (fun (h_3 : ¬ (nI 0 = nI 4)) => ?_)
  · exact absurd h_3 (by decide)
  refine am_run 1 (pc' := 44) (ls' := [some (.ref 0)]) (st' := [.int (nI 0)]) (σ' := σ) rfl ?_
  refine am_retz rfl rfl (by decide) ?_
  show am_G _ M_X10_reads _ 107 [some (.ref 0), some (.int (nI 0))] [.int (nI 0)] σ
  refine am_if (ty := 110) (tn := 112) rfl (by decide) rfl rfl (fun (h_4 : nI 0 = 0) => ?_) (fun (h_4 : ¬ (nI 0 = 0)) => ?_)
  rotate_left
  · exact absurd (by decide) h_4
  refine am_run 1 (pc' := 111) (ls' := [some (.ref 0), some (.int (nI 0))]) (st' := [.int (nI 1)]) (σ' := σ) rfl ?_
  refine am_reti rfl rfl ?_
  exact hq
set_option maxRecDepth 10000 in
set_option maxHeartbeats 2000000 in
theorem en_1 {d : Nat} (hd : 2 ≤ d) {σ : am_M} (h22 : σ.1 0 22 = nI 1) {Q : am_Q} (hq : Q (some (.int (nI 1))) σ) : EN d Q σ := by
  unfold EN
  refine am_run 1 (pc' := 104) (ls' := [some (.ref 0), some (.int (nI 0))]) (st' := [.ref 0]) (σ' := σ) rfl ?_
  refine am_invv (y := 174) (b := 0) (as := []) (rest := []) rfl rfl rfl rfl rfl rfl rfl (Nat.le_of_ble_eq_true rfl) ?_
  refine am_enter' rfl rfl rfl (by omega) (ls := [some (.ref 0)]) rfl (fun d_1 hd_1 => ?_)
  refine am_run 2 (pc' := 4) (ls' := [some (.ref 0)]) (st' := [.int (σ.1 0 22)]) (σ' := σ) rfl ?_
  refine am_top (v' := nI 1) h22 ?_
  refine am_run 1 (pc' := 5) (ls' := [some (.ref 0)]) (st' := [.int (nI 5), .int (nI 1)]) (σ' := σ) rfl ?_
  refine am_ic (ty := 8) (tn := 24) rfl (by decide) rfl rfl (fun (h_2 : nI 1 = nI 5) => ?_) (fun (h_2 : ¬ (nI 1 = nI 5)) => ?_)
  · exact absurd h_2 (by decide)
  refine am_run 2 (pc' := 28) (ls' := [some (.ref 0)]) (st' := [.int (σ.1 0 22)]) (σ' := σ) rfl ?_
  refine am_top (v' := nI 1) h22 ?_
  refine am_run 1 (pc' := 29) (ls' := [some (.ref 0)]) (st' := [.int (nI 4), .int (nI 1)]) (σ' := σ) rfl ?_
  refine am_ic (ty := 32) (tn := 43) rfl (by decide) rfl rfl (fun (h_3 : nI 1 = nI 4) => ?_) (fun (h_3 : ¬ (nI 1 = nI 4)) => ?_)
  · exact absurd h_3 (by decide)
  refine am_run 1 (pc' := 44) (ls' := [some (.ref 0)]) (st' := [.int (nI 0)]) (σ' := σ) rfl ?_
  refine am_retz rfl rfl (by decide) ?_
  show am_G _ M_X10_reads _ 107 [some (.ref 0), some (.int (nI 0))] [.int (nI 0)] σ
  refine am_if (ty := 110) (tn := 112) rfl (by decide) rfl rfl (fun (h_4 : nI 0 = 0) => ?_) (fun (h_4 : ¬ (nI 0 = 0)) => ?_)
  rotate_left
  · exact absurd (by decide) h_4
  refine am_run 1 (pc' := 111) (ls' := [some (.ref 0), some (.int (nI 0))]) (st' := [.int (nI 1)]) (σ' := σ) rfl ?_
  refine am_reti rfl rfl ?_
  exact hq
set_option maxRecDepth 10000 in
set_option maxHeartbeats 2000000 in
theorem en_2 {d : Nat} (hd : 2 ≤ d) {σ : am_M} (h22 : σ.1 0 22 = nI 2) {Q : am_Q} (hq : Q (some (.int (nI 1))) σ) : EN d Q σ := by
  unfold EN
  refine am_run 1 (pc' := 104) (ls' := [some (.ref 0), some (.int (nI 0))]) (st' := [.ref 0]) (σ' := σ) rfl ?_
  refine am_invv (y := 174) (b := 0) (as := []) (rest := []) rfl rfl rfl rfl rfl rfl rfl (Nat.le_of_ble_eq_true rfl) ?_
  refine am_enter' rfl rfl rfl (by omega) (ls := [some (.ref 0)]) rfl (fun d_1 hd_1 => ?_)
  refine am_run 2 (pc' := 4) (ls' := [some (.ref 0)]) (st' := [.int (σ.1 0 22)]) (σ' := σ) rfl ?_
  refine am_top (v' := nI 2) h22 ?_
  refine am_run 1 (pc' := 5) (ls' := [some (.ref 0)]) (st' := [.int (nI 5), .int (nI 2)]) (σ' := σ) rfl ?_
  refine am_ic (ty := 8) (tn := 24) rfl (by decide) rfl rfl (fun (h_2 : nI 2 = nI 5) => ?_) (fun (h_2 : ¬ (nI 2 = nI 5)) => ?_)
  · exact absurd h_2 (by decide)
  refine am_run 2 (pc' := 28) (ls' := [some (.ref 0)]) (st' := [.int (σ.1 0 22)]) (σ' := σ) rfl ?_
  refine am_top (v' := nI 2) h22 ?_
  refine am_run 1 (pc' := 29) (ls' := [some (.ref 0)]) (st' := [.int (nI 4), .int (nI 2)]) (σ' := σ) rfl ?_
  refine am_ic (ty := 32) (tn := 43) rfl (by decide) rfl rfl (fun (h_3 : nI 2 = nI 4) => ?_) (fun (h_3 : ¬ (nI 2 = nI 4)) => ?_)
  · exact absurd h_3 (by decide)
  refine am_run 1 (pc' := 44) (ls' := [some (.ref 0)]) (st' := [.int (nI 0)]) (σ' := σ) rfl ?_
  refine am_retz rfl rfl (by decide) ?_
  show am_G _ M_X10_reads _ 107 [some (.ref 0), some (.int (nI 0))] [.int (nI 0)] σ
  refine am_if (ty := 110) (tn := 112) rfl (by decide) rfl rfl (fun (h_4 : nI 0 = 0) => ?_) (fun (h_4 : ¬ (nI 0 = 0)) => ?_)
  rotate_left
  · exact absurd (by decide) h_4
  refine am_run 1 (pc' := 111) (ls' := [some (.ref 0), some (.int (nI 0))]) (st' := [.int (nI 1)]) (σ' := σ) rfl ?_
  refine am_reti rfl rfl ?_
  exact hq
set_option maxRecDepth 10000 in
set_option maxHeartbeats 2000000 in
theorem en_3 {d : Nat} (hd : 2 ≤ d) {σ : am_M} (h22 : σ.1 0 22 = nI 3) {Q : am_Q} (hq : Q (some (.int (nI 1))) σ) : EN d Q σ := by
  unfold EN
  refine am_run 1 (pc' := 104) (ls' := [some (.ref 0), some (.int (nI 0))]) (st' := [.ref 0]) (σ' := σ) rfl ?_
  refine am_invv (y := 174) (b := 0) (as := []) (rest := []) rfl rfl rfl rfl rfl rfl rfl (Nat.le_of_ble_eq_true rfl) ?_
  refine am_enter' rfl rfl rfl (by omega) (ls := [some (.ref 0)]) rfl (fun d_1 hd_1 => ?_)
  refine am_run 2 (pc' := 4) (ls' := [some (.ref 0)]) (st' := [.int (σ.1 0 22)]) (σ' := σ) rfl ?_
  refine am_top (v' := nI 3) h22 ?_
  refine am_run 1 (pc' := 5) (ls' := [some (.ref 0)]) (st' := [.int (nI 5), .int (nI 3)]) (σ' := σ) rfl ?_
  refine am_ic (ty := 8) (tn := 24) rfl (by decide) rfl rfl (fun (h_2 : nI 3 = nI 5) => ?_) (fun (h_2 : ¬ (nI 3 = nI 5)) => ?_)
  · exact absurd h_2 (by decide)
  refine am_run 2 (pc' := 28) (ls' := [some (.ref 0)]) (st' := [.int (σ.1 0 22)]) (σ' := σ) rfl ?_
  refine am_top (v' := nI 3) h22 ?_
  refine am_run 1 (pc' := 29) (ls' := [some (.ref 0)]) (st' := [.int (nI 4), .int (nI 3)]) (σ' := σ) rfl ?_
  refine am_ic (ty := 32) (tn := 43) rfl (by decide) rfl rfl (fun (h_3 : nI 3 = nI 4) => ?_) (fun (h_3 : ¬ (nI 3 = nI 4)) => ?_)
  · exact absurd h_3 (by decide)
  refine am_run 1 (pc' := 44) (ls' := [some (.ref 0)]) (st' := [.int (nI 0)]) (σ' := σ) rfl ?_
  refine am_retz rfl rfl (by decide) ?_
  show am_G _ M_X10_reads _ 107 [some (.ref 0), some (.int (nI 0))] [.int (nI 0)] σ
  refine am_if (ty := 110) (tn := 112) rfl (by decide) rfl rfl (fun (h_4 : nI 0 = 0) => ?_) (fun (h_4 : ¬ (nI 0 = 0)) => ?_)
  rotate_left
  · exact absurd (by decide) h_4
  refine am_run 1 (pc' := 111) (ls' := [some (.ref 0), some (.int (nI 0))]) (st' := [.int (nI 1)]) (σ' := σ) rfl ?_
  refine am_reti rfl rfl ?_
  exact hq
set_option maxRecDepth 10000 in
set_option maxHeartbeats 2000000 in
theorem en_40 {d : Nat} (hd : 2 ≤ d) {σ : am_M} (h22 : σ.1 0 22 = nI 4) (h24 : σ.1 0 24 = nI 0) {Q : am_Q} (hq : EW d Q σ) : EN d Q σ := by
  unfold EN
  refine am_run 1 (pc' := 104) (ls' := [some (.ref 0), some (.int (nI 0))]) (st' := [.ref 0]) (σ' := σ) rfl ?_
  refine am_invv (y := 174) (b := 0) (as := []) (rest := []) rfl rfl rfl rfl rfl rfl rfl (Nat.le_of_ble_eq_true rfl) ?_
  refine am_enter' rfl rfl rfl (by omega) (ls := [some (.ref 0)]) rfl (fun d_1 hd_1 => ?_)
  refine am_run 2 (pc' := 4) (ls' := [some (.ref 0)]) (st' := [.int (σ.1 0 22)]) (σ' := σ) rfl ?_
  refine am_top (v' := nI 4) h22 ?_
  refine am_run 1 (pc' := 5) (ls' := [some (.ref 0)]) (st' := [.int (nI 5), .int (nI 4)]) (σ' := σ) rfl ?_
  refine am_ic (ty := 8) (tn := 24) rfl (by decide) rfl rfl (fun (h_2 : nI 4 = nI 5) => ?_) (fun (h_2 : ¬ (nI 4 = nI 5)) => ?_)
  · exact absurd h_2 (by decide)
  refine am_run 2 (pc' := 28) (ls' := [some (.ref 0)]) (st' := [.int (σ.1 0 22)]) (σ' := σ) rfl ?_
  refine am_top (v' := nI 4) h22 ?_
  refine am_run 1 (pc' := 29) (ls' := [some (.ref 0)]) (st' := [.int (nI 4), .int (nI 4)]) (σ' := σ) rfl ?_
  refine am_ic (ty := 32) (tn := 43) rfl (by decide) rfl rfl (fun (h_3 : nI 4 = nI 4) => ?_) (fun (h_3 : ¬ (nI 4 = nI 4)) => ?_)
  rotate_left
  · exact absurd (by decide) h_3
  refine am_run 2 (pc' := 36) (ls' := [some (.ref 0)]) (st' := [.int (σ.1 0 24)]) (σ' := σ) rfl ?_
  refine am_top (v' := nI 0) h24 ?_
  refine am_if (ty := 39) (tn := 43) rfl (by decide) rfl rfl (fun (h_4 : nI 0 = 0) => ?_) (fun (h_4 : ¬ (nI 0 = 0)) => ?_)
  rotate_left
  · exact absurd (by decide) h_4
  refine am_run 2 (pc' := 44) (ls' := [some (.ref 0)]) (st' := [.int (nI 1)]) (σ' := σ) rfl ?_
  refine am_retz rfl rfl (by decide) ?_
  show am_G _ M_X10_reads _ 107 [some (.ref 0), some (.int (nI 0))] [.int (nI 1)] σ
  refine am_if (ty := 110) (tn := 112) rfl (by decide) rfl rfl (fun (h_5 : nI 1 = 0) => ?_) (fun (h_5 : ¬ (nI 1 = 0)) => ?_)
  · exact absurd h_5 (by decide)
  exact hq
set_option maxRecDepth 10000 in
set_option maxHeartbeats 2000000 in
theorem en_4 {d : Nat} (hd : 2 ≤ d) {σ : am_M} {lev : Nat} (h22 : σ.1 0 22 = nI 4) (h24 : σ.1 0 24 = nI (lev + 1)) (hlev : lev < 12) {Q : am_Q} (hq : Q (some (.int (nI 1))) σ) : EN d Q σ := by
  unfold EN
  refine am_run 1 (pc' := 104) (ls' := [some (.ref 0), some (.int (nI 0))]) (st' := [.ref 0]) (σ' := σ) rfl ?_
  refine am_invv (y := 174) (b := 0) (as := []) (rest := []) rfl rfl rfl rfl rfl rfl rfl (Nat.le_of_ble_eq_true rfl) ?_
  refine am_enter' rfl rfl rfl (by omega) (ls := [some (.ref 0)]) rfl (fun d_1 hd_1 => ?_)
  refine am_run 2 (pc' := 4) (ls' := [some (.ref 0)]) (st' := [.int (σ.1 0 22)]) (σ' := σ) rfl ?_
  refine am_top (v' := nI 4) h22 ?_
  refine am_run 1 (pc' := 5) (ls' := [some (.ref 0)]) (st' := [.int (nI 5), .int (nI 4)]) (σ' := σ) rfl ?_
  refine am_ic (ty := 8) (tn := 24) rfl (by decide) rfl rfl (fun (h_2 : nI 4 = nI 5) => ?_) (fun (h_2 : ¬ (nI 4 = nI 5)) => ?_)
  · exact absurd h_2 (by decide)
  refine am_run 2 (pc' := 28) (ls' := [some (.ref 0)]) (st' := [.int (σ.1 0 22)]) (σ' := σ) rfl ?_
  refine am_top (v' := nI 4) h22 ?_
  refine am_run 1 (pc' := 29) (ls' := [some (.ref 0)]) (st' := [.int (nI 4), .int (nI 4)]) (σ' := σ) rfl ?_
  refine am_ic (ty := 32) (tn := 43) rfl (by decide) rfl rfl (fun (h_3 : nI 4 = nI 4) => ?_) (fun (h_3 : ¬ (nI 4 = nI 4)) => ?_)
  rotate_left
  · exact absurd (by decide) h_3
  refine am_run 2 (pc' := 36) (ls' := [some (.ref 0)]) (st' := [.int (σ.1 0 24)]) (σ' := σ) rfl ?_
  refine am_top (v' := nI (lev + 1)) h24 ?_
  refine am_if (ty := 39) (tn := 43) rfl (by decide) rfl rfl (fun (h_4 : nI (lev + 1) = 0) => ?_) (fun (h_4 : ¬ (nI (lev + 1) = 0)) => ?_)
  · have h_4 : lev + 1 = 0 := (am_n0 (by omega)).mp h_4
    omega
  have h_4 : ¬ (lev + 1 = 0) := fun z => h_4 ((am_n0 (by omega)).mpr z)
  refine am_run 1 (pc' := 44) (ls' := [some (.ref 0)]) (st' := [.int (nI 0)]) (σ' := σ) rfl ?_
  refine am_retz rfl rfl (by decide) ?_
  show am_G _ M_X10_reads _ 107 [some (.ref 0), some (.int (nI 0))] [.int (nI 0)] σ
  refine am_if (ty := 110) (tn := 112) rfl (by decide) rfl rfl (fun (h_5 : nI 0 = 0) => ?_) (fun (h_5 : ¬ (nI 0 = 0)) => ?_)
  rotate_left
  · exact absurd (by decide) h_5
  refine am_run 1 (pc' := 111) (ls' := [some (.ref 0), some (.int (nI 0))]) (st' := [.int (nI 1)]) (σ' := σ) rfl ?_
  refine am_reti rfl rfl ?_
  exact hq
set_option maxRecDepth 10000 in
set_option maxHeartbeats 2000000 in
theorem en_50 {d : Nat} (hd : 8 ≤ d) {σ : am_M} {r e : Nat} (h22 : σ.1 0 22 = nI 5) (h23 : σ.1 0 23 = nI r) (h35 : σ.1 0 35 = nI e) (he : e < 60) {Q : am_Q} (h : EPq (fun σ1 => σ1.1 0 22 = nI 4 ∧ σ1.1 0 24 = nI 0 ∧ EW d Q σ1) (am_wr (am_wr σ 9 (120 + e) (nI r)) 0 35 (nI (e + 1))) r) : EN d Q σ := by
  unfold EN
  refine am_run 1 (pc' := 104) (ls' := [some (.ref 0), some (.int (nI 0))]) (st' := [.ref 0]) (σ' := σ) rfl ?_
  refine am_invv (y := 174) (b := 0) (as := []) (rest := []) rfl rfl rfl rfl rfl rfl rfl (Nat.le_of_ble_eq_true rfl) ?_
  refine am_enter' rfl rfl rfl (by omega) (ls := [some (.ref 0)]) rfl (fun d_1 hd_1 => ?_)
  refine am_run 2 (pc' := 4) (ls' := [some (.ref 0)]) (st' := [.int (σ.1 0 22)]) (σ' := σ) rfl ?_
  refine am_top (v' := nI 5) h22 ?_
  refine am_run 1 (pc' := 5) (ls' := [some (.ref 0)]) (st' := [.int (nI 5), .int (nI 5)]) (σ' := σ) rfl ?_
  refine am_ic (ty := 8) (tn := 24) rfl (by decide) rfl rfl (fun (h_2 : nI 5 = nI 5) => ?_) (fun (h_2 : ¬ (nI 5 = nI 5)) => ?_)
  rotate_left
  · exact absurd (by decide) h_2
  refine am_run 3 (pc' := 13) (ls' := [some (.ref 0)]) (st' := [.int (σ.1 0 23), .ref 0]) (σ' := σ) rfl ?_
  refine am_top (v' := nI r) h23 ?_
  refine am_invv (y := 161) (b := 0) (as := [.int (nI r)]) (rest := []) rfl rfl rfl rfl rfl rfl rfl (Nat.le_of_ble_eq_true rfl) ?_
  refine c_m_ends (e := e) (by omega) (h35) he ?_
  show am_G _ M_X10_isWhole _ 16 [some (.ref 0)] [] (am_wr (am_wr σ 9 (120 + e) (nI r)) 0 35 (nI (e + 1)))
  refine am_run 3 (pc' := 21) (ls' := [some (.ref 0)]) (st' := [.int (σ.1 0 23), .ref 0]) (σ' := (am_wr (am_wr σ 9 (120 + e) (nI r)) 0 35 (nI (e + 1)))) rfl ?_
  refine am_top (v' := nI r) h23 ?_
  refine am_invv (y := 163) (b := 0) (as := [.int (nI r)]) (rest := []) rfl rfl rfl rfl rfl rfl rfl (Nat.le_of_ble_eq_true rfl) ?_
  refine am_C_to (h _ (by omega)) (fun v σ1 hv => ?_)
  obtain ⟨rfl, h22', h24', hv⟩ := hv
  show am_G _ M_X10_isWhole _ 24 [some (.ref 0)] [] σ1
  refine am_run 2 (pc' := 28) (ls' := [some (.ref 0)]) (st' := [.int (σ1.1 0 22)]) (σ' := σ1) rfl ?_
  refine am_top (v' := nI 4) h22' ?_
  refine am_run 1 (pc' := 29) (ls' := [some (.ref 0)]) (st' := [.int (nI 4), .int (nI 4)]) (σ' := σ1) rfl ?_
  refine am_ic (ty := 32) (tn := 43) rfl (by decide) rfl rfl (fun (h_3 : nI 4 = nI 4) => ?_) (fun (h_3 : ¬ (nI 4 = nI 4)) => ?_)
  rotate_left
  · exact absurd (by decide) h_3
  refine am_run 2 (pc' := 36) (ls' := [some (.ref 0)]) (st' := [.int (σ1.1 0 24)]) (σ' := σ1) rfl ?_
  refine am_top (v' := nI 0) h24' ?_
  refine am_if (ty := 39) (tn := 43) rfl (by decide) rfl rfl (fun (h_4 : nI 0 = 0) => ?_) (fun (h_4 : ¬ (nI 0 = 0)) => ?_)
  rotate_left
  · exact absurd (by decide) h_4
  refine am_run 2 (pc' := 44) (ls' := [some (.ref 0)]) (st' := [.int (nI 1)]) (σ' := σ1) rfl ?_
  refine am_retz rfl rfl (by decide) ?_
  show am_G _ M_X10_reads _ 107 [some (.ref 0), some (.int (nI 0))] [.int (nI 1)] σ1
  refine am_if (ty := 110) (tn := 112) rfl (by decide) rfl rfl (fun (h_5 : nI 1 = 0) => ?_) (fun (h_5 : ¬ (nI 1 = 0)) => ?_)
  · exact absurd h_5 (by decide)
  exact hv
set_option maxRecDepth 10000 in
set_option maxHeartbeats 2000000 in
theorem en_5 {d : Nat} (hd : 8 ≤ d) {σ : am_M} {r e lev : Nat} (h22 : σ.1 0 22 = nI 5) (h23 : σ.1 0 23 = nI r) (h35 : σ.1 0 35 = nI e) (he : e < 60) (hlev : lev < 12) {Q : am_Q} (h : EPq (fun σ1 => σ1.1 0 22 = nI 4 ∧ σ1.1 0 24 = nI (lev + 1) ∧ Q (some (.int (nI 1))) σ1) (am_wr (am_wr σ 9 (120 + e) (nI r)) 0 35 (nI (e + 1))) r) : EN d Q σ := by
  unfold EN
  refine am_run 1 (pc' := 104) (ls' := [some (.ref 0), some (.int (nI 0))]) (st' := [.ref 0]) (σ' := σ) rfl ?_
  refine am_invv (y := 174) (b := 0) (as := []) (rest := []) rfl rfl rfl rfl rfl rfl rfl (Nat.le_of_ble_eq_true rfl) ?_
  refine am_enter' rfl rfl rfl (by omega) (ls := [some (.ref 0)]) rfl (fun d_1 hd_1 => ?_)
  refine am_run 2 (pc' := 4) (ls' := [some (.ref 0)]) (st' := [.int (σ.1 0 22)]) (σ' := σ) rfl ?_
  refine am_top (v' := nI 5) h22 ?_
  refine am_run 1 (pc' := 5) (ls' := [some (.ref 0)]) (st' := [.int (nI 5), .int (nI 5)]) (σ' := σ) rfl ?_
  refine am_ic (ty := 8) (tn := 24) rfl (by decide) rfl rfl (fun (h_2 : nI 5 = nI 5) => ?_) (fun (h_2 : ¬ (nI 5 = nI 5)) => ?_)
  rotate_left
  · exact absurd (by decide) h_2
  refine am_run 3 (pc' := 13) (ls' := [some (.ref 0)]) (st' := [.int (σ.1 0 23), .ref 0]) (σ' := σ) rfl ?_
  refine am_top (v' := nI r) h23 ?_
  refine am_invv (y := 161) (b := 0) (as := [.int (nI r)]) (rest := []) rfl rfl rfl rfl rfl rfl rfl (Nat.le_of_ble_eq_true rfl) ?_
  refine c_m_ends (e := e) (by omega) (h35) he ?_
  show am_G _ M_X10_isWhole _ 16 [some (.ref 0)] [] (am_wr (am_wr σ 9 (120 + e) (nI r)) 0 35 (nI (e + 1)))
  refine am_run 3 (pc' := 21) (ls' := [some (.ref 0)]) (st' := [.int (σ.1 0 23), .ref 0]) (σ' := (am_wr (am_wr σ 9 (120 + e) (nI r)) 0 35 (nI (e + 1)))) rfl ?_
  refine am_top (v' := nI r) h23 ?_
  refine am_invv (y := 163) (b := 0) (as := [.int (nI r)]) (rest := []) rfl rfl rfl rfl rfl rfl rfl (Nat.le_of_ble_eq_true rfl) ?_
  refine am_C_to (h _ (by omega)) (fun v σ1 hv => ?_)
  obtain ⟨rfl, h22', h24', hv⟩ := hv
  show am_G _ M_X10_isWhole _ 24 [some (.ref 0)] [] σ1
  refine am_run 2 (pc' := 28) (ls' := [some (.ref 0)]) (st' := [.int (σ1.1 0 22)]) (σ' := σ1) rfl ?_
  refine am_top (v' := nI 4) h22' ?_
  refine am_run 1 (pc' := 29) (ls' := [some (.ref 0)]) (st' := [.int (nI 4), .int (nI 4)]) (σ' := σ1) rfl ?_
  refine am_ic (ty := 32) (tn := 43) rfl (by decide) rfl rfl (fun (h_3 : nI 4 = nI 4) => ?_) (fun (h_3 : ¬ (nI 4 = nI 4)) => ?_)
  rotate_left
  · exact absurd (by decide) h_3
  refine am_run 2 (pc' := 36) (ls' := [some (.ref 0)]) (st' := [.int (σ1.1 0 24)]) (σ' := σ1) rfl ?_
  refine am_top (v' := nI (lev + 1)) h24' ?_
  refine am_if (ty := 39) (tn := 43) rfl (by decide) rfl rfl (fun (h_4 : nI (lev + 1) = 0) => ?_) (fun (h_4 : ¬ (nI (lev + 1) = 0)) => ?_)
  · have h_4 : lev + 1 = 0 := (am_n0 (by omega)).mp h_4
    omega
  have h_4 : ¬ (lev + 1 = 0) := fun z => h_4 ((am_n0 (by omega)).mpr z)
  refine am_run 1 (pc' := 44) (ls' := [some (.ref 0)]) (st' := [.int (nI 0)]) (σ' := σ1) rfl ?_
  refine am_retz rfl rfl (by decide) ?_
  show am_G _ M_X10_reads _ 107 [some (.ref 0), some (.int (nI 0))] [.int (nI 0)] σ1
  refine am_if (ty := 110) (tn := 112) rfl (by decide) rfl rfl (fun (h_5 : nI 0 = 0) => ?_) (fun (h_5 : ¬ (nI 0 = 0)) => ?_)
  rotate_left
  · exact absurd (by decide) h_5
  refine am_run 1 (pc' := 111) (ls' := [some (.ref 0), some (.int (nI 0))]) (st' := [.int (nI 1)]) (σ' := σ1) rfl ?_
  refine am_reti rfl rfl ?_
  exact hv
set_option maxRecDepth 10000 in
set_option maxHeartbeats 2000000 in
theorem ew_c {d : Nat} (hd : 6 ≤ d) {σ : am_M} {r : Nat} {Q : am_Q} (hq : ERq (fun σ1 => σ1.1 23 0 = nI r ∧ Q (some (.int (nI 0))) (am_wr σ1 4 2 (nI r))) σ) : EW d Q σ := by
  unfold EW
  refine am_run 1 (pc' := 113) (ls' := [some (.ref 0), some (.int (nI 0))]) (st' := [.ref 0]) (σ' := σ) rfl ?_
  refine am_invv (y := 164) (b := 0) (as := []) (rest := []) rfl rfl rfl rfl rfl rfl rfl (Nat.le_of_ble_eq_true rfl) ?_
  refine am_C_to (hq _ (by omega)) (fun v σ1 hv => ?_)
  obtain ⟨rfl, hs, hv⟩ := hv
  show am_G _ M_X10_reads _ 116 [some (.ref 0), some (.int (nI 0))] [] σ1
  refine am_run 6 (pc' := 126) (ls' := [some (.ref 0), some (.int (nI 0))]) (st' := [.int (nI 0), .ref 23, .int (nI 2), .ref 4]) (σ' := σ1) rfl ?_
  refine am_ialdN (n := 13) (v := nI r) rfl rfl rfl (by omega) hs (by decide) ?_
  refine am_iastN (n := 3) rfl rfl rfl (by omega) (by decide) ?_
  refine am_run 1 (pc' := 129) (ls' := [some (.ref 0), some (.int (nI 0))]) (st' := [.int (nI 0)]) (σ' := (am_wr σ1 4 2 (nI r))) rfl ?_
  refine am_reti rfl rfl ?_
  exact hv

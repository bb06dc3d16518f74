/-! a token is read: the automaton's steps -/
/-- a call of endsPart that comes to R -/
def EPq (R : am_M → Prop) (σ : am_M) (r : Nat) : Prop := ∀ d, 4 ≤ d → am_C d 163 [.ref 0, .int (nI r)] σ (fun v σ' => v = none ∧ R σ')
set_option maxRecDepth 10000 in
set_option maxHeartbeats 2000000 in
theorem tok_0 {d : Nat} (hd : 10 ≤ d) {σ : am_M} {c : Nat} (h22 : σ.1 0 22 = nI 0) {Q : am_Q} (h : ∀ d', 9 ≤ d' → am_C d' 167 [.ref 0, .int (nI c)] σ (fun v σ' => ∃ x, v = some (.int x) ∧ Q v σ')) : am_C d 173 [.ref 0, .int (nI c)] σ Q := by
  refine am_enter' (M := M_X10_readsToken) rfl rfl rfl (by omega) (ls := [some (.ref 0), some (.int (nI c))]) rfl (fun d' hd' => ?_)
  refine am_run 2 (pc' := 4) (ls' := [some (.ref 0), some (.int (nI c))]) (st' := [.int (σ.1 0 22)]) (σ' := σ) rfl ?_
  refine am_top (v' := nI 0) h22 ?_
  refine am_run 1 (pc' := 5) (ls' := [some (.ref 0), some (.int (nI c))]) (st' := [.int (nI 5), .int (nI 0)]) (σ' := σ) rfl ?_
  refine am_ic (ty := 8) (tn := 30) rfl (by decide) rfl rfl (fun (h_1 : nI 0 = nI 5) => ?_) (fun (h_1 : ¬ (nI 0 = nI 5)) => ?_)
  · exact absurd h_1 (by decide)
  refine am_run 2 (pc' := 34) (ls' := [some (.ref 0), some (.int (nI c))]) (st' := [.int (σ.1 0 22)]) (σ' := σ) rfl ?_
  refine am_top (v' := nI 0) h22 ?_
  refine am_tsw rfl rfl (L := [(0, 38), (1, 44), (2, 50), (3, 57), (4, 70), (5, 63)]) rfl ?_
  refine am_sw1 (k := nI 0) (tgt := 72) rfl (by decide) (by decide) rfl (fun _ => ?_) (fun h_z => absurd rfl h_z)
  refine am_run 2 (pc' := 74) (ls' := [some (.ref 0), some (.int (nI c))]) (st' := [.int (nI c), .ref 0]) (σ' := σ) rfl ?_
  refine am_invv (y := 167) (b := 0) (as := [.int (nI c)]) (rest := []) rfl rfl rfl rfl rfl rfl rfl (Nat.le_of_ble_eq_true rfl) ?_
  refine am_C_to (h _ (by omega)) (fun v σ' hv => ?_)
  obtain ⟨x, rfl, hv⟩ := hv
  show am_G _ M_X10_readsToken _ 77 [some (.ref 0), some (.int (nI c))] [.int x] σ'
  exact am_reti rfl rfl hv
set_option maxRecDepth 10000 in
set_option maxHeartbeats 2000000 in
theorem tok_1 {d : Nat} (hd : 10 ≤ d) {σ : am_M} {c : Nat} (h22 : σ.1 0 22 = nI 1) {Q : am_Q} (h : ∀ d', 9 ≤ d' → am_C d' 168 [.ref 0, .int (nI c)] σ (fun v σ' => ∃ x, v = some (.int x) ∧ Q v σ')) : am_C d 173 [.ref 0, .int (nI c)] σ Q := by
  refine am_enter' (M := M_X10_readsToken) rfl rfl rfl (by omega) (ls := [some (.ref 0), some (.int (nI c))]) rfl (fun d' hd' => ?_)
  refine am_run 2 (pc' := 4) (ls' := [some (.ref 0), some (.int (nI c))]) (st' := [.int (σ.1 0 22)]) (σ' := σ) rfl ?_
  refine am_top (v' := nI 1) h22 ?_
  refine am_run 1 (pc' := 5) (ls' := [some (.ref 0), some (.int (nI c))]) (st' := [.int (nI 5), .int (nI 1)]) (σ' := σ) rfl ?_
  refine am_ic (ty := 8) (tn := 30) rfl (by decide) rfl rfl (fun (h_1 : nI 1 = nI 5) => ?_) (fun (h_1 : ¬ (nI 1 = nI 5)) => ?_)
  · exact absurd h_1 (by decide)
  refine am_run 2 (pc' := 34) (ls' := [some (.ref 0), some (.int (nI c))]) (st' := [.int (σ.1 0 22)]) (σ' := σ) rfl ?_
  refine am_top (v' := nI 1) h22 ?_
  refine am_tsw rfl rfl (L := [(0, 38), (1, 44), (2, 50), (3, 57), (4, 70), (5, 63)]) rfl ?_
  refine am_sw1 (k := nI 0) (tgt := 72) rfl (by decide) (by decide) rfl (fun h_z => absurd h_z (by decide)) (fun _ => ?_)
  refine am_sw1 (k := nI 1) (tgt := 78) rfl (by decide) (by decide) rfl (fun _ => ?_) (fun h_z => absurd rfl h_z)
  refine am_run 2 (pc' := 80) (ls' := [some (.ref 0), some (.int (nI c))]) (st' := [.int (nI c), .ref 0]) (σ' := σ) rfl ?_
  refine am_invv (y := 168) (b := 0) (as := [.int (nI c)]) (rest := []) rfl rfl rfl rfl rfl rfl rfl (Nat.le_of_ble_eq_true rfl) ?_
  refine am_C_to (h _ (by omega)) (fun v σ' hv => ?_)
  obtain ⟨x, rfl, hv⟩ := hv
  show am_G _ M_X10_readsToken _ 83 [some (.ref 0), some (.int (nI c))] [.int x] σ'
  exact am_reti rfl rfl hv
set_option maxRecDepth 10000 in
set_option maxHeartbeats 2000000 in
theorem tok_3 {d : Nat} (hd : 10 ≤ d) {σ : am_M} {c : Nat} (h22 : σ.1 0 22 = nI 3) {Q : am_Q} (h : ∀ d', 9 ≤ d' → am_C d' 169 [.ref 0, .int (nI c)] σ (fun v σ' => ∃ x, v = some (.int x) ∧ Q v σ')) : am_C d 173 [.ref 0, .int (nI c)] σ Q := by
  refine am_enter' (M := M_X10_readsToken) rfl rfl rfl (by omega) (ls := [some (.ref 0), some (.int (nI c))]) rfl (fun d' hd' => ?_)
  refine am_run 2 (pc' := 4) (ls' := [some (.ref 0), some (.int (nI c))]) (st' := [.int (σ.1 0 22)]) (σ' := σ) rfl ?_
  refine am_top (v' := nI 3) h22 ?_
  refine am_run 1 (pc' := 5) (ls' := [some (.ref 0), some (.int (nI c))]) (st' := [.int (nI 5), .int (nI 3)]) (σ' := σ) rfl ?_
  refine am_ic (ty := 8) (tn := 30) rfl (by decide) rfl rfl (fun (h_1 : nI 3 = nI 5) => ?_) (fun (h_1 : ¬ (nI 3 = nI 5)) => ?_)
  · exact absurd h_1 (by decide)
  refine am_run 2 (pc' := 34) (ls' := [some (.ref 0), some (.int (nI c))]) (st' := [.int (σ.1 0 22)]) (σ' := σ) rfl ?_
  refine am_top (v' := nI 3) h22 ?_
  refine am_tsw rfl rfl (L := [(0, 38), (1, 44), (2, 50), (3, 57), (4, 70), (5, 63)]) rfl ?_
  refine am_sw1 (k := nI 0) (tgt := 72) rfl (by decide) (by decide) rfl (fun h_z => absurd h_z (by decide)) (fun _ => ?_)
  refine am_sw1 (k := nI 1) (tgt := 78) rfl (by decide) (by decide) rfl (fun h_z => absurd h_z (by decide)) (fun _ => ?_)
  refine am_sw1 (k := nI 2) (tgt := 84) rfl (by decide) (by decide) rfl (fun h_z => absurd h_z (by decide)) (fun _ => ?_)
  refine am_sw1 (k := nI 3) (tgt := 91) rfl (by decide) (by decide) rfl (fun _ => ?_) (fun h_z => absurd rfl h_z)
  refine am_run 2 (pc' := 93) (ls' := [some (.ref 0), some (.int (nI c))]) (st' := [.int (nI c), .ref 0]) (σ' := σ) rfl ?_
  refine am_invv (y := 169) (b := 0) (as := [.int (nI c)]) (rest := []) rfl rfl rfl rfl rfl rfl rfl (Nat.le_of_ble_eq_true rfl) ?_
  refine am_C_to (h _ (by omega)) (fun v σ' hv => ?_)
  obtain ⟨x, rfl, hv⟩ := hv
  show am_G _ M_X10_readsToken _ 96 [some (.ref 0), some (.int (nI c))] [.int x] σ'
  exact am_reti rfl rfl hv
set_option maxRecDepth 10000 in
set_option maxHeartbeats 2000000 in
theorem tok_2 {d : Nat} (hd : 10 ≤ d) {σ : am_M} {c : Nat} (h22 : σ.1 0 22 = nI 2) {Q : am_Q} (h : ∀ d', 9 ≤ d' → am_C d' 170 [.ref 0, .int (nI c), .int (nI 0)] σ (fun v σ' => ∃ x, v = some (.int x) ∧ Q v σ')) : am_C d 173 [.ref 0, .int (nI c)] σ Q := by
  refine am_enter' (M := M_X10_readsToken) rfl rfl rfl (by omega) (ls := [some (.ref 0), some (.int (nI c))]) rfl (fun d' hd' => ?_)
  refine am_run 2 (pc' := 4) (ls' := [some (.ref 0), some (.int (nI c))]) (st' := [.int (σ.1 0 22)]) (σ' := σ) rfl ?_
  refine am_top (v' := nI 2) h22 ?_
  refine am_run 1 (pc' := 5) (ls' := [some (.ref 0), some (.int (nI c))]) (st' := [.int (nI 5), .int (nI 2)]) (σ' := σ) rfl ?_
  refine am_ic (ty := 8) (tn := 30) rfl (by decide) rfl rfl (fun (h_1 : nI 2 = nI 5) => ?_) (fun (h_1 : ¬ (nI 2 = nI 5)) => ?_)
  · exact absurd h_1 (by decide)
  refine am_run 2 (pc' := 34) (ls' := [some (.ref 0), some (.int (nI c))]) (st' := [.int (σ.1 0 22)]) (σ' := σ) rfl ?_
  refine am_top (v' := nI 2) h22 ?_
  refine am_tsw rfl rfl (L := [(0, 38), (1, 44), (2, 50), (3, 57), (4, 70), (5, 63)]) rfl ?_
  refine am_sw1 (k := nI 0) (tgt := 72) rfl (by decide) (by decide) rfl (fun h_z => absurd h_z (by decide)) (fun _ => ?_)
  refine am_sw1 (k := nI 1) (tgt := 78) rfl (by decide) (by decide) rfl (fun h_z => absurd h_z (by decide)) (fun _ => ?_)
  refine am_sw1 (k := nI 2) (tgt := 84) rfl (by decide) (by decide) rfl (fun _ => ?_) (fun h_z => absurd rfl h_z)
  refine am_run 3 (pc' := 87) (ls' := [some (.ref 0), some (.int (nI c))]) (st' := [.int (nI 0), .int (nI c), .ref 0]) (σ' := σ) rfl ?_
  refine am_invv (y := 170) (b := 0) (as := [.int (nI c), .int (nI 0)]) (rest := []) rfl rfl rfl rfl rfl rfl rfl (Nat.le_of_ble_eq_true rfl) ?_
  refine am_C_to (h _ (by omega)) (fun v σ' hv => ?_)
  obtain ⟨x, rfl, hv⟩ := hv
  show am_G _ M_X10_readsToken _ 90 [some (.ref 0), some (.int (nI c))] [.int x] σ'
  exact am_reti rfl rfl hv
set_option maxRecDepth 10000 in
set_option maxHeartbeats 2000000 in
theorem tok_4 {d : Nat} (hd : 10 ≤ d) {σ : am_M} {c : Nat} (h22 : σ.1 0 22 = nI 4) {Q : am_Q} (h : ∀ d', 9 ≤ d' → am_C d' 172 [.ref 0, .int (nI c)] σ (fun v σ' => ∃ x, v = some (.int x) ∧ Q v σ')) : am_C d 173 [.ref 0, .int (nI c)] σ Q := by
  refine am_enter' (M := M_X10_readsToken) rfl rfl rfl (by omega) (ls := [some (.ref 0), some (.int (nI c))]) rfl (fun d' hd' => ?_)
  refine am_run 2 (pc' := 4) (ls' := [some (.ref 0), some (.int (nI c))]) (st' := [.int (σ.1 0 22)]) (σ' := σ) rfl ?_
  refine am_top (v' := nI 4) h22 ?_
  refine am_run 1 (pc' := 5) (ls' := [some (.ref 0), some (.int (nI c))]) (st' := [.int (nI 5), .int (nI 4)]) (σ' := σ) rfl ?_
  refine am_ic (ty := 8) (tn := 30) rfl (by decide) rfl rfl (fun (h_1 : nI 4 = nI 5) => ?_) (fun (h_1 : ¬ (nI 4 = nI 5)) => ?_)
  · exact absurd h_1 (by decide)
  refine am_run 2 (pc' := 34) (ls' := [some (.ref 0), some (.int (nI c))]) (st' := [.int (σ.1 0 22)]) (σ' := σ) rfl ?_
  refine am_top (v' := nI 4) h22 ?_
  refine am_tsw rfl rfl (L := [(0, 38), (1, 44), (2, 50), (3, 57), (4, 70), (5, 63)]) rfl ?_
  refine am_sw1 (k := nI 0) (tgt := 72) rfl (by decide) (by decide) rfl (fun h_z => absurd h_z (by decide)) (fun _ => ?_)
  refine am_sw1 (k := nI 1) (tgt := 78) rfl (by decide) (by decide) rfl (fun h_z => absurd h_z (by decide)) (fun _ => ?_)
  refine am_sw1 (k := nI 2) (tgt := 84) rfl (by decide) (by decide) rfl (fun h_z => absurd h_z (by decide)) (fun _ => ?_)
  refine am_sw1 (k := nI 3) (tgt := 91) rfl (by decide) (by decide) rfl (fun h_z => absurd h_z (by decide)) (fun _ => ?_)
  refine am_sw1 (k := nI 4) (tgt := 104) rfl (by decide) (by decide) rfl (fun _ => ?_) (fun h_z => absurd rfl h_z)
  refine am_run 2 (pc' := 106) (ls' := [some (.ref 0), some (.int (nI c))]) (st' := [.int (nI c), .ref 0]) (σ' := σ) rfl ?_
  refine am_invv (y := 172) (b := 0) (as := [.int (nI c)]) (rest := []) rfl rfl rfl rfl rfl rfl rfl (Nat.le_of_ble_eq_true rfl) ?_
  refine am_C_to (h _ (by omega)) (fun v σ' hv => ?_)
  obtain ⟨x, rfl, hv⟩ := hv
  show am_G _ M_X10_readsToken _ 109 [some (.ref 0), some (.int (nI c))] [.int x] σ'
  exact am_reti rfl rfl hv
set_option maxRecDepth 10000 in
set_option maxHeartbeats 2000000 in
theorem tok_5 {d : Nat} (hd : 10 ≤ d) {σ : am_M} (h22 : σ.1 0 22 = nI 5) {Q : am_Q} (h : ∀ d', 9 ≤ d' → am_C d' 170 [.ref 0, .int (nI 123), .int (nI 1)] σ (fun v σ' => ∃ x, v = some (.int x) ∧ Q v σ')) : am_C d 173 [.ref 0, .int (nI 123)] σ Q := by
  refine am_enter' (M := M_X10_readsToken) rfl rfl rfl (by omega) (ls := [some (.ref 0), some (.int (nI 123))]) rfl (fun d' hd' => ?_)
  refine am_run 2 (pc' := 4) (ls' := [some (.ref 0), some (.int (nI 123))]) (st' := [.int (σ.1 0 22)]) (σ' := σ) rfl ?_
  refine am_top (v' := nI 5) h22 ?_
  refine am_run 1 (pc' := 5) (ls' := [some (.ref 0), some (.int (nI 123))]) (st' := [.int (nI 5), .int (nI 5)]) (σ' := σ) rfl ?_
  refine am_ic (ty := 8) (tn := 30) rfl (by decide) rfl rfl (fun (h_1 : nI 5 = nI 5) => ?_) (fun (h_1 : ¬ (nI 5 = nI 5)) => ?_)
  rotate_left
  · exact absurd (by decide) h_1
  refine am_run 2 (pc' := 11) (ls' := [some (.ref 0), some (.int (nI 123))]) (st' := [.int (nI 123), .int (nI 123)]) (σ' := σ) rfl ?_
  refine am_ic (ty := 30) (tn := 14) rfl (by decide) rfl rfl (fun (h_2 : nI 123 = nI 123) => ?_) (fun (h_2 : ¬ (nI 123 = nI 123)) => ?_)
  rotate_left
  · exact absurd (by decide) h_2
  refine am_run 2 (pc' := 34) (ls' := [some (.ref 0), some (.int (nI 123))]) (st' := [.int (σ.1 0 22)]) (σ' := σ) rfl ?_
  refine am_top (v' := nI 5) h22 ?_
  refine am_tsw rfl rfl (L := [(0, 38), (1, 44), (2, 50), (3, 57), (4, 70), (5, 63)]) rfl ?_
  refine am_sw1 (k := nI 0) (tgt := 72) rfl (by decide) (by decide) rfl (fun h_z => absurd h_z (by decide)) (fun _ => ?_)
  refine am_sw1 (k := nI 1) (tgt := 78) rfl (by decide) (by decide) rfl (fun h_z => absurd h_z (by decide)) (fun _ => ?_)
  refine am_sw1 (k := nI 2) (tgt := 84) rfl (by decide) (by decide) rfl (fun h_z => absurd h_z (by decide)) (fun _ => ?_)
  refine am_sw1 (k := nI 3) (tgt := 91) rfl (by decide) (by decide) rfl (fun h_z => absurd h_z (by decide)) (fun _ => ?_)
  refine am_sw1 (k := nI 4) (tgt := 104) rfl (by decide) (by decide) rfl (fun h_z => absurd h_z (by decide)) (fun _ => ?_)
  refine am_sw1 (k := nI 5) (tgt := 97) rfl (by decide) (by decide) rfl (fun _ => ?_) (fun h_z => absurd rfl h_z)
  refine am_run 3 (pc' := 100) (ls' := [some (.ref 0), some (.int (nI 123))]) (st' := [.int (nI 1), .int (nI 123), .ref 0]) (σ' := σ) rfl ?_
  refine am_invv (y := 170) (b := 0) (as := [.int (nI 123), .int (nI 1)]) (rest := []) rfl rfl rfl rfl rfl rfl rfl (Nat.le_of_ble_eq_true rfl) ?_
  refine am_C_to (h _ (by omega)) (fun v σ' hv => ?_)
  obtain ⟨x, rfl, hv⟩ := hv
  show am_G _ M_X10_readsToken _ 103 [some (.ref 0), some (.int (nI 123))] [.int x] σ'
  exact am_reti rfl rfl hv
set_option maxRecDepth 10000 in
set_option maxHeartbeats 2000000 in
theorem tok_5n {d : Nat} (hd : 10 ≤ d) {σ : am_M} {c r e : Nat} (hc : c < 256) (h123 : ¬ c = 123) (h22 : σ.1 0 22 = nI 5) (h23 : σ.1 0 23 = nI r) (h35 : σ.1 0 35 = nI e) (he : e < 60) {Q : am_Q} (h : EPq (fun σ1 => σ1.1 0 22 = nI 4 ∧ ∀ d', 9 ≤ d' → am_C d' 172 [.ref 0, .int (nI c)] σ1 (fun v σ' => ∃ x, v = some (.int x) ∧ Q v σ')) (am_wr (am_wr σ 9 (120 + e) (nI r)) 0 35 (nI (e + 1))) r) : am_C d 173 [.ref 0, .int (nI c)] σ Q := by
  refine am_enter' (M := M_X10_readsToken) rfl rfl rfl (by omega) (ls := [some (.ref 0), some (.int (nI c))]) rfl (fun d' hd' => ?_)
  refine am_run 2 (pc' := 4) (ls' := [some (.ref 0), some (.int (nI c))]) (st' := [.int (σ.1 0 22)]) (σ' := σ) rfl ?_
  refine am_top (v' := nI 5) h22 ?_
  refine am_run 1 (pc' := 5) (ls' := [some (.ref 0), some (.int (nI c))]) (st' := [.int (nI 5), .int (nI 5)]) (σ' := σ) rfl ?_
  refine am_ic (ty := 8) (tn := 30) rfl (by decide) rfl rfl (fun (h_1 : nI 5 = nI 5) => ?_) (fun (h_1 : ¬ (nI 5 = nI 5)) => ?_)
  rotate_left
  · exact absurd (by decide) h_1
  refine am_run 2 (pc' := 11) (ls' := [some (.ref 0), some (.int (nI c))]) (st' := [.int (nI 123), .int (nI c)]) (σ' := σ) rfl ?_
  refine am_ic (ty := 30) (tn := 14) rfl (by decide) rfl rfl (fun (h_2 : nI c = nI 123) => ?_) (fun (h_2 : ¬ (nI c = nI 123)) => ?_)
  · have h_2 : c = 123 := (nI_eq (by omega) (by omega)).mp h_2
    omega
  have h_2 : ¬ (c = 123) := fun z => h_2 ((nI_eq (by omega) (by omega)).mpr z)
  refine am_run 3 (pc' := 19) (ls' := [some (.ref 0), some (.int (nI c))]) (st' := [.int (σ.1 0 23), .ref 0]) (σ' := σ) rfl ?_
  refine am_top (v' := nI r) h23 ?_
  refine am_invv (y := 161) (b := 0) (as := [.int (nI r)]) (rest := []) rfl rfl rfl rfl rfl rfl rfl (Nat.le_of_ble_eq_true rfl) ?_
  refine c_m_ends (e := e) (by omega) (h35) he ?_
  show am_G _ M_X10_readsToken _ 22 [some (.ref 0), some (.int (nI c))] [] (am_wr (am_wr σ 9 (120 + e) (nI r)) 0 35 (nI (e + 1)))
  refine am_run 3 (pc' := 27) (ls' := [some (.ref 0), some (.int (nI c))]) (st' := [.int (σ.1 0 23), .ref 0]) (σ' := (am_wr (am_wr σ 9 (120 + e) (nI r)) 0 35 (nI (e + 1)))) rfl ?_
  refine am_top (v' := nI r) h23 ?_
  refine am_invv (y := 163) (b := 0) (as := [.int (nI r)]) (rest := []) rfl rfl rfl rfl rfl rfl rfl (Nat.le_of_ble_eq_true rfl) ?_
  refine am_C_to (h _ (by omega)) (fun v σ1 hv => ?_)
  obtain ⟨rfl, h22', hv⟩ := hv
  show am_G _ M_X10_readsToken _ 30 [some (.ref 0), some (.int (nI c))] [] σ1
  refine am_run 2 (pc' := 34) (ls' := [some (.ref 0), some (.int (nI c))]) (st' := [.int (σ1.1 0 22)]) (σ' := σ1) rfl ?_
  refine am_top (v' := nI 4) h22' ?_
  refine am_tsw rfl rfl (L := [(0, 38), (1, 44), (2, 50), (3, 57), (4, 70), (5, 63)]) rfl ?_
  refine am_sw1 (k := nI 0) (tgt := 72) rfl (by decide) (by decide) rfl (fun h_z => absurd h_z (by decide)) (fun _ => ?_)
  refine am_sw1 (k := nI 1) (tgt := 78) rfl (by decide) (by decide) rfl (fun h_z => absurd h_z (by decide)) (fun _ => ?_)
  refine am_sw1 (k := nI 2) (tgt := 84) rfl (by decide) (by decide) rfl (fun h_z => absurd h_z (by decide)) (fun _ => ?_)
  refine am_sw1 (k := nI 3) (tgt := 91) rfl (by decide) (by decide) rfl (fun h_z => absurd h_z (by decide)) (fun _ => ?_)
  refine am_sw1 (k := nI 4) (tgt := 104) rfl (by decide) (by decide) rfl (fun _ => ?_) (fun h_z => absurd rfl h_z)
  refine am_run 2 (pc' := 106) (ls' := [some (.ref 0), some (.int (nI c))]) (st' := [.int (nI c), .ref 0]) (σ' := σ1) rfl ?_
  refine am_invv (y := 172) (b := 0) (as := [.int (nI c)]) (rest := []) rfl rfl rfl rfl rfl rfl rfl (Nat.le_of_ble_eq_true rfl) ?_
  refine am_C_to (hv _ (by omega)) (fun v σ' hv => ?_)
  obtain ⟨x, rfl, hv⟩ := hv
  show am_G _ M_X10_readsToken _ 109 [some (.ref 0), some (.int (nI c))] [.int x] σ'
  exact am_reti rfl rfl hv
set_option maxRecDepth 10000 in
set_option maxHeartbeats 2000000 in
theorem rp_bad {d : Nat} (hd : 2 ≤ d) {σ : am_M} {c : Nat} (hc : c < 256) (h40 : ¬ c = 40) (hF : isF c = false) (hB : isB c = false) {Q : am_Q} (hq : Q (some (.int (nI 1))) σ) : am_C d 167 [.ref 0, .int (nI c)] σ Q := by
  simp only [isF, isB, Bool.or_eq_false_iff, beq_eq_false_iff_ne, ne_eq] at hF hB
  refine am_enter' (M := M_X10_readsPart) rfl rfl rfl (by omega) (ls := [some (.ref 0), some (.int (nI c))]) rfl (fun d' hd' => ?_)
  refine am_run 2 (pc' := 3) (ls' := [some (.ref 0), some (.int (nI c))]) (st' := [.int (nI 40), .int (nI c)]) (σ' := σ) rfl ?_
  refine am_ic (ty := 22) (tn := 6) rfl (by decide) rfl rfl (fun (h_1 : nI c = nI 40) => ?_) (fun (h_1 : ¬ (nI c = nI 40)) => ?_)
  · have h_1 : c = 40 := (nI_eq (by omega) (by omega)).mp h_1
    omega
  have h_1 : ¬ (c = 40) := fun z => h_1 ((nI_eq (by omega) (by omega)).mpr z)
  refine am_run 1 (pc' := 7) (ls' := [some (.ref 0), some (.int (nI c))]) (st' := [.int (nI c)]) (σ' := σ) rfl ?_
  refine am_invs (y := 155) (as := [.int (nI c)]) (rest := []) rfl rfl rfl rfl rfl rfl (Nat.le_of_ble_eq_true rfl) ?_
  refine am_enter' rfl rfl rfl (by omega) (ls := [some (.int (nI c))]) rfl (fun d_2 hd_2 => ?_)
  refine am_run 2 (pc' := 3) (ls' := [some (.int (nI c))]) (st' := [.int (nI 48), .int (nI c)]) (σ' := σ) rfl ?_
  refine am_ic (ty := 30) (tn := 6) rfl (by decide) rfl rfl (fun (h_3 : nI c = nI 48) => ?_) (fun (h_3 : ¬ (nI c = nI 48)) => ?_)
  · have h_3 : c = 48 := (nI_eq (by omega) (by omega)).mp h_3
    omega
  have h_3 : ¬ (c = 48) := fun z => h_3 ((nI_eq (by omega) (by omega)).mpr z)
  refine am_run 2 (pc' := 9) (ls' := [some (.int (nI c))]) (st' := [.int (nI 46), .int (nI c)]) (σ' := σ) rfl ?_
  refine am_ic (ty := 30) (tn := 12) rfl (by decide) rfl rfl (fun (h_4 : nI c = nI 46) => ?_) (fun (h_4 : ¬ (nI c = nI 46)) => ?_)
  · have h_4 : c = 46 := (nI_eq (by omega) (by omega)).mp h_4
    omega
  have h_4 : ¬ (c = 46) := fun z => h_4 ((nI_eq (by omega) (by omega)).mpr z)
  refine am_run 2 (pc' := 15) (ls' := [some (.int (nI c))]) (st' := [.int (nI 33), .int (nI c)]) (σ' := σ) rfl ?_
  refine am_ic (ty := 30) (tn := 18) rfl (by decide) rfl rfl (fun (h_5 : nI c = nI 33) => ?_) (fun (h_5 : ¬ (nI c = nI 33)) => ?_)
  · have h_5 : c = 33 := (nI_eq (by omega) (by omega)).mp h_5
    omega
  have h_5 : ¬ (c = 33) := fun z => h_5 ((nI_eq (by omega) (by omega)).mpr z)
  refine am_run 2 (pc' := 21) (ls' := [some (.int (nI c))]) (st' := [.int (nI 38), .int (nI c)]) (σ' := σ) rfl ?_
  refine am_ic (ty := 30) (tn := 24) rfl (by decide) rfl rfl (fun (h_6 : nI c = nI 38) => ?_) (fun (h_6 : ¬ (nI c = nI 38)) => ?_)
  · have h_6 : c = 38 := (nI_eq (by omega) (by omega)).mp h_6
    omega
  have h_6 : ¬ (c = 38) := fun z => h_6 ((nI_eq (by omega) (by omega)).mpr z)
  refine am_run 2 (pc' := 27) (ls' := [some (.int (nI c))]) (st' := [.int (nI 120), .int (nI c)]) (σ' := σ) rfl ?_
  refine am_ic (ty := 30) (tn := 34) rfl (by decide) rfl rfl (fun (h_7 : nI c = nI 120) => ?_) (fun (h_7 : ¬ (nI c = nI 120)) => ?_)
  · have h_7 : c = 120 := (nI_eq (by omega) (by omega)).mp h_7
    omega
  have h_7 : ¬ (c = 120) := fun z => h_7 ((nI_eq (by omega) (by omega)).mpr z)
  refine am_run 1 (pc' := 35) (ls' := [some (.int (nI c))]) (st' := [.int (nI 0)]) (σ' := σ) rfl ?_
  refine am_retz rfl rfl (by decide) ?_
  show am_G _ M_X10_readsPart _ 10 [some (.ref 0), some (.int (nI c))] [.int (nI 0)] σ
  refine am_if (ty := 13) (tn := 22) rfl (by decide) rfl rfl (fun (h_8 : nI 0 = 0) => ?_) (fun (h_8 : ¬ (nI 0 = 0)) => ?_)
  rotate_left
  · exact absurd (by decide) h_8
  refine am_run 1 (pc' := 14) (ls' := [some (.ref 0), some (.int (nI c))]) (st' := [.int (nI c)]) (σ' := σ) rfl ?_
  refine am_invs (y := 156) (as := [.int (nI c)]) (rest := []) rfl rfl rfl rfl rfl rfl (Nat.le_of_ble_eq_true rfl) ?_
  refine am_enter' rfl rfl rfl (by omega) (ls := [some (.int (nI c))]) rfl (fun d_9 hd_9 => ?_)
  refine am_run 2 (pc' := 3) (ls' := [some (.int (nI c))]) (st' := [.int (nI 63), .int (nI c)]) (σ' := σ) rfl ?_
  refine am_ic (ty := 36) (tn := 6) rfl (by decide) rfl rfl (fun (h_10 : nI c = nI 63) => ?_) (fun (h_10 : ¬ (nI c = nI 63)) => ?_)
  · have h_10 : c = 63 := (nI_eq (by omega) (by omega)).mp h_10
    omega
  have h_10 : ¬ (c = 63) := fun z => h_10 ((nI_eq (by omega) (by omega)).mpr z)
  refine am_run 2 (pc' := 9) (ls' := [some (.int (nI c))]) (st' := [.int (nI 42), .int (nI c)]) (σ' := σ) rfl ?_
  refine am_ic (ty := 36) (tn := 12) rfl (by decide) rfl rfl (fun (h_11 : nI c = nI 42) => ?_) (fun (h_11 : ¬ (nI c = nI 42)) => ?_)
  · have h_11 : c = 42 := (nI_eq (by omega) (by omega)).mp h_11
    omega
  have h_11 : ¬ (c = 42) := fun z => h_11 ((nI_eq (by omega) (by omega)).mpr z)
  refine am_run 2 (pc' := 15) (ls' := [some (.int (nI c))]) (st' := [.int (nI 94), .int (nI c)]) (σ' := σ) rfl ?_
  refine am_ic (ty := 36) (tn := 18) rfl (by decide) rfl rfl (fun (h_12 : nI c = nI 94) => ?_) (fun (h_12 : ¬ (nI c = nI 94)) => ?_)
  · have h_12 : c = 94 := (nI_eq (by omega) (by omega)).mp h_12
    omega
  have h_12 : ¬ (c = 94) := fun z => h_12 ((nI_eq (by omega) (by omega)).mpr z)
  refine am_run 2 (pc' := 21) (ls' := [some (.int (nI c))]) (st' := [.int (nI 64), .int (nI c)]) (σ' := σ) rfl ?_
  refine am_ic (ty := 36) (tn := 24) rfl (by decide) rfl rfl (fun (h_13 : nI c = nI 64) => ?_) (fun (h_13 : ¬ (nI c = nI 64)) => ?_)
  · have h_13 : c = 64 := (nI_eq (by omega) (by omega)).mp h_13
    omega
  have h_13 : ¬ (c = 64) := fun z => h_13 ((nI_eq (by omega) (by omega)).mpr z)
  refine am_run 2 (pc' := 27) (ls' := [some (.int (nI c))]) (st' := [.int (nI 126), .int (nI c)]) (σ' := σ) rfl ?_
  refine am_ic (ty := 36) (tn := 30) rfl (by decide) rfl rfl (fun (h_14 : nI c = nI 126) => ?_) (fun (h_14 : ¬ (nI c = nI 126)) => ?_)
  · have h_14 : c = 126 := (nI_eq (by omega) (by omega)).mp h_14
    omega
  have h_14 : ¬ (c = 126) := fun z => h_14 ((nI_eq (by omega) (by omega)).mpr z)
  refine am_run 2 (pc' := 33) (ls' := [some (.int (nI c))]) (st' := [.int (nI 36), .int (nI c)]) (σ' := σ) rfl ?_
  refine am_ic (ty := 36) (tn := 40) rfl (by decide) rfl rfl (fun (h_15 : nI c = nI 36) => ?_) (fun (h_15 : ¬ (nI c = nI 36)) => ?_)
  · have h_15 : c = 36 := (nI_eq (by omega) (by omega)).mp h_15
    omega
  have h_15 : ¬ (c = 36) := fun z => h_15 ((nI_eq (by omega) (by omega)).mpr z)
  refine am_run 1 (pc' := 41) (ls' := [some (.int (nI c))]) (st' := [.int (nI 0)]) (σ' := σ) rfl ?_
  refine am_retz rfl rfl (by decide) ?_
  show am_G _ M_X10_readsPart _ 17 [some (.ref 0), some (.int (nI c))] [.int (nI 0)] σ
  refine am_if (ty := 20) (tn := 22) rfl (by decide) rfl rfl (fun (h_16 : nI 0 = 0) => ?_) (fun (h_16 : ¬ (nI 0 = 0)) => ?_)
  rotate_left
  · exact absurd (by decide) h_16
  refine am_run 1 (pc' := 21) (ls' := [some (.ref 0), some (.int (nI c))]) (st' := [.int (nI 1)]) (σ' := σ) rfl ?_
  refine am_reti rfl rfl ?_
  exact hq
set_option maxRecDepth 10000 in
set_option maxHeartbeats 2000000 in
theorem rp_open12 {d : Nat} (hd : 2 ≤ d) {σ : am_M} (h24 : σ.1 0 24 = nI 12) {Q : am_Q} (hq : Q (some (.int (nI 4))) σ) : am_C d 167 [.ref 0, .int (nI 40)] σ Q := by
  refine am_enter' (M := M_X10_readsPart) rfl rfl rfl (by omega) (ls := [some (.ref 0), some (.int (nI 40))]) rfl (fun d' hd' => ?_)
  refine am_run 2 (pc' := 3) (ls' := [some (.ref 0), some (.int (nI 40))]) (st' := [.int (nI 40), .int (nI 40)]) (σ' := σ) rfl ?_
  refine am_ic (ty := 22) (tn := 6) rfl (by decide) rfl rfl (fun (h_1 : nI 40 = nI 40) => ?_) (fun (h_1 : ¬ (nI 40 = nI 40)) => ?_)
  rotate_left
  · exact absurd (by decide) h_1
  refine am_run 2 (pc' := 25) (ls' := [some (.ref 0), some (.int (nI 40))]) (st' := [.int (nI 40), .int (nI 40)]) (σ' := σ) rfl ?_
  refine am_ic (ty := 28) (tn := 48) rfl (by decide) rfl rfl (fun (h_2 : nI 40 = nI 40) => ?_) (fun (h_2 : ¬ (nI 40 = nI 40)) => ?_)
  rotate_left
  · exact absurd (by decide) h_2
  refine am_run 2 (pc' := 32) (ls' := [some (.ref 0), some (.int (nI 40))]) (st' := [.int (σ.1 0 24)]) (σ' := σ) rfl ?_
  refine am_top (v' := nI 12) h24 ?_
  refine am_run 1 (pc' := 34) (ls' := [some (.ref 0), some (.int (nI 40))]) (st' := [.int (nI 12), .int (nI 12)]) (σ' := σ) rfl ?_
  refine am_ic (ty := 37) (tn := 39) rfl (by decide) rfl rfl (fun (h_3 : nI 12 = nI 12) => ?_) (fun (h_3 : ¬ (nI 12 = nI 12)) => ?_)
  rotate_left
  · exact absurd (by decide) h_3
  refine am_run 1 (pc' := 38) (ls' := [some (.ref 0), some (.int (nI 40))]) (st' := [.int (nI 4)]) (σ' := σ) rfl ?_
  refine am_reti rfl rfl ?_
  exact hq
set_option maxRecDepth 10000 in
set_option maxHeartbeats 2000000 in
theorem rp_open {d : Nat} (hd : 4 ≤ d) {σ : am_M} {lev : Nat} (h24 : σ.1 0 24 = nI lev) (hlev : lev < 12) {Q : am_Q} (hq : Q (some (.int (nI 0))) (am_wr (am_wr (am_wr (am_wr (am_wr (am_wr (am_wr (am_wr (am_wr σ 0 24 (nI (lev + 1))) 24 (lev + 1) (-1)) 26 (lev + 1) (-1)) 23 (lev + 1) (-1)) 25 (lev + 1) (-1)) 20 (lev + 1) (nI 1)) 21 (lev + 1) (-1)) 22 (lev + 1) (nI 0)) 0 22 (nI 0))) : am_C d 167 [.ref 0, .int (nI 40)] σ Q := by
  refine am_enter' (M := M_X10_readsPart) rfl rfl rfl (by omega) (ls := [some (.ref 0), some (.int (nI 40))]) rfl (fun d' hd' => ?_)
  refine am_run 2 (pc' := 3) (ls' := [some (.ref 0), some (.int (nI 40))]) (st' := [.int (nI 40), .int (nI 40)]) (σ' := σ) rfl ?_
  refine am_ic (ty := 22) (tn := 6) rfl (by decide) rfl rfl (fun (h_1 : nI 40 = nI 40) => ?_) (fun (h_1 : ¬ (nI 40 = nI 40)) => ?_)
  rotate_left
  · exact absurd (by decide) h_1
  refine am_run 2 (pc' := 25) (ls' := [some (.ref 0), some (.int (nI 40))]) (st' := [.int (nI 40), .int (nI 40)]) (σ' := σ) rfl ?_
  refine am_ic (ty := 28) (tn := 48) rfl (by decide) rfl rfl (fun (h_2 : nI 40 = nI 40) => ?_) (fun (h_2 : ¬ (nI 40 = nI 40)) => ?_)
  rotate_left
  · exact absurd (by decide) h_2
  refine am_run 2 (pc' := 32) (ls' := [some (.ref 0), some (.int (nI 40))]) (st' := [.int (σ.1 0 24)]) (σ' := σ) rfl ?_
  refine am_top (v' := nI lev) h24 ?_
  refine am_run 1 (pc' := 34) (ls' := [some (.ref 0), some (.int (nI 40))]) (st' := [.int (nI 12), .int (nI lev)]) (σ' := σ) rfl ?_
  refine am_ic (ty := 37) (tn := 39) rfl (by decide) rfl rfl (fun (h_3 : nI lev = nI 12) => ?_) (fun (h_3 : ¬ (nI lev = nI 12)) => ?_)
  · have h_3 : lev = 12 := (nI_eq (by omega) (by omega)).mp h_3
    omega
  have h_3 : ¬ (lev = 12) := fun z => h_3 ((nI_eq (by omega) (by omega)).mpr z)
  refine am_run 4 (pc' := 43) (ls' := [some (.ref 0), some (.int (nI 40))]) (st' := [.int (nI 0), .int (-1), .int (nI 1), .ref 0]) (σ' := σ) rfl ?_
  refine am_invv (y := 165) (b := 0) (as := [.int (nI 1), .int (-1), .int (nI 0)]) (rest := []) rfl rfl rfl rfl rfl rfl rfl (Nat.le_of_ble_eq_true rfl) ?_
  refine c_m_opens (lev := lev) (by omega) (h24) hlev ?_
  show am_G _ M_X10_readsPart _ 46 [some (.ref 0), some (.int (nI 40))] [] (am_wr (am_wr (am_wr (am_wr (am_wr (am_wr (am_wr (am_wr (am_wr σ 0 24 (nI (lev + 1))) 24 (lev + 1) (-1)) 26 (lev + 1) (-1)) 23 (lev + 1) (-1)) 25 (lev + 1) (-1)) 20 (lev + 1) (nI 1)) 21 (lev + 1) (-1)) 22 (lev + 1) (nI 0)) 0 22 (nI 0))
  refine am_run 1 (pc' := 47) (ls' := [some (.ref 0), some (.int (nI 40))]) (st' := [.int (nI 0)]) (σ' := (am_wr (am_wr (am_wr (am_wr (am_wr (am_wr (am_wr (am_wr (am_wr σ 0 24 (nI (lev + 1))) 24 (lev + 1) (-1)) 26 (lev + 1) (-1)) 23 (lev + 1) (-1)) 25 (lev + 1) (-1)) 20 (lev + 1) (nI 1)) 21 (lev + 1) (-1)) 22 (lev + 1) (nI 0)) 0 22 (nI 0))) rfl ?_
  refine am_reti rfl rfl ?_
  exact hq
set_option maxRecDepth 10000 in
set_option maxHeartbeats 2000000 in
theorem rp_48 {d : Nat} (hd : 6 ≤ d) {σ : am_M} {L pos n kk e lev tr nw : Nat} {tx O : Nat → Nat} (h : RB σ L tx pos n kk e lev tr nw O) {Q : am_Q} (h3 : 60 ≤ n → Q (some (.int (nI 3))) σ) (hq : ¬ (60 ≤ n) → ∀ σ', RB σ' L tx pos (n + 1) (kk) e lev tr nw O → RF σ σ' n e lev nw → NW σ' n 48 nw kk O → σ'.1 0 = σ.1 0 → (∀ c', 20 ≤ c' → c' ≤ 27 → σ'.1 c' = σ.1 c') → EPq (Q (some (.int (nI 0)))) (am_wr (am_wr (am_wr σ' 0 23 (nI n)) 9 (120 + e) (nI n)) 0 35 (nI (e + 1))) n) : am_C d 167 [.ref 0, .int (nI 48)] σ Q := by
  obtain ⟨⟨t1, t2, t3⟩, a1, a2, a3, a4, a5, a6, a7, a8, a9, a10, a11, a12, a13, a14⟩ := id h
  refine am_enter' (M := M_X10_readsPart) rfl rfl rfl (by omega) (ls := [some (.ref 0), some (.int (nI 48))]) rfl (fun d' hd' => ?_)
  refine am_run 2 (pc' := 3) (ls' := [some (.ref 0), some (.int (nI 48))]) (st' := [.int (nI 40), .int (nI 48)]) (σ' := σ) rfl ?_
  refine am_ic (ty := 22) (tn := 6) rfl (by decide) rfl rfl (fun (h_1 : nI 48 = nI 40) => ?_) (fun (h_1 : ¬ (nI 48 = nI 40)) => ?_)
  · exact absurd h_1 (by decide)
  refine am_run 1 (pc' := 7) (ls' := [some (.ref 0), some (.int (nI 48))]) (st' := [.int (nI 48)]) (σ' := σ) rfl ?_
  refine am_invs (y := 155) (as := [.int (nI 48)]) (rest := []) rfl rfl rfl rfl rfl rfl (Nat.le_of_ble_eq_true rfl) ?_
  refine am_enter' rfl rfl rfl (by omega) (ls := [some (.int (nI 48))]) rfl (fun d_2 hd_2 => ?_)
  refine am_run 2 (pc' := 3) (ls' := [some (.int (nI 48))]) (st' := [.int (nI 48), .int (nI 48)]) (σ' := σ) rfl ?_
  refine am_ic (ty := 30) (tn := 6) rfl (by decide) rfl rfl (fun (h_3 : nI 48 = nI 48) => ?_) (fun (h_3 : ¬ (nI 48 = nI 48)) => ?_)
  rotate_left
  · exact absurd (by decide) h_3
  refine am_run 2 (pc' := 35) (ls' := [some (.int (nI 48))]) (st' := [.int (nI 1)]) (σ' := σ) rfl ?_
  refine am_retz rfl rfl (by decide) ?_
  show am_G _ M_X10_readsPart _ 10 [some (.ref 0), some (.int (nI 48))] [.int (nI 1)] σ
  refine am_if (ty := 13) (tn := 22) rfl (by decide) rfl rfl (fun (h_4 : nI 1 = 0) => ?_) (fun (h_4 : ¬ (nI 1 = 0)) => ?_)
  · exact absurd h_4 (by decide)
  refine am_run 2 (pc' := 25) (ls' := [some (.ref 0), some (.int (nI 48))]) (st' := [.int (nI 40), .int (nI 48)]) (σ' := σ) rfl ?_
  refine am_ic (ty := 28) (tn := 48) rfl (by decide) rfl rfl (fun (h_5 : nI 48 = nI 40) => ?_) (fun (h_5 : ¬ (nI 48 = nI 40)) => ?_)
  · exact absurd h_5 (by decide)
  refine am_run 2 (pc' := 50) (ls' := [some (.ref 0), some (.int (nI 48))]) (st' := [.int (nI 48), .ref 0]) (σ' := σ) rfl ?_
  refine am_invv (y := 160) (b := 0) (as := [.int (nI 48)]) (rest := []) rfl rfl rfl rfl rfl rfl rfl (Nat.le_of_ble_eq_true rfl) ?_
  refine c_m_isFull_48 (by omega) a3 a5 a4 a6 (fun hx => ?_) (fun hx => ?_)
  · show am_G _ M_X10_readsPart _ 53 [some (.ref 0), some (.int (nI 48))] [.int (nI 1)] σ
    refine am_if (ty := 58) (tn := 56) rfl (by decide) rfl rfl (fun (h_6 : nI 1 = 0) => ?_) (fun (h_6 : ¬ (nI 1 = 0)) => ?_)
    · exact absurd h_6 (by decide)
    refine am_run 1 (pc' := 57) (ls' := [some (.ref 0), some (.int (nI 48))]) (st' := [.int (nI 3)]) (σ' := σ) rfl ?_
    refine am_reti rfl rfl ?_
    exact h3 (by omega)
  · show am_G _ M_X10_readsPart _ 53 [some (.ref 0), some (.int (nI 48))] [.int (nI 0)] σ
    refine am_if (ty := 58) (tn := 56) rfl (by decide) rfl rfl (fun (h_7 : nI 0 = 0) => ?_) (fun (h_7 : ¬ (nI 0 = 0)) => ?_)
    rotate_left
    · exact absurd (by decide) h_7
    refine am_run 2 (pc' := 61) (ls' := [some (.ref 0), some (.int (nI 48))]) (st' := [.int (nI 36), .int (nI 48)]) (σ' := σ) rfl ?_
    refine am_ic (ty := 64) (tn := 74) rfl (by decide) rfl rfl (fun (h_8 : nI 48 = nI 36) => ?_) (fun (h_8 : ¬ (nI 48 = nI 36)) => ?_)
    · exact absurd h_8 (by decide)
    refine am_run 3 (pc' := 77) (ls' := [some (.ref 0), some (.int (nI 48))]) (st' := [.int (nI 48), .ref 0, .ref 0]) (σ' := σ) rfl ?_
    refine am_invv (y := 159) (b := 0) (as := [.int (nI 48)]) (rest := [.ref 0]) rfl rfl rfl rfl rfl rfl rfl (Nat.le_of_ble_eq_true rfl) ?_
    refine nn_48 (by omega) h (by omega) (fun σ' hB hF hN h0 h20 => ?_)
    have b7 : σ'.1 0 35 = nI e := by rw [h0]; exact a7
    have hq := hq hx σ' hB hF hN h0 h20
    show am_G _ M_X10_readsPart _ 80 [some (.ref 0), some (.int (nI 48))] [.int (nI n), .ref 0] σ'
    refine am_run 3 (pc' := 86) (ls' := [some (.ref 0), some (.int (nI 48))]) (st' := [.int (nI 48), .int (nI 48)]) (σ' := (am_wr σ' 0 23 (nI n))) rfl ?_
    refine am_ic (ty := 95) (tn := 89) rfl (by decide) rfl rfl (fun (h_9 : nI 48 = nI 48) => ?_) (fun (h_9 : ¬ (nI 48 = nI 48)) => ?_)
    rotate_left
    · exact absurd (by decide) h_9
    refine am_run 3 (pc' := 100) (ls' := [some (.ref 0), some (.int (nI 48))]) (st' := [.int (nI n), .ref 0]) (σ' := (am_wr σ' 0 23 (nI n))) rfl ?_
    refine am_invv (y := 161) (b := 0) (as := [.int (nI n)]) (rest := []) rfl rfl rfl rfl rfl rfl rfl (Nat.le_of_ble_eq_true rfl) ?_
    refine c_m_ends (e := e) (by omega) (by rw [am_diff _ _ _ _ _ (by decide)]; exact b7) (by omega) ?_
    show am_G _ M_X10_readsPart _ 103 [some (.ref 0), some (.int (nI 48))] [] (am_wr (am_wr (am_wr σ' 0 23 (nI n)) 9 (120 + e) (nI n)) 0 35 (nI (e + 1)))
    refine am_run 3 (pc' := 108) (ls' := [some (.ref 0), some (.int (nI 48))]) (st' := [.int (nI n), .ref 0]) (σ' := (am_wr (am_wr (am_wr σ' 0 23 (nI n)) 9 (120 + e) (nI n)) 0 35 (nI (e + 1)))) rfl ?_
    refine am_invv (y := 163) (b := 0) (as := [.int (nI n)]) (rest := []) rfl rfl rfl rfl rfl rfl rfl (Nat.le_of_ble_eq_true rfl) ?_
    refine am_C_to (hq _ (by omega)) (fun v σ2 hv => ?_)
    obtain ⟨rfl, hv⟩ := hv
    show am_G _ M_X10_readsPart _ 111 [some (.ref 0), some (.int (nI 48))] [] σ2
    refine am_run 2 (pc' := 141) (ls' := [some (.ref 0), some (.int (nI 48))]) (st' := [.int (nI 0)]) (σ' := σ2) rfl ?_
    refine am_reti rfl rfl ?_
    exact hv
set_option maxRecDepth 10000 in
set_option maxHeartbeats 2000000 in
theorem rp_46 {d : Nat} (hd : 6 ≤ d) {σ : am_M} {L pos n kk e lev tr nw : Nat} {tx O : Nat → Nat} (h : RB σ L tx pos n kk e lev tr nw O) {Q : am_Q} (h3 : 60 ≤ n ∨ 20 ≤ kk → Q (some (.int (nI 3))) σ) (hq : ¬ (60 ≤ n ∨ 20 ≤ kk) → ∀ σ', RB σ' L tx pos (n + 1) (kk + 1) e lev tr nw O → RF σ σ' n e lev nw → NW σ' n 46 nw kk O → σ'.1 0 = σ.1 0 → (∀ c', 20 ≤ c' → c' ≤ 27 → σ'.1 c' = σ.1 c') → EPq (Q (some (.int (nI 0)))) (am_wr (am_wr (am_wr σ' 0 23 (nI n)) 9 (120 + e) (nI n)) 0 35 (nI (e + 1))) n) : am_C d 167 [.ref 0, .int (nI 46)] σ Q := by
  obtain ⟨⟨t1, t2, t3⟩, a1, a2, a3, a4, a5, a6, a7, a8, a9, a10, a11, a12, a13, a14⟩ := id h
  refine am_enter' (M := M_X10_readsPart) rfl rfl rfl (by omega) (ls := [some (.ref 0), some (.int (nI 46))]) rfl (fun d' hd' => ?_)
  refine am_run 2 (pc' := 3) (ls' := [some (.ref 0), some (.int (nI 46))]) (st' := [.int (nI 40), .int (nI 46)]) (σ' := σ) rfl ?_
  refine am_ic (ty := 22) (tn := 6) rfl (by decide) rfl rfl (fun (h_1 : nI 46 = nI 40) => ?_) (fun (h_1 : ¬ (nI 46 = nI 40)) => ?_)
  · exact absurd h_1 (by decide)
  refine am_run 1 (pc' := 7) (ls' := [some (.ref 0), some (.int (nI 46))]) (st' := [.int (nI 46)]) (σ' := σ) rfl ?_
  refine am_invs (y := 155) (as := [.int (nI 46)]) (rest := []) rfl rfl rfl rfl rfl rfl (Nat.le_of_ble_eq_true rfl) ?_
  refine am_enter' rfl rfl rfl (by omega) (ls := [some (.int (nI 46))]) rfl (fun d_2 hd_2 => ?_)
  refine am_run 2 (pc' := 3) (ls' := [some (.int (nI 46))]) (st' := [.int (nI 48), .int (nI 46)]) (σ' := σ) rfl ?_
  refine am_ic (ty := 30) (tn := 6) rfl (by decide) rfl rfl (fun (h_3 : nI 46 = nI 48) => ?_) (fun (h_3 : ¬ (nI 46 = nI 48)) => ?_)
  · exact absurd h_3 (by decide)
  refine am_run 2 (pc' := 9) (ls' := [some (.int (nI 46))]) (st' := [.int (nI 46), .int (nI 46)]) (σ' := σ) rfl ?_
  refine am_ic (ty := 30) (tn := 12) rfl (by decide) rfl rfl (fun (h_4 : nI 46 = nI 46) => ?_) (fun (h_4 : ¬ (nI 46 = nI 46)) => ?_)
  rotate_left
  · exact absurd (by decide) h_4
  refine am_run 2 (pc' := 35) (ls' := [some (.int (nI 46))]) (st' := [.int (nI 1)]) (σ' := σ) rfl ?_
  refine am_retz rfl rfl (by decide) ?_
  show am_G _ M_X10_readsPart _ 10 [some (.ref 0), some (.int (nI 46))] [.int (nI 1)] σ
  refine am_if (ty := 13) (tn := 22) rfl (by decide) rfl rfl (fun (h_5 : nI 1 = 0) => ?_) (fun (h_5 : ¬ (nI 1 = 0)) => ?_)
  · exact absurd h_5 (by decide)
  refine am_run 2 (pc' := 25) (ls' := [some (.ref 0), some (.int (nI 46))]) (st' := [.int (nI 40), .int (nI 46)]) (σ' := σ) rfl ?_
  refine am_ic (ty := 28) (tn := 48) rfl (by decide) rfl rfl (fun (h_6 : nI 46 = nI 40) => ?_) (fun (h_6 : ¬ (nI 46 = nI 40)) => ?_)
  · exact absurd h_6 (by decide)
  refine am_run 2 (pc' := 50) (ls' := [some (.ref 0), some (.int (nI 46))]) (st' := [.int (nI 46), .ref 0]) (σ' := σ) rfl ?_
  refine am_invv (y := 160) (b := 0) (as := [.int (nI 46)]) (rest := []) rfl rfl rfl rfl rfl rfl rfl (Nat.le_of_ble_eq_true rfl) ?_
  refine c_m_isFull_46 (by omega) a3 a5 a4 a6 (fun hx => ?_) (fun hx => ?_)
  · show am_G _ M_X10_readsPart _ 53 [some (.ref 0), some (.int (nI 46))] [.int (nI 1)] σ
    refine am_if (ty := 58) (tn := 56) rfl (by decide) rfl rfl (fun (h_7 : nI 1 = 0) => ?_) (fun (h_7 : ¬ (nI 1 = 0)) => ?_)
    · exact absurd h_7 (by decide)
    refine am_run 1 (pc' := 57) (ls' := [some (.ref 0), some (.int (nI 46))]) (st' := [.int (nI 3)]) (σ' := σ) rfl ?_
    refine am_reti rfl rfl ?_
    exact h3 (by omega)
  · show am_G _ M_X10_readsPart _ 53 [some (.ref 0), some (.int (nI 46))] [.int (nI 0)] σ
    refine am_if (ty := 58) (tn := 56) rfl (by decide) rfl rfl (fun (h_8 : nI 0 = 0) => ?_) (fun (h_8 : ¬ (nI 0 = 0)) => ?_)
    rotate_left
    · exact absurd (by decide) h_8
    refine am_run 2 (pc' := 61) (ls' := [some (.ref 0), some (.int (nI 46))]) (st' := [.int (nI 36), .int (nI 46)]) (σ' := σ) rfl ?_
    refine am_ic (ty := 64) (tn := 74) rfl (by decide) rfl rfl (fun (h_9 : nI 46 = nI 36) => ?_) (fun (h_9 : ¬ (nI 46 = nI 36)) => ?_)
    · exact absurd h_9 (by decide)
    refine am_run 3 (pc' := 77) (ls' := [some (.ref 0), some (.int (nI 46))]) (st' := [.int (nI 46), .ref 0, .ref 0]) (σ' := σ) rfl ?_
    refine am_invv (y := 159) (b := 0) (as := [.int (nI 46)]) (rest := [.ref 0]) rfl rfl rfl rfl rfl rfl rfl (Nat.le_of_ble_eq_true rfl) ?_
    refine nn_46 (by omega) h (by omega) (by omega) (fun σ' hB hF hN h0 h20 => ?_)
    have b7 : σ'.1 0 35 = nI e := by rw [h0]; exact a7
    have hq := hq hx σ' hB hF hN h0 h20
    show am_G _ M_X10_readsPart _ 80 [some (.ref 0), some (.int (nI 46))] [.int (nI n), .ref 0] σ'
    refine am_run 3 (pc' := 86) (ls' := [some (.ref 0), some (.int (nI 46))]) (st' := [.int (nI 48), .int (nI 46)]) (σ' := (am_wr σ' 0 23 (nI n))) rfl ?_
    refine am_ic (ty := 95) (tn := 89) rfl (by decide) rfl rfl (fun (h_10 : nI 46 = nI 48) => ?_) (fun (h_10 : ¬ (nI 46 = nI 48)) => ?_)
    · exact absurd h_10 (by decide)
    refine am_run 2 (pc' := 92) (ls' := [some (.ref 0), some (.int (nI 46))]) (st' := [.int (nI 46), .int (nI 46)]) (σ' := (am_wr σ' 0 23 (nI n))) rfl ?_
    refine am_ic (ty := 95) (tn := 114) rfl (by decide) rfl rfl (fun (h_11 : nI 46 = nI 46) => ?_) (fun (h_11 : ¬ (nI 46 = nI 46)) => ?_)
    rotate_left
    · exact absurd (by decide) h_11
    refine am_run 3 (pc' := 100) (ls' := [some (.ref 0), some (.int (nI 46))]) (st' := [.int (nI n), .ref 0]) (σ' := (am_wr σ' 0 23 (nI n))) rfl ?_
    refine am_invv (y := 161) (b := 0) (as := [.int (nI n)]) (rest := []) rfl rfl rfl rfl rfl rfl rfl (Nat.le_of_ble_eq_true rfl) ?_
    refine c_m_ends (e := e) (by omega) (by rw [am_diff _ _ _ _ _ (by decide)]; exact b7) (by omega) ?_
    show am_G _ M_X10_readsPart _ 103 [some (.ref 0), some (.int (nI 46))] [] (am_wr (am_wr (am_wr σ' 0 23 (nI n)) 9 (120 + e) (nI n)) 0 35 (nI (e + 1)))
    refine am_run 3 (pc' := 108) (ls' := [some (.ref 0), some (.int (nI 46))]) (st' := [.int (nI n), .ref 0]) (σ' := (am_wr (am_wr (am_wr σ' 0 23 (nI n)) 9 (120 + e) (nI n)) 0 35 (nI (e + 1)))) rfl ?_
    refine am_invv (y := 163) (b := 0) (as := [.int (nI n)]) (rest := []) rfl rfl rfl rfl rfl rfl rfl (Nat.le_of_ble_eq_true rfl) ?_
    refine am_C_to (hq _ (by omega)) (fun v σ2 hv => ?_)
    obtain ⟨rfl, hv⟩ := hv
    show am_G _ M_X10_readsPart _ 111 [some (.ref 0), some (.int (nI 46))] [] σ2
    refine am_run 2 (pc' := 141) (ls' := [some (.ref 0), some (.int (nI 46))]) (st' := [.int (nI 0)]) (σ' := σ2) rfl ?_
    refine am_reti rfl rfl ?_
    exact hv
set_option maxRecDepth 10000 in
set_option maxHeartbeats 2000000 in
theorem rp_120 {d : Nat} (hd : 6 ≤ d) {σ : am_M} {L pos n kk e lev tr nw : Nat} {tx O : Nat → Nat} (h : RB σ L tx pos n kk e lev tr nw O) {Q : am_Q} (h3 : 60 ≤ n → Q (some (.int (nI 3))) σ) (hq : ¬ (60 ≤ n) → ∀ σ', RB σ' L tx pos (n + 1) (kk) e lev tr nw O → RF σ σ' n e lev nw → NW σ' n 120 nw kk O → σ'.1 0 = σ.1 0 → (∀ c', 20 ≤ c' → c' ≤ 27 → σ'.1 c' = σ.1 c') → Q (some (.int (nI 0))) (am_wr (am_wr σ' 0 23 (nI n)) 0 22 (nI 3))) : am_C d 167 [.ref 0, .int (nI 120)] σ Q := by
  obtain ⟨⟨t1, t2, t3⟩, a1, a2, a3, a4, a5, a6, a7, a8, a9, a10, a11, a12, a13, a14⟩ := id h
  refine am_enter' (M := M_X10_readsPart) rfl rfl rfl (by omega) (ls := [some (.ref 0), some (.int (nI 120))]) rfl (fun d' hd' => ?_)
  refine am_run 2 (pc' := 3) (ls' := [some (.ref 0), some (.int (nI 120))]) (st' := [.int (nI 40), .int (nI 120)]) (σ' := σ) rfl ?_
  refine am_ic (ty := 22) (tn := 6) rfl (by decide) rfl rfl (fun (h_1 : nI 120 = nI 40) => ?_) (fun (h_1 : ¬ (nI 120 = nI 40)) => ?_)
  · exact absurd h_1 (by decide)
  refine am_run 1 (pc' := 7) (ls' := [some (.ref 0), some (.int (nI 120))]) (st' := [.int (nI 120)]) (σ' := σ) rfl ?_
  refine am_invs (y := 155) (as := [.int (nI 120)]) (rest := []) rfl rfl rfl rfl rfl rfl (Nat.le_of_ble_eq_true rfl) ?_
  refine am_enter' rfl rfl rfl (by omega) (ls := [some (.int (nI 120))]) rfl (fun d_2 hd_2 => ?_)
  refine am_run 2 (pc' := 3) (ls' := [some (.int (nI 120))]) (st' := [.int (nI 48), .int (nI 120)]) (σ' := σ) rfl ?_
  refine am_ic (ty := 30) (tn := 6) rfl (by decide) rfl rfl (fun (h_3 : nI 120 = nI 48) => ?_) (fun (h_3 : ¬ (nI 120 = nI 48)) => ?_)
  · exact absurd h_3 (by decide)
  refine am_run 2 (pc' := 9) (ls' := [some (.int (nI 120))]) (st' := [.int (nI 46), .int (nI 120)]) (σ' := σ) rfl ?_
  refine am_ic (ty := 30) (tn := 12) rfl (by decide) rfl rfl (fun (h_4 : nI 120 = nI 46) => ?_) (fun (h_4 : ¬ (nI 120 = nI 46)) => ?_)
  · exact absurd h_4 (by decide)
  refine am_run 2 (pc' := 15) (ls' := [some (.int (nI 120))]) (st' := [.int (nI 33), .int (nI 120)]) (σ' := σ) rfl ?_
  refine am_ic (ty := 30) (tn := 18) rfl (by decide) rfl rfl (fun (h_5 : nI 120 = nI 33) => ?_) (fun (h_5 : ¬ (nI 120 = nI 33)) => ?_)
  · exact absurd h_5 (by decide)
  refine am_run 2 (pc' := 21) (ls' := [some (.int (nI 120))]) (st' := [.int (nI 38), .int (nI 120)]) (σ' := σ) rfl ?_
  refine am_ic (ty := 30) (tn := 24) rfl (by decide) rfl rfl (fun (h_6 : nI 120 = nI 38) => ?_) (fun (h_6 : ¬ (nI 120 = nI 38)) => ?_)
  · exact absurd h_6 (by decide)
  refine am_run 2 (pc' := 27) (ls' := [some (.int (nI 120))]) (st' := [.int (nI 120), .int (nI 120)]) (σ' := σ) rfl ?_
  refine am_ic (ty := 30) (tn := 34) rfl (by decide) rfl rfl (fun (h_7 : nI 120 = nI 120) => ?_) (fun (h_7 : ¬ (nI 120 = nI 120)) => ?_)
  rotate_left
  · exact absurd (by decide) h_7
  refine am_run 2 (pc' := 35) (ls' := [some (.int (nI 120))]) (st' := [.int (nI 1)]) (σ' := σ) rfl ?_
  refine am_retz rfl rfl (by decide) ?_
  show am_G _ M_X10_readsPart _ 10 [some (.ref 0), some (.int (nI 120))] [.int (nI 1)] σ
  refine am_if (ty := 13) (tn := 22) rfl (by decide) rfl rfl (fun (h_8 : nI 1 = 0) => ?_) (fun (h_8 : ¬ (nI 1 = 0)) => ?_)
  · exact absurd h_8 (by decide)
  refine am_run 2 (pc' := 25) (ls' := [some (.ref 0), some (.int (nI 120))]) (st' := [.int (nI 40), .int (nI 120)]) (σ' := σ) rfl ?_
  refine am_ic (ty := 28) (tn := 48) rfl (by decide) rfl rfl (fun (h_9 : nI 120 = nI 40) => ?_) (fun (h_9 : ¬ (nI 120 = nI 40)) => ?_)
  · exact absurd h_9 (by decide)
  refine am_run 2 (pc' := 50) (ls' := [some (.ref 0), some (.int (nI 120))]) (st' := [.int (nI 120), .ref 0]) (σ' := σ) rfl ?_
  refine am_invv (y := 160) (b := 0) (as := [.int (nI 120)]) (rest := []) rfl rfl rfl rfl rfl rfl rfl (Nat.le_of_ble_eq_true rfl) ?_
  refine c_m_isFull_120 (by omega) a3 a5 a4 a6 (fun hx => ?_) (fun hx => ?_)
  · show am_G _ M_X10_readsPart _ 53 [some (.ref 0), some (.int (nI 120))] [.int (nI 1)] σ
    refine am_if (ty := 58) (tn := 56) rfl (by decide) rfl rfl (fun (h_10 : nI 1 = 0) => ?_) (fun (h_10 : ¬ (nI 1 = 0)) => ?_)
    · exact absurd h_10 (by decide)
    refine am_run 1 (pc' := 57) (ls' := [some (.ref 0), some (.int (nI 120))]) (st' := [.int (nI 3)]) (σ' := σ) rfl ?_
    refine am_reti rfl rfl ?_
    exact h3 (by omega)
  · show am_G _ M_X10_readsPart _ 53 [some (.ref 0), some (.int (nI 120))] [.int (nI 0)] σ
    refine am_if (ty := 58) (tn := 56) rfl (by decide) rfl rfl (fun (h_11 : nI 0 = 0) => ?_) (fun (h_11 : ¬ (nI 0 = 0)) => ?_)
    rotate_left
    · exact absurd (by decide) h_11
    refine am_run 2 (pc' := 61) (ls' := [some (.ref 0), some (.int (nI 120))]) (st' := [.int (nI 36), .int (nI 120)]) (σ' := σ) rfl ?_
    refine am_ic (ty := 64) (tn := 74) rfl (by decide) rfl rfl (fun (h_12 : nI 120 = nI 36) => ?_) (fun (h_12 : ¬ (nI 120 = nI 36)) => ?_)
    · exact absurd h_12 (by decide)
    refine am_run 3 (pc' := 77) (ls' := [some (.ref 0), some (.int (nI 120))]) (st' := [.int (nI 120), .ref 0, .ref 0]) (σ' := σ) rfl ?_
    refine am_invv (y := 159) (b := 0) (as := [.int (nI 120)]) (rest := [.ref 0]) rfl rfl rfl rfl rfl rfl rfl (Nat.le_of_ble_eq_true rfl) ?_
    refine nn_120 (by omega) h (by omega) (fun σ' hB hF hN h0 h20 => ?_)
    have b7 : σ'.1 0 35 = nI e := by rw [h0]; exact a7
    have hq := hq hx σ' hB hF hN h0 h20
    show am_G _ M_X10_readsPart _ 80 [some (.ref 0), some (.int (nI 120))] [.int (nI n), .ref 0] σ'
    refine am_run 3 (pc' := 86) (ls' := [some (.ref 0), some (.int (nI 120))]) (st' := [.int (nI 48), .int (nI 120)]) (σ' := (am_wr σ' 0 23 (nI n))) rfl ?_
    refine am_ic (ty := 95) (tn := 89) rfl (by decide) rfl rfl (fun (h_13 : nI 120 = nI 48) => ?_) (fun (h_13 : ¬ (nI 120 = nI 48)) => ?_)
    · exact absurd h_13 (by decide)
    refine am_run 2 (pc' := 92) (ls' := [some (.ref 0), some (.int (nI 120))]) (st' := [.int (nI 46), .int (nI 120)]) (σ' := (am_wr σ' 0 23 (nI n))) rfl ?_
    refine am_ic (ty := 95) (tn := 114) rfl (by decide) rfl rfl (fun (h_14 : nI 120 = nI 46) => ?_) (fun (h_14 : ¬ (nI 120 = nI 46)) => ?_)
    · exact absurd h_14 (by decide)
    refine am_run 2 (pc' := 116) (ls' := [some (.ref 0), some (.int (nI 120))]) (st' := [.int (nI 120), .ref 0]) (σ' := (am_wr σ' 0 23 (nI n))) rfl ?_
    refine am_invs (y := 157) (as := [.int (nI 120)]) (rest := [.ref 0]) rfl rfl rfl rfl rfl rfl (Nat.le_of_ble_eq_true rfl) ?_
    refine am_enter' rfl rfl rfl (by omega) (ls := [some (.int (nI 120))]) rfl (fun d_15 hd_15 => ?_)
    refine am_run 2 (pc' := 3) (ls' := [some (.int (nI 120))]) (st' := [.int (nI 33), .int (nI 120)]) (σ' := (am_wr σ' 0 23 (nI n))) rfl ?_
    refine am_ic (ty := 36) (tn := 6) rfl (by decide) rfl rfl (fun (h_16 : nI 120 = nI 33) => ?_) (fun (h_16 : ¬ (nI 120 = nI 33)) => ?_)
    · exact absurd h_16 (by decide)
    refine am_run 2 (pc' := 9) (ls' := [some (.int (nI 120))]) (st' := [.int (nI 38), .int (nI 120)]) (σ' := (am_wr σ' 0 23 (nI n))) rfl ?_
    refine am_ic (ty := 36) (tn := 12) rfl (by decide) rfl rfl (fun (h_17 : nI 120 = nI 38) => ?_) (fun (h_17 : ¬ (nI 120 = nI 38)) => ?_)
    · exact absurd h_17 (by decide)
    refine am_run 2 (pc' := 15) (ls' := [some (.int (nI 120))]) (st' := [.int (nI 63), .int (nI 120)]) (σ' := (am_wr σ' 0 23 (nI n))) rfl ?_
    refine am_ic (ty := 36) (tn := 18) rfl (by decide) rfl rfl (fun (h_18 : nI 120 = nI 63) => ?_) (fun (h_18 : ¬ (nI 120 = nI 63)) => ?_)
    · exact absurd h_18 (by decide)
    refine am_run 2 (pc' := 21) (ls' := [some (.int (nI 120))]) (st' := [.int (nI 64), .int (nI 120)]) (σ' := (am_wr σ' 0 23 (nI n))) rfl ?_
    refine am_ic (ty := 36) (tn := 24) rfl (by decide) rfl rfl (fun (h_19 : nI 120 = nI 64) => ?_) (fun (h_19 : ¬ (nI 120 = nI 64)) => ?_)
    · exact absurd h_19 (by decide)
    refine am_run 2 (pc' := 27) (ls' := [some (.int (nI 120))]) (st' := [.int (nI 126), .int (nI 120)]) (σ' := (am_wr σ' 0 23 (nI n))) rfl ?_
    refine am_ic (ty := 36) (tn := 30) rfl (by decide) rfl rfl (fun (h_20 : nI 120 = nI 126) => ?_) (fun (h_20 : ¬ (nI 120 = nI 126)) => ?_)
    · exact absurd h_20 (by decide)
    refine am_run 2 (pc' := 33) (ls' := [some (.int (nI 120))]) (st' := [.int (nI 36), .int (nI 120)]) (σ' := (am_wr σ' 0 23 (nI n))) rfl ?_
    refine am_ic (ty := 36) (tn := 40) rfl (by decide) rfl rfl (fun (h_21 : nI 120 = nI 36) => ?_) (fun (h_21 : ¬ (nI 120 = nI 36)) => ?_)
    · exact absurd h_21 (by decide)
    refine am_run 1 (pc' := 41) (ls' := [some (.int (nI 120))]) (st' := [.int (nI 0)]) (σ' := (am_wr σ' 0 23 (nI n))) rfl ?_
    refine am_retz rfl rfl (by decide) ?_
    show am_G _ M_X10_readsPart _ 119 [some (.ref 0), some (.int (nI 120))] [.int (nI 0), .ref 0] (am_wr σ' 0 23 (nI n))
    refine am_if (ty := 126) (tn := 122) rfl (by decide) rfl rfl (fun (h_22 : nI 0 = 0) => ?_) (fun (h_22 : ¬ (nI 0 = 0)) => ?_)
    rotate_left
    · exact absurd (by decide) h_22
    refine am_run 2 (pc' := 129) (ls' := [some (.ref 0), some (.int (nI 120))]) (st' := [.int (nI 120), .int (nI 120), .ref 0]) (σ' := (am_wr σ' 0 23 (nI n))) rfl ?_
    refine am_ic (ty := 132) (tn := 136) rfl (by decide) rfl rfl (fun (h_23 : nI 120 = nI 120) => ?_) (fun (h_23 : ¬ (nI 120 = nI 120)) => ?_)
    rotate_left
    · exact absurd (by decide) h_23
    refine am_run 4 (pc' := 141) (ls' := [some (.ref 0), some (.int (nI 120))]) (st' := [.int (nI 0)]) (σ' := (am_wr (am_wr σ' 0 23 (nI n)) 0 22 (nI 3))) rfl ?_
    refine am_reti rfl rfl ?_
    exact hq
set_option maxRecDepth 10000 in
set_option maxHeartbeats 2000000 in
theorem rp_33 {d : Nat} (hd : 6 ≤ d) {σ : am_M} {L pos n kk e lev tr nw : Nat} {tx O : Nat → Nat} (h : RB σ L tx pos n kk e lev tr nw O) {Q : am_Q} (h3 : 60 ≤ n → Q (some (.int (nI 3))) σ) (hq : ¬ (60 ≤ n) → ∀ σ', RB σ' L tx pos (n + 1) (kk) e lev tr nw O → RF σ σ' n e lev nw → NW σ' n 33 nw kk O → σ'.1 0 = σ.1 0 → (∀ c', 20 ≤ c' → c' ≤ 27 → σ'.1 c' = σ.1 c') → Q (some (.int (nI 0))) (am_wr (am_wr σ' 0 23 (nI n)) 0 22 (nI 1))) : am_C d 167 [.ref 0, .int (nI 33)] σ Q := by
  obtain ⟨⟨t1, t2, t3⟩, a1, a2, a3, a4, a5, a6, a7, a8, a9, a10, a11, a12, a13, a14⟩ := id h
  refine am_enter' (M := M_X10_readsPart) rfl rfl rfl (by omega) (ls := [some (.ref 0), some (.int (nI 33))]) rfl (fun d' hd' => ?_)
  refine am_run 2 (pc' := 3) (ls' := [some (.ref 0), some (.int (nI 33))]) (st' := [.int (nI 40), .int (nI 33)]) (σ' := σ) rfl ?_
  refine am_ic (ty := 22) (tn := 6) rfl (by decide) rfl rfl (fun (h_1 : nI 33 = nI 40) => ?_) (fun (h_1 : ¬ (nI 33 = nI 40)) => ?_)
  · exact absurd h_1 (by decide)
  refine am_run 1 (pc' := 7) (ls' := [some (.ref 0), some (.int (nI 33))]) (st' := [.int (nI 33)]) (σ' := σ) rfl ?_
  refine am_invs (y := 155) (as := [.int (nI 33)]) (rest := []) rfl rfl rfl rfl rfl rfl (Nat.le_of_ble_eq_true rfl) ?_
  refine am_enter' rfl rfl rfl (by omega) (ls := [some (.int (nI 33))]) rfl (fun d_2 hd_2 => ?_)
  refine am_run 2 (pc' := 3) (ls' := [some (.int (nI 33))]) (st' := [.int (nI 48), .int (nI 33)]) (σ' := σ) rfl ?_
  refine am_ic (ty := 30) (tn := 6) rfl (by decide) rfl rfl (fun (h_3 : nI 33 = nI 48) => ?_) (fun (h_3 : ¬ (nI 33 = nI 48)) => ?_)
  · exact absurd h_3 (by decide)
  refine am_run 2 (pc' := 9) (ls' := [some (.int (nI 33))]) (st' := [.int (nI 46), .int (nI 33)]) (σ' := σ) rfl ?_
  refine am_ic (ty := 30) (tn := 12) rfl (by decide) rfl rfl (fun (h_4 : nI 33 = nI 46) => ?_) (fun (h_4 : ¬ (nI 33 = nI 46)) => ?_)
  · exact absurd h_4 (by decide)
  refine am_run 2 (pc' := 15) (ls' := [some (.int (nI 33))]) (st' := [.int (nI 33), .int (nI 33)]) (σ' := σ) rfl ?_
  refine am_ic (ty := 30) (tn := 18) rfl (by decide) rfl rfl (fun (h_5 : nI 33 = nI 33) => ?_) (fun (h_5 : ¬ (nI 33 = nI 33)) => ?_)
  rotate_left
  · exact absurd (by decide) h_5
  refine am_run 2 (pc' := 35) (ls' := [some (.int (nI 33))]) (st' := [.int (nI 1)]) (σ' := σ) rfl ?_
  refine am_retz rfl rfl (by decide) ?_
  show am_G _ M_X10_readsPart _ 10 [some (.ref 0), some (.int (nI 33))] [.int (nI 1)] σ
  refine am_if (ty := 13) (tn := 22) rfl (by decide) rfl rfl (fun (h_6 : nI 1 = 0) => ?_) (fun (h_6 : ¬ (nI 1 = 0)) => ?_)
  · exact absurd h_6 (by decide)
  refine am_run 2 (pc' := 25) (ls' := [some (.ref 0), some (.int (nI 33))]) (st' := [.int (nI 40), .int (nI 33)]) (σ' := σ) rfl ?_
  refine am_ic (ty := 28) (tn := 48) rfl (by decide) rfl rfl (fun (h_7 : nI 33 = nI 40) => ?_) (fun (h_7 : ¬ (nI 33 = nI 40)) => ?_)
  · exact absurd h_7 (by decide)
  refine am_run 2 (pc' := 50) (ls' := [some (.ref 0), some (.int (nI 33))]) (st' := [.int (nI 33), .ref 0]) (σ' := σ) rfl ?_
  refine am_invv (y := 160) (b := 0) (as := [.int (nI 33)]) (rest := []) rfl rfl rfl rfl rfl rfl rfl (Nat.le_of_ble_eq_true rfl) ?_
  refine c_m_isFull_33 (by omega) a3 a5 a4 a6 (fun hx => ?_) (fun hx => ?_)
  · show am_G _ M_X10_readsPart _ 53 [some (.ref 0), some (.int (nI 33))] [.int (nI 1)] σ
    refine am_if (ty := 58) (tn := 56) rfl (by decide) rfl rfl (fun (h_8 : nI 1 = 0) => ?_) (fun (h_8 : ¬ (nI 1 = 0)) => ?_)
    · exact absurd h_8 (by decide)
    refine am_run 1 (pc' := 57) (ls' := [some (.ref 0), some (.int (nI 33))]) (st' := [.int (nI 3)]) (σ' := σ) rfl ?_
    refine am_reti rfl rfl ?_
    exact h3 (by omega)
  · show am_G _ M_X10_readsPart _ 53 [some (.ref 0), some (.int (nI 33))] [.int (nI 0)] σ
    refine am_if (ty := 58) (tn := 56) rfl (by decide) rfl rfl (fun (h_9 : nI 0 = 0) => ?_) (fun (h_9 : ¬ (nI 0 = 0)) => ?_)
    rotate_left
    · exact absurd (by decide) h_9
    refine am_run 2 (pc' := 61) (ls' := [some (.ref 0), some (.int (nI 33))]) (st' := [.int (nI 36), .int (nI 33)]) (σ' := σ) rfl ?_
    refine am_ic (ty := 64) (tn := 74) rfl (by decide) rfl rfl (fun (h_10 : nI 33 = nI 36) => ?_) (fun (h_10 : ¬ (nI 33 = nI 36)) => ?_)
    · exact absurd h_10 (by decide)
    refine am_run 3 (pc' := 77) (ls' := [some (.ref 0), some (.int (nI 33))]) (st' := [.int (nI 33), .ref 0, .ref 0]) (σ' := σ) rfl ?_
    refine am_invv (y := 159) (b := 0) (as := [.int (nI 33)]) (rest := [.ref 0]) rfl rfl rfl rfl rfl rfl rfl (Nat.le_of_ble_eq_true rfl) ?_
    refine nn_33 (by omega) h (by omega) (fun σ' hB hF hN h0 h20 => ?_)
    have b7 : σ'.1 0 35 = nI e := by rw [h0]; exact a7
    have hq := hq hx σ' hB hF hN h0 h20
    show am_G _ M_X10_readsPart _ 80 [some (.ref 0), some (.int (nI 33))] [.int (nI n), .ref 0] σ'
    refine am_run 3 (pc' := 86) (ls' := [some (.ref 0), some (.int (nI 33))]) (st' := [.int (nI 48), .int (nI 33)]) (σ' := (am_wr σ' 0 23 (nI n))) rfl ?_
    refine am_ic (ty := 95) (tn := 89) rfl (by decide) rfl rfl (fun (h_11 : nI 33 = nI 48) => ?_) (fun (h_11 : ¬ (nI 33 = nI 48)) => ?_)
    · exact absurd h_11 (by decide)
    refine am_run 2 (pc' := 92) (ls' := [some (.ref 0), some (.int (nI 33))]) (st' := [.int (nI 46), .int (nI 33)]) (σ' := (am_wr σ' 0 23 (nI n))) rfl ?_
    refine am_ic (ty := 95) (tn := 114) rfl (by decide) rfl rfl (fun (h_12 : nI 33 = nI 46) => ?_) (fun (h_12 : ¬ (nI 33 = nI 46)) => ?_)
    · exact absurd h_12 (by decide)
    refine am_run 2 (pc' := 116) (ls' := [some (.ref 0), some (.int (nI 33))]) (st' := [.int (nI 33), .ref 0]) (σ' := (am_wr σ' 0 23 (nI n))) rfl ?_
    refine am_invs (y := 157) (as := [.int (nI 33)]) (rest := [.ref 0]) rfl rfl rfl rfl rfl rfl (Nat.le_of_ble_eq_true rfl) ?_
    refine am_enter' rfl rfl rfl (by omega) (ls := [some (.int (nI 33))]) rfl (fun d_13 hd_13 => ?_)
    refine am_run 2 (pc' := 3) (ls' := [some (.int (nI 33))]) (st' := [.int (nI 33), .int (nI 33)]) (σ' := (am_wr σ' 0 23 (nI n))) rfl ?_
    refine am_ic (ty := 36) (tn := 6) rfl (by decide) rfl rfl (fun (h_14 : nI 33 = nI 33) => ?_) (fun (h_14 : ¬ (nI 33 = nI 33)) => ?_)
    rotate_left
    · exact absurd (by decide) h_14
    refine am_run 2 (pc' := 41) (ls' := [some (.int (nI 33))]) (st' := [.int (nI 1)]) (σ' := (am_wr σ' 0 23 (nI n))) rfl ?_
    refine am_retz rfl rfl (by decide) ?_
    show am_G _ M_X10_readsPart _ 119 [some (.ref 0), some (.int (nI 33))] [.int (nI 1), .ref 0] (am_wr σ' 0 23 (nI n))
    refine am_if (ty := 126) (tn := 122) rfl (by decide) rfl rfl (fun (h_15 : nI 1 = 0) => ?_) (fun (h_15 : ¬ (nI 1 = 0)) => ?_)
    · exact absurd h_15 (by decide)
    refine am_run 4 (pc' := 141) (ls' := [some (.ref 0), some (.int (nI 33))]) (st' := [.int (nI 0)]) (σ' := (am_wr (am_wr σ' 0 23 (nI n)) 0 22 (nI 1))) rfl ?_
    refine am_reti rfl rfl ?_
    exact hq
set_option maxRecDepth 10000 in
set_option maxHeartbeats 2000000 in
theorem rp_38 {d : Nat} (hd : 6 ≤ d) {σ : am_M} {L pos n kk e lev tr nw : Nat} {tx O : Nat → Nat} (h : RB σ L tx pos n kk e lev tr nw O) {Q : am_Q} (h3 : 60 ≤ n ∨ 20 ≤ kk → Q (some (.int (nI 3))) σ) (hq : ¬ (60 ≤ n ∨ 20 ≤ kk) → ∀ σ', RB σ' L tx pos (n + 1) (kk + 1) e lev tr nw O → RF σ σ' n e lev nw → NW σ' n 38 nw kk O → σ'.1 0 = σ.1 0 → (∀ c', 20 ≤ c' → c' ≤ 27 → σ'.1 c' = σ.1 c') → Q (some (.int (nI 0))) (am_wr (am_wr σ' 0 23 (nI n)) 0 22 (nI 1))) : am_C d 167 [.ref 0, .int (nI 38)] σ Q := by
  obtain ⟨⟨t1, t2, t3⟩, a1, a2, a3, a4, a5, a6, a7, a8, a9, a10, a11, a12, a13, a14⟩ := id h
  refine am_enter' (M := M_X10_readsPart) rfl rfl rfl (by omega) (ls := [some (.ref 0), some (.int (nI 38))]) rfl (fun d' hd' => ?_)
  refine am_run 2 (pc' := 3) (ls' := [some (.ref 0), some (.int (nI 38))]) (st' := [.int (nI 40), .int (nI 38)]) (σ' := σ) rfl ?_
  refine am_ic (ty := 22) (tn := 6) rfl (by decide) rfl rfl (fun (h_1 : nI 38 = nI 40) => ?_) (fun (h_1 : ¬ (nI 38 = nI 40)) => ?_)
  · exact absurd h_1 (by decide)
  refine am_run 1 (pc' := 7) (ls' := [some (.ref 0), some (.int (nI 38))]) (st' := [.int (nI 38)]) (σ' := σ) rfl ?_
  refine am_invs (y := 155) (as := [.int (nI 38)]) (rest := []) rfl rfl rfl rfl rfl rfl (Nat.le_of_ble_eq_true rfl) ?_
  refine am_enter' rfl rfl rfl (by omega) (ls := [some (.int (nI 38))]) rfl (fun d_2 hd_2 => ?_)
  refine am_run 2 (pc' := 3) (ls' := [some (.int (nI 38))]) (st' := [.int (nI 48), .int (nI 38)]) (σ' := σ) rfl ?_
  refine am_ic (ty := 30) (tn := 6) rfl (by decide) rfl rfl (fun (h_3 : nI 38 = nI 48) => ?_) (fun (h_3 : ¬ (nI 38 = nI 48)) => ?_)
  · exact absurd h_3 (by decide)
  refine am_run 2 (pc' := 9) (ls' := [some (.int (nI 38))]) (st' := [.int (nI 46), .int (nI 38)]) (σ' := σ) rfl ?_
  refine am_ic (ty := 30) (tn := 12) rfl (by decide) rfl rfl (fun (h_4 : nI 38 = nI 46) => ?_) (fun (h_4 : ¬ (nI 38 = nI 46)) => ?_)
  · exact absurd h_4 (by decide)
  refine am_run 2 (pc' := 15) (ls' := [some (.int (nI 38))]) (st' := [.int (nI 33), .int (nI 38)]) (σ' := σ) rfl ?_
  refine am_ic (ty := 30) (tn := 18) rfl (by decide) rfl rfl (fun (h_5 : nI 38 = nI 33) => ?_) (fun (h_5 : ¬ (nI 38 = nI 33)) => ?_)
  · exact absurd h_5 (by decide)
  refine am_run 2 (pc' := 21) (ls' := [some (.int (nI 38))]) (st' := [.int (nI 38), .int (nI 38)]) (σ' := σ) rfl ?_
  refine am_ic (ty := 30) (tn := 24) rfl (by decide) rfl rfl (fun (h_6 : nI 38 = nI 38) => ?_) (fun (h_6 : ¬ (nI 38 = nI 38)) => ?_)
  rotate_left
  · exact absurd (by decide) h_6
  refine am_run 2 (pc' := 35) (ls' := [some (.int (nI 38))]) (st' := [.int (nI 1)]) (σ' := σ) rfl ?_
  refine am_retz rfl rfl (by decide) ?_
  show am_G _ M_X10_readsPart _ 10 [some (.ref 0), some (.int (nI 38))] [.int (nI 1)] σ
  refine am_if (ty := 13) (tn := 22) rfl (by decide) rfl rfl (fun (h_7 : nI 1 = 0) => ?_) (fun (h_7 : ¬ (nI 1 = 0)) => ?_)
  · exact absurd h_7 (by decide)
  refine am_run 2 (pc' := 25) (ls' := [some (.ref 0), some (.int (nI 38))]) (st' := [.int (nI 40), .int (nI 38)]) (σ' := σ) rfl ?_
  refine am_ic (ty := 28) (tn := 48) rfl (by decide) rfl rfl (fun (h_8 : nI 38 = nI 40) => ?_) (fun (h_8 : ¬ (nI 38 = nI 40)) => ?_)
  · exact absurd h_8 (by decide)
  refine am_run 2 (pc' := 50) (ls' := [some (.ref 0), some (.int (nI 38))]) (st' := [.int (nI 38), .ref 0]) (σ' := σ) rfl ?_
  refine am_invv (y := 160) (b := 0) (as := [.int (nI 38)]) (rest := []) rfl rfl rfl rfl rfl rfl rfl (Nat.le_of_ble_eq_true rfl) ?_
  refine c_m_isFull_38 (by omega) a3 a5 a4 a6 (fun hx => ?_) (fun hx => ?_)
  · show am_G _ M_X10_readsPart _ 53 [some (.ref 0), some (.int (nI 38))] [.int (nI 1)] σ
    refine am_if (ty := 58) (tn := 56) rfl (by decide) rfl rfl (fun (h_9 : nI 1 = 0) => ?_) (fun (h_9 : ¬ (nI 1 = 0)) => ?_)
    · exact absurd h_9 (by decide)
    refine am_run 1 (pc' := 57) (ls' := [some (.ref 0), some (.int (nI 38))]) (st' := [.int (nI 3)]) (σ' := σ) rfl ?_
    refine am_reti rfl rfl ?_
    exact h3 (by omega)
  · show am_G _ M_X10_readsPart _ 53 [some (.ref 0), some (.int (nI 38))] [.int (nI 0)] σ
    refine am_if (ty := 58) (tn := 56) rfl (by decide) rfl rfl (fun (h_10 : nI 0 = 0) => ?_) (fun (h_10 : ¬ (nI 0 = 0)) => ?_)
    rotate_left
    · exact absurd (by decide) h_10
    refine am_run 2 (pc' := 61) (ls' := [some (.ref 0), some (.int (nI 38))]) (st' := [.int (nI 36), .int (nI 38)]) (σ' := σ) rfl ?_
    refine am_ic (ty := 64) (tn := 74) rfl (by decide) rfl rfl (fun (h_11 : nI 38 = nI 36) => ?_) (fun (h_11 : ¬ (nI 38 = nI 36)) => ?_)
    · exact absurd h_11 (by decide)
    refine am_run 3 (pc' := 77) (ls' := [some (.ref 0), some (.int (nI 38))]) (st' := [.int (nI 38), .ref 0, .ref 0]) (σ' := σ) rfl ?_
    refine am_invv (y := 159) (b := 0) (as := [.int (nI 38)]) (rest := [.ref 0]) rfl rfl rfl rfl rfl rfl rfl (Nat.le_of_ble_eq_true rfl) ?_
    refine nn_38 (by omega) h (by omega) (by omega) (fun σ' hB hF hN h0 h20 => ?_)
    have b7 : σ'.1 0 35 = nI e := by rw [h0]; exact a7
    have hq := hq hx σ' hB hF hN h0 h20
    show am_G _ M_X10_readsPart _ 80 [some (.ref 0), some (.int (nI 38))] [.int (nI n), .ref 0] σ'
    refine am_run 3 (pc' := 86) (ls' := [some (.ref 0), some (.int (nI 38))]) (st' := [.int (nI 48), .int (nI 38)]) (σ' := (am_wr σ' 0 23 (nI n))) rfl ?_
    refine am_ic (ty := 95) (tn := 89) rfl (by decide) rfl rfl (fun (h_12 : nI 38 = nI 48) => ?_) (fun (h_12 : ¬ (nI 38 = nI 48)) => ?_)
    · exact absurd h_12 (by decide)
    refine am_run 2 (pc' := 92) (ls' := [some (.ref 0), some (.int (nI 38))]) (st' := [.int (nI 46), .int (nI 38)]) (σ' := (am_wr σ' 0 23 (nI n))) rfl ?_
    refine am_ic (ty := 95) (tn := 114) rfl (by decide) rfl rfl (fun (h_13 : nI 38 = nI 46) => ?_) (fun (h_13 : ¬ (nI 38 = nI 46)) => ?_)
    · exact absurd h_13 (by decide)
    refine am_run 2 (pc' := 116) (ls' := [some (.ref 0), some (.int (nI 38))]) (st' := [.int (nI 38), .ref 0]) (σ' := (am_wr σ' 0 23 (nI n))) rfl ?_
    refine am_invs (y := 157) (as := [.int (nI 38)]) (rest := [.ref 0]) rfl rfl rfl rfl rfl rfl (Nat.le_of_ble_eq_true rfl) ?_
    refine am_enter' rfl rfl rfl (by omega) (ls := [some (.int (nI 38))]) rfl (fun d_14 hd_14 => ?_)
    refine am_run 2 (pc' := 3) (ls' := [some (.int (nI 38))]) (st' := [.int (nI 33), .int (nI 38)]) (σ' := (am_wr σ' 0 23 (nI n))) rfl ?_
    refine am_ic (ty := 36) (tn := 6) rfl (by decide) rfl rfl (fun (h_15 : nI 38 = nI 33) => ?_) (fun (h_15 : ¬ (nI 38 = nI 33)) => ?_)
    · exact absurd h_15 (by decide)
    refine am_run 2 (pc' := 9) (ls' := [some (.int (nI 38))]) (st' := [.int (nI 38), .int (nI 38)]) (σ' := (am_wr σ' 0 23 (nI n))) rfl ?_
    refine am_ic (ty := 36) (tn := 12) rfl (by decide) rfl rfl (fun (h_16 : nI 38 = nI 38) => ?_) (fun (h_16 : ¬ (nI 38 = nI 38)) => ?_)
    rotate_left
    · exact absurd (by decide) h_16
    refine am_run 2 (pc' := 41) (ls' := [some (.int (nI 38))]) (st' := [.int (nI 1)]) (σ' := (am_wr σ' 0 23 (nI n))) rfl ?_
    refine am_retz rfl rfl (by decide) ?_
    show am_G _ M_X10_readsPart _ 119 [some (.ref 0), some (.int (nI 38))] [.int (nI 1), .ref 0] (am_wr σ' 0 23 (nI n))
    refine am_if (ty := 126) (tn := 122) rfl (by decide) rfl rfl (fun (h_17 : nI 1 = 0) => ?_) (fun (h_17 : ¬ (nI 1 = 0)) => ?_)
    · exact absurd h_17 (by decide)
    refine am_run 4 (pc' := 141) (ls' := [some (.ref 0), some (.int (nI 38))]) (st' := [.int (nI 0)]) (σ' := (am_wr (am_wr σ' 0 23 (nI n)) 0 22 (nI 1))) rfl ?_
    refine am_reti rfl rfl ?_
    exact hq
set_option maxRecDepth 10000 in
set_option maxHeartbeats 2000000 in
theorem rp_63 {d : Nat} (hd : 6 ≤ d) {σ : am_M} {L pos n kk e lev tr nw : Nat} {tx O : Nat → Nat} (h : RB σ L tx pos n kk e lev tr nw O) {Q : am_Q} (h3 : 60 ≤ n → Q (some (.int (nI 3))) σ) (hq : ¬ (60 ≤ n) → ∀ σ', RB σ' L tx pos (n + 1) (kk) e lev tr nw O → RF σ σ' n e lev nw → NW σ' n 63 nw kk O → σ'.1 0 = σ.1 0 → (∀ c', 20 ≤ c' → c' ≤ 27 → σ'.1 c' = σ.1 c') → Q (some (.int (nI 0))) (am_wr (am_wr σ' 0 23 (nI n)) 0 22 (nI 1))) : am_C d 167 [.ref 0, .int (nI 63)] σ Q := by
  obtain ⟨⟨t1, t2, t3⟩, a1, a2, a3, a4, a5, a6, a7, a8, a9, a10, a11, a12, a13, a14⟩ := id h
  refine am_enter' (M := M_X10_readsPart) rfl rfl rfl (by omega) (ls := [some (.ref 0), some (.int (nI 63))]) rfl (fun d' hd' => ?_)
  refine am_run 2 (pc' := 3) (ls' := [some (.ref 0), some (.int (nI 63))]) (st' := [.int (nI 40), .int (nI 63)]) (σ' := σ) rfl ?_
  refine am_ic (ty := 22) (tn := 6) rfl (by decide) rfl rfl (fun (h_1 : nI 63 = nI 40) => ?_) (fun (h_1 : ¬ (nI 63 = nI 40)) => ?_)
  · exact absurd h_1 (by decide)
  refine am_run 1 (pc' := 7) (ls' := [some (.ref 0), some (.int (nI 63))]) (st' := [.int (nI 63)]) (σ' := σ) rfl ?_
  refine am_invs (y := 155) (as := [.int (nI 63)]) (rest := []) rfl rfl rfl rfl rfl rfl (Nat.le_of_ble_eq_true rfl) ?_
  refine am_enter' rfl rfl rfl (by omega) (ls := [some (.int (nI 63))]) rfl (fun d_2 hd_2 => ?_)
  refine am_run 2 (pc' := 3) (ls' := [some (.int (nI 63))]) (st' := [.int (nI 48), .int (nI 63)]) (σ' := σ) rfl ?_
  refine am_ic (ty := 30) (tn := 6) rfl (by decide) rfl rfl (fun (h_3 : nI 63 = nI 48) => ?_) (fun (h_3 : ¬ (nI 63 = nI 48)) => ?_)
  · exact absurd h_3 (by decide)
  refine am_run 2 (pc' := 9) (ls' := [some (.int (nI 63))]) (st' := [.int (nI 46), .int (nI 63)]) (σ' := σ) rfl ?_
  refine am_ic (ty := 30) (tn := 12) rfl (by decide) rfl rfl (fun (h_4 : nI 63 = nI 46) => ?_) (fun (h_4 : ¬ (nI 63 = nI 46)) => ?_)
  · exact absurd h_4 (by decide)
  refine am_run 2 (pc' := 15) (ls' := [some (.int (nI 63))]) (st' := [.int (nI 33), .int (nI 63)]) (σ' := σ) rfl ?_
  refine am_ic (ty := 30) (tn := 18) rfl (by decide) rfl rfl (fun (h_5 : nI 63 = nI 33) => ?_) (fun (h_5 : ¬ (nI 63 = nI 33)) => ?_)
  · exact absurd h_5 (by decide)
  refine am_run 2 (pc' := 21) (ls' := [some (.int (nI 63))]) (st' := [.int (nI 38), .int (nI 63)]) (σ' := σ) rfl ?_
  refine am_ic (ty := 30) (tn := 24) rfl (by decide) rfl rfl (fun (h_6 : nI 63 = nI 38) => ?_) (fun (h_6 : ¬ (nI 63 = nI 38)) => ?_)
  · exact absurd h_6 (by decide)
  refine am_run 2 (pc' := 27) (ls' := [some (.int (nI 63))]) (st' := [.int (nI 120), .int (nI 63)]) (σ' := σ) rfl ?_
  refine am_ic (ty := 30) (tn := 34) rfl (by decide) rfl rfl (fun (h_7 : nI 63 = nI 120) => ?_) (fun (h_7 : ¬ (nI 63 = nI 120)) => ?_)
  · exact absurd h_7 (by decide)
  refine am_run 1 (pc' := 35) (ls' := [some (.int (nI 63))]) (st' := [.int (nI 0)]) (σ' := σ) rfl ?_
  refine am_retz rfl rfl (by decide) ?_
  show am_G _ M_X10_readsPart _ 10 [some (.ref 0), some (.int (nI 63))] [.int (nI 0)] σ
  refine am_if (ty := 13) (tn := 22) rfl (by decide) rfl rfl (fun (h_8 : nI 0 = 0) => ?_) (fun (h_8 : ¬ (nI 0 = 0)) => ?_)
  rotate_left
  · exact absurd (by decide) h_8
  refine am_run 1 (pc' := 14) (ls' := [some (.ref 0), some (.int (nI 63))]) (st' := [.int (nI 63)]) (σ' := σ) rfl ?_
  refine am_invs (y := 156) (as := [.int (nI 63)]) (rest := []) rfl rfl rfl rfl rfl rfl (Nat.le_of_ble_eq_true rfl) ?_
  refine am_enter' rfl rfl rfl (by omega) (ls := [some (.int (nI 63))]) rfl (fun d_9 hd_9 => ?_)
  refine am_run 2 (pc' := 3) (ls' := [some (.int (nI 63))]) (st' := [.int (nI 63), .int (nI 63)]) (σ' := σ) rfl ?_
  refine am_ic (ty := 36) (tn := 6) rfl (by decide) rfl rfl (fun (h_10 : nI 63 = nI 63) => ?_) (fun (h_10 : ¬ (nI 63 = nI 63)) => ?_)
  rotate_left
  · exact absurd (by decide) h_10
  refine am_run 2 (pc' := 41) (ls' := [some (.int (nI 63))]) (st' := [.int (nI 1)]) (σ' := σ) rfl ?_
  refine am_retz rfl rfl (by decide) ?_
  show am_G _ M_X10_readsPart _ 17 [some (.ref 0), some (.int (nI 63))] [.int (nI 1)] σ
  refine am_if (ty := 20) (tn := 22) rfl (by decide) rfl rfl (fun (h_11 : nI 1 = 0) => ?_) (fun (h_11 : ¬ (nI 1 = 0)) => ?_)
  · exact absurd h_11 (by decide)
  refine am_run 2 (pc' := 25) (ls' := [some (.ref 0), some (.int (nI 63))]) (st' := [.int (nI 40), .int (nI 63)]) (σ' := σ) rfl ?_
  refine am_ic (ty := 28) (tn := 48) rfl (by decide) rfl rfl (fun (h_12 : nI 63 = nI 40) => ?_) (fun (h_12 : ¬ (nI 63 = nI 40)) => ?_)
  · exact absurd h_12 (by decide)
  refine am_run 2 (pc' := 50) (ls' := [some (.ref 0), some (.int (nI 63))]) (st' := [.int (nI 63), .ref 0]) (σ' := σ) rfl ?_
  refine am_invv (y := 160) (b := 0) (as := [.int (nI 63)]) (rest := []) rfl rfl rfl rfl rfl rfl rfl (Nat.le_of_ble_eq_true rfl) ?_
  refine c_m_isFull_63 (by omega) a3 a5 a4 a6 (fun hx => ?_) (fun hx => ?_)
  · show am_G _ M_X10_readsPart _ 53 [some (.ref 0), some (.int (nI 63))] [.int (nI 1)] σ
    refine am_if (ty := 58) (tn := 56) rfl (by decide) rfl rfl (fun (h_13 : nI 1 = 0) => ?_) (fun (h_13 : ¬ (nI 1 = 0)) => ?_)
    · exact absurd h_13 (by decide)
    refine am_run 1 (pc' := 57) (ls' := [some (.ref 0), some (.int (nI 63))]) (st' := [.int (nI 3)]) (σ' := σ) rfl ?_
    refine am_reti rfl rfl ?_
    exact h3 (by omega)
  · show am_G _ M_X10_readsPart _ 53 [some (.ref 0), some (.int (nI 63))] [.int (nI 0)] σ
    refine am_if (ty := 58) (tn := 56) rfl (by decide) rfl rfl (fun (h_14 : nI 0 = 0) => ?_) (fun (h_14 : ¬ (nI 0 = 0)) => ?_)
    rotate_left
    · exact absurd (by decide) h_14
    refine am_run 2 (pc' := 61) (ls' := [some (.ref 0), some (.int (nI 63))]) (st' := [.int (nI 36), .int (nI 63)]) (σ' := σ) rfl ?_
    refine am_ic (ty := 64) (tn := 74) rfl (by decide) rfl rfl (fun (h_15 : nI 63 = nI 36) => ?_) (fun (h_15 : ¬ (nI 63 = nI 36)) => ?_)
    · exact absurd h_15 (by decide)
    refine am_run 3 (pc' := 77) (ls' := [some (.ref 0), some (.int (nI 63))]) (st' := [.int (nI 63), .ref 0, .ref 0]) (σ' := σ) rfl ?_
    refine am_invv (y := 159) (b := 0) (as := [.int (nI 63)]) (rest := [.ref 0]) rfl rfl rfl rfl rfl rfl rfl (Nat.le_of_ble_eq_true rfl) ?_
    refine nn_63 (by omega) h (by omega) (fun σ' hB hF hN h0 h20 => ?_)
    have b7 : σ'.1 0 35 = nI e := by rw [h0]; exact a7
    have hq := hq hx σ' hB hF hN h0 h20
    show am_G _ M_X10_readsPart _ 80 [some (.ref 0), some (.int (nI 63))] [.int (nI n), .ref 0] σ'
    refine am_run 3 (pc' := 86) (ls' := [some (.ref 0), some (.int (nI 63))]) (st' := [.int (nI 48), .int (nI 63)]) (σ' := (am_wr σ' 0 23 (nI n))) rfl ?_
    refine am_ic (ty := 95) (tn := 89) rfl (by decide) rfl rfl (fun (h_16 : nI 63 = nI 48) => ?_) (fun (h_16 : ¬ (nI 63 = nI 48)) => ?_)
    · exact absurd h_16 (by decide)
    refine am_run 2 (pc' := 92) (ls' := [some (.ref 0), some (.int (nI 63))]) (st' := [.int (nI 46), .int (nI 63)]) (σ' := (am_wr σ' 0 23 (nI n))) rfl ?_
    refine am_ic (ty := 95) (tn := 114) rfl (by decide) rfl rfl (fun (h_17 : nI 63 = nI 46) => ?_) (fun (h_17 : ¬ (nI 63 = nI 46)) => ?_)
    · exact absurd h_17 (by decide)
    refine am_run 2 (pc' := 116) (ls' := [some (.ref 0), some (.int (nI 63))]) (st' := [.int (nI 63), .ref 0]) (σ' := (am_wr σ' 0 23 (nI n))) rfl ?_
    refine am_invs (y := 157) (as := [.int (nI 63)]) (rest := [.ref 0]) rfl rfl rfl rfl rfl rfl (Nat.le_of_ble_eq_true rfl) ?_
    refine am_enter' rfl rfl rfl (by omega) (ls := [some (.int (nI 63))]) rfl (fun d_18 hd_18 => ?_)
    refine am_run 2 (pc' := 3) (ls' := [some (.int (nI 63))]) (st' := [.int (nI 33), .int (nI 63)]) (σ' := (am_wr σ' 0 23 (nI n))) rfl ?_
    refine am_ic (ty := 36) (tn := 6) rfl (by decide) rfl rfl (fun (h_19 : nI 63 = nI 33) => ?_) (fun (h_19 : ¬ (nI 63 = nI 33)) => ?_)
    · exact absurd h_19 (by decide)
    refine am_run 2 (pc' := 9) (ls' := [some (.int (nI 63))]) (st' := [.int (nI 38), .int (nI 63)]) (σ' := (am_wr σ' 0 23 (nI n))) rfl ?_
    refine am_ic (ty := 36) (tn := 12) rfl (by decide) rfl rfl (fun (h_20 : nI 63 = nI 38) => ?_) (fun (h_20 : ¬ (nI 63 = nI 38)) => ?_)
    · exact absurd h_20 (by decide)
    refine am_run 2 (pc' := 15) (ls' := [some (.int (nI 63))]) (st' := [.int (nI 63), .int (nI 63)]) (σ' := (am_wr σ' 0 23 (nI n))) rfl ?_
    refine am_ic (ty := 36) (tn := 18) rfl (by decide) rfl rfl (fun (h_21 : nI 63 = nI 63) => ?_) (fun (h_21 : ¬ (nI 63 = nI 63)) => ?_)
    rotate_left
    · exact absurd (by decide) h_21
    refine am_run 2 (pc' := 41) (ls' := [some (.int (nI 63))]) (st' := [.int (nI 1)]) (σ' := (am_wr σ' 0 23 (nI n))) rfl ?_
    refine am_retz rfl rfl (by decide) ?_
    show am_G _ M_X10_readsPart _ 119 [some (.ref 0), some (.int (nI 63))] [.int (nI 1), .ref 0] (am_wr σ' 0 23 (nI n))
    refine am_if (ty := 126) (tn := 122) rfl (by decide) rfl rfl (fun (h_22 : nI 1 = 0) => ?_) (fun (h_22 : ¬ (nI 1 = 0)) => ?_)
    · exact absurd h_22 (by decide)
    refine am_run 4 (pc' := 141) (ls' := [some (.ref 0), some (.int (nI 63))]) (st' := [.int (nI 0)]) (σ' := (am_wr (am_wr σ' 0 23 (nI n)) 0 22 (nI 1))) rfl ?_
    refine am_reti rfl rfl ?_
    exact hq
set_option maxRecDepth 10000 in
set_option maxHeartbeats 2000000 in
theorem rp_42 {d : Nat} (hd : 6 ≤ d) {σ : am_M} {L pos n kk e lev tr nw : Nat} {tx O : Nat → Nat} (h : RB σ L tx pos n kk e lev tr nw O) {Q : am_Q} (h3 : 60 ≤ n → Q (some (.int (nI 3))) σ) (hq : ¬ (60 ≤ n) → ∀ σ', RB σ' L tx pos (n + 1) (kk) e lev tr nw O → RF σ σ' n e lev nw → NW σ' n 42 nw kk O → σ'.1 0 = σ.1 0 → (∀ c', 20 ≤ c' → c' ≤ 27 → σ'.1 c' = σ.1 c') → Q (some (.int (nI 0))) (am_wr (am_wr σ' 0 23 (nI n)) 0 22 (nI 2))) : am_C d 167 [.ref 0, .int (nI 42)] σ Q := by
  obtain ⟨⟨t1, t2, t3⟩, a1, a2, a3, a4, a5, a6, a7, a8, a9, a10, a11, a12, a13, a14⟩ := id h
  refine am_enter' (M := M_X10_readsPart) rfl rfl rfl (by omega) (ls := [some (.ref 0), some (.int (nI 42))]) rfl (fun d' hd' => ?_)
  refine am_run 2 (pc' := 3) (ls' := [some (.ref 0), some (.int (nI 42))]) (st' := [.int (nI 40), .int (nI 42)]) (σ' := σ) rfl ?_
  refine am_ic (ty := 22) (tn := 6) rfl (by decide) rfl rfl (fun (h_1 : nI 42 = nI 40) => ?_) (fun (h_1 : ¬ (nI 42 = nI 40)) => ?_)
  · exact absurd h_1 (by decide)
  refine am_run 1 (pc' := 7) (ls' := [some (.ref 0), some (.int (nI 42))]) (st' := [.int (nI 42)]) (σ' := σ) rfl ?_
  refine am_invs (y := 155) (as := [.int (nI 42)]) (rest := []) rfl rfl rfl rfl rfl rfl (Nat.le_of_ble_eq_true rfl) ?_
  refine am_enter' rfl rfl rfl (by omega) (ls := [some (.int (nI 42))]) rfl (fun d_2 hd_2 => ?_)
  refine am_run 2 (pc' := 3) (ls' := [some (.int (nI 42))]) (st' := [.int (nI 48), .int (nI 42)]) (σ' := σ) rfl ?_
  refine am_ic (ty := 30) (tn := 6) rfl (by decide) rfl rfl (fun (h_3 : nI 42 = nI 48) => ?_) (fun (h_3 : ¬ (nI 42 = nI 48)) => ?_)
  · exact absurd h_3 (by decide)
  refine am_run 2 (pc' := 9) (ls' := [some (.int (nI 42))]) (st' := [.int (nI 46), .int (nI 42)]) (σ' := σ) rfl ?_
  refine am_ic (ty := 30) (tn := 12) rfl (by decide) rfl rfl (fun (h_4 : nI 42 = nI 46) => ?_) (fun (h_4 : ¬ (nI 42 = nI 46)) => ?_)
  · exact absurd h_4 (by decide)
  refine am_run 2 (pc' := 15) (ls' := [some (.int (nI 42))]) (st' := [.int (nI 33), .int (nI 42)]) (σ' := σ) rfl ?_
  refine am_ic (ty := 30) (tn := 18) rfl (by decide) rfl rfl (fun (h_5 : nI 42 = nI 33) => ?_) (fun (h_5 : ¬ (nI 42 = nI 33)) => ?_)
  · exact absurd h_5 (by decide)
  refine am_run 2 (pc' := 21) (ls' := [some (.int (nI 42))]) (st' := [.int (nI 38), .int (nI 42)]) (σ' := σ) rfl ?_
  refine am_ic (ty := 30) (tn := 24) rfl (by decide) rfl rfl (fun (h_6 : nI 42 = nI 38) => ?_) (fun (h_6 : ¬ (nI 42 = nI 38)) => ?_)
  · exact absurd h_6 (by decide)
  refine am_run 2 (pc' := 27) (ls' := [some (.int (nI 42))]) (st' := [.int (nI 120), .int (nI 42)]) (σ' := σ) rfl ?_
  refine am_ic (ty := 30) (tn := 34) rfl (by decide) rfl rfl (fun (h_7 : nI 42 = nI 120) => ?_) (fun (h_7 : ¬ (nI 42 = nI 120)) => ?_)
  · exact absurd h_7 (by decide)
  refine am_run 1 (pc' := 35) (ls' := [some (.int (nI 42))]) (st' := [.int (nI 0)]) (σ' := σ) rfl ?_
  refine am_retz rfl rfl (by decide) ?_
  show am_G _ M_X10_readsPart _ 10 [some (.ref 0), some (.int (nI 42))] [.int (nI 0)] σ
  refine am_if (ty := 13) (tn := 22) rfl (by decide) rfl rfl (fun (h_8 : nI 0 = 0) => ?_) (fun (h_8 : ¬ (nI 0 = 0)) => ?_)
  rotate_left
  · exact absurd (by decide) h_8
  refine am_run 1 (pc' := 14) (ls' := [some (.ref 0), some (.int (nI 42))]) (st' := [.int (nI 42)]) (σ' := σ) rfl ?_
  refine am_invs (y := 156) (as := [.int (nI 42)]) (rest := []) rfl rfl rfl rfl rfl rfl (Nat.le_of_ble_eq_true rfl) ?_
  refine am_enter' rfl rfl rfl (by omega) (ls := [some (.int (nI 42))]) rfl (fun d_9 hd_9 => ?_)
  refine am_run 2 (pc' := 3) (ls' := [some (.int (nI 42))]) (st' := [.int (nI 63), .int (nI 42)]) (σ' := σ) rfl ?_
  refine am_ic (ty := 36) (tn := 6) rfl (by decide) rfl rfl (fun (h_10 : nI 42 = nI 63) => ?_) (fun (h_10 : ¬ (nI 42 = nI 63)) => ?_)
  · exact absurd h_10 (by decide)
  refine am_run 2 (pc' := 9) (ls' := [some (.int (nI 42))]) (st' := [.int (nI 42), .int (nI 42)]) (σ' := σ) rfl ?_
  refine am_ic (ty := 36) (tn := 12) rfl (by decide) rfl rfl (fun (h_11 : nI 42 = nI 42) => ?_) (fun (h_11 : ¬ (nI 42 = nI 42)) => ?_)
  rotate_left
  · exact absurd (by decide) h_11
  refine am_run 2 (pc' := 41) (ls' := [some (.int (nI 42))]) (st' := [.int (nI 1)]) (σ' := σ) rfl ?_
  refine am_retz rfl rfl (by decide) ?_
  show am_G _ M_X10_readsPart _ 17 [some (.ref 0), some (.int (nI 42))] [.int (nI 1)] σ
  refine am_if (ty := 20) (tn := 22) rfl (by decide) rfl rfl (fun (h_12 : nI 1 = 0) => ?_) (fun (h_12 : ¬ (nI 1 = 0)) => ?_)
  · exact absurd h_12 (by decide)
  refine am_run 2 (pc' := 25) (ls' := [some (.ref 0), some (.int (nI 42))]) (st' := [.int (nI 40), .int (nI 42)]) (σ' := σ) rfl ?_
  refine am_ic (ty := 28) (tn := 48) rfl (by decide) rfl rfl (fun (h_13 : nI 42 = nI 40) => ?_) (fun (h_13 : ¬ (nI 42 = nI 40)) => ?_)
  · exact absurd h_13 (by decide)
  refine am_run 2 (pc' := 50) (ls' := [some (.ref 0), some (.int (nI 42))]) (st' := [.int (nI 42), .ref 0]) (σ' := σ) rfl ?_
  refine am_invv (y := 160) (b := 0) (as := [.int (nI 42)]) (rest := []) rfl rfl rfl rfl rfl rfl rfl (Nat.le_of_ble_eq_true rfl) ?_
  refine c_m_isFull_42 (by omega) a3 a5 a4 a6 (fun hx => ?_) (fun hx => ?_)
  · show am_G _ M_X10_readsPart _ 53 [some (.ref 0), some (.int (nI 42))] [.int (nI 1)] σ
    refine am_if (ty := 58) (tn := 56) rfl (by decide) rfl rfl (fun (h_14 : nI 1 = 0) => ?_) (fun (h_14 : ¬ (nI 1 = 0)) => ?_)
    · exact absurd h_14 (by decide)
    refine am_run 1 (pc' := 57) (ls' := [some (.ref 0), some (.int (nI 42))]) (st' := [.int (nI 3)]) (σ' := σ) rfl ?_
    refine am_reti rfl rfl ?_
    exact h3 (by omega)
  · show am_G _ M_X10_readsPart _ 53 [some (.ref 0), some (.int (nI 42))] [.int (nI 0)] σ
    refine am_if (ty := 58) (tn := 56) rfl (by decide) rfl rfl (fun (h_15 : nI 0 = 0) => ?_) (fun (h_15 : ¬ (nI 0 = 0)) => ?_)
    rotate_left
    · exact absurd (by decide) h_15
    refine am_run 2 (pc' := 61) (ls' := [some (.ref 0), some (.int (nI 42))]) (st' := [.int (nI 36), .int (nI 42)]) (σ' := σ) rfl ?_
    refine am_ic (ty := 64) (tn := 74) rfl (by decide) rfl rfl (fun (h_16 : nI 42 = nI 36) => ?_) (fun (h_16 : ¬ (nI 42 = nI 36)) => ?_)
    · exact absurd h_16 (by decide)
    refine am_run 3 (pc' := 77) (ls' := [some (.ref 0), some (.int (nI 42))]) (st' := [.int (nI 42), .ref 0, .ref 0]) (σ' := σ) rfl ?_
    refine am_invv (y := 159) (b := 0) (as := [.int (nI 42)]) (rest := [.ref 0]) rfl rfl rfl rfl rfl rfl rfl (Nat.le_of_ble_eq_true rfl) ?_
    refine nn_42 (by omega) h (by omega) (fun σ' hB hF hN h0 h20 => ?_)
    have b7 : σ'.1 0 35 = nI e := by rw [h0]; exact a7
    have hq := hq hx σ' hB hF hN h0 h20
    show am_G _ M_X10_readsPart _ 80 [some (.ref 0), some (.int (nI 42))] [.int (nI n), .ref 0] σ'
    refine am_run 3 (pc' := 86) (ls' := [some (.ref 0), some (.int (nI 42))]) (st' := [.int (nI 48), .int (nI 42)]) (σ' := (am_wr σ' 0 23 (nI n))) rfl ?_
    refine am_ic (ty := 95) (tn := 89) rfl (by decide) rfl rfl (fun (h_17 : nI 42 = nI 48) => ?_) (fun (h_17 : ¬ (nI 42 = nI 48)) => ?_)
    · exact absurd h_17 (by decide)
    refine am_run 2 (pc' := 92) (ls' := [some (.ref 0), some (.int (nI 42))]) (st' := [.int (nI 46), .int (nI 42)]) (σ' := (am_wr σ' 0 23 (nI n))) rfl ?_
    refine am_ic (ty := 95) (tn := 114) rfl (by decide) rfl rfl (fun (h_18 : nI 42 = nI 46) => ?_) (fun (h_18 : ¬ (nI 42 = nI 46)) => ?_)
    · exact absurd h_18 (by decide)
    refine am_run 2 (pc' := 116) (ls' := [some (.ref 0), some (.int (nI 42))]) (st' := [.int (nI 42), .ref 0]) (σ' := (am_wr σ' 0 23 (nI n))) rfl ?_
    refine am_invs (y := 157) (as := [.int (nI 42)]) (rest := [.ref 0]) rfl rfl rfl rfl rfl rfl (Nat.le_of_ble_eq_true rfl) ?_
    refine am_enter' rfl rfl rfl (by omega) (ls := [some (.int (nI 42))]) rfl (fun d_19 hd_19 => ?_)
    refine am_run 2 (pc' := 3) (ls' := [some (.int (nI 42))]) (st' := [.int (nI 33), .int (nI 42)]) (σ' := (am_wr σ' 0 23 (nI n))) rfl ?_
    refine am_ic (ty := 36) (tn := 6) rfl (by decide) rfl rfl (fun (h_20 : nI 42 = nI 33) => ?_) (fun (h_20 : ¬ (nI 42 = nI 33)) => ?_)
    · exact absurd h_20 (by decide)
    refine am_run 2 (pc' := 9) (ls' := [some (.int (nI 42))]) (st' := [.int (nI 38), .int (nI 42)]) (σ' := (am_wr σ' 0 23 (nI n))) rfl ?_
    refine am_ic (ty := 36) (tn := 12) rfl (by decide) rfl rfl (fun (h_21 : nI 42 = nI 38) => ?_) (fun (h_21 : ¬ (nI 42 = nI 38)) => ?_)
    · exact absurd h_21 (by decide)
    refine am_run 2 (pc' := 15) (ls' := [some (.int (nI 42))]) (st' := [.int (nI 63), .int (nI 42)]) (σ' := (am_wr σ' 0 23 (nI n))) rfl ?_
    refine am_ic (ty := 36) (tn := 18) rfl (by decide) rfl rfl (fun (h_22 : nI 42 = nI 63) => ?_) (fun (h_22 : ¬ (nI 42 = nI 63)) => ?_)
    · exact absurd h_22 (by decide)
    refine am_run 2 (pc' := 21) (ls' := [some (.int (nI 42))]) (st' := [.int (nI 64), .int (nI 42)]) (σ' := (am_wr σ' 0 23 (nI n))) rfl ?_
    refine am_ic (ty := 36) (tn := 24) rfl (by decide) rfl rfl (fun (h_23 : nI 42 = nI 64) => ?_) (fun (h_23 : ¬ (nI 42 = nI 64)) => ?_)
    · exact absurd h_23 (by decide)
    refine am_run 2 (pc' := 27) (ls' := [some (.int (nI 42))]) (st' := [.int (nI 126), .int (nI 42)]) (σ' := (am_wr σ' 0 23 (nI n))) rfl ?_
    refine am_ic (ty := 36) (tn := 30) rfl (by decide) rfl rfl (fun (h_24 : nI 42 = nI 126) => ?_) (fun (h_24 : ¬ (nI 42 = nI 126)) => ?_)
    · exact absurd h_24 (by decide)
    refine am_run 2 (pc' := 33) (ls' := [some (.int (nI 42))]) (st' := [.int (nI 36), .int (nI 42)]) (σ' := (am_wr σ' 0 23 (nI n))) rfl ?_
    refine am_ic (ty := 36) (tn := 40) rfl (by decide) rfl rfl (fun (h_25 : nI 42 = nI 36) => ?_) (fun (h_25 : ¬ (nI 42 = nI 36)) => ?_)
    · exact absurd h_25 (by decide)
    refine am_run 1 (pc' := 41) (ls' := [some (.int (nI 42))]) (st' := [.int (nI 0)]) (σ' := (am_wr σ' 0 23 (nI n))) rfl ?_
    refine am_retz rfl rfl (by decide) ?_
    show am_G _ M_X10_readsPart _ 119 [some (.ref 0), some (.int (nI 42))] [.int (nI 0), .ref 0] (am_wr σ' 0 23 (nI n))
    refine am_if (ty := 126) (tn := 122) rfl (by decide) rfl rfl (fun (h_26 : nI 0 = 0) => ?_) (fun (h_26 : ¬ (nI 0 = 0)) => ?_)
    rotate_left
    · exact absurd (by decide) h_26
    refine am_run 2 (pc' := 129) (ls' := [some (.ref 0), some (.int (nI 42))]) (st' := [.int (nI 120), .int (nI 42), .ref 0]) (σ' := (am_wr σ' 0 23 (nI n))) rfl ?_
    refine am_ic (ty := 132) (tn := 136) rfl (by decide) rfl rfl (fun (h_27 : nI 42 = nI 120) => ?_) (fun (h_27 : ¬ (nI 42 = nI 120)) => ?_)
    · exact absurd h_27 (by decide)
    refine am_run 3 (pc' := 141) (ls' := [some (.ref 0), some (.int (nI 42))]) (st' := [.int (nI 0)]) (σ' := (am_wr (am_wr σ' 0 23 (nI n)) 0 22 (nI 2))) rfl ?_
    refine am_reti rfl rfl ?_
    exact hq
set_option maxRecDepth 10000 in
set_option maxHeartbeats 2000000 in
theorem rp_94 {d : Nat} (hd : 6 ≤ d) {σ : am_M} {L pos n kk e lev tr nw : Nat} {tx O : Nat → Nat} (h : RB σ L tx pos n kk e lev tr nw O) {Q : am_Q} (h3 : 60 ≤ n → Q (some (.int (nI 3))) σ) (hq : ¬ (60 ≤ n) → ∀ σ', RB σ' L tx pos (n + 1) (kk) e lev tr nw O → RF σ σ' n e lev nw → NW σ' n 94 nw kk O → σ'.1 0 = σ.1 0 → (∀ c', 20 ≤ c' → c' ≤ 27 → σ'.1 c' = σ.1 c') → Q (some (.int (nI 0))) (am_wr (am_wr σ' 0 23 (nI n)) 0 22 (nI 2))) : am_C d 167 [.ref 0, .int (nI 94)] σ Q := by
  obtain ⟨⟨t1, t2, t3⟩, a1, a2, a3, a4, a5, a6, a7, a8, a9, a10, a11, a12, a13, a14⟩ := id h
  refine am_enter' (M := M_X10_readsPart) rfl rfl rfl (by omega) (ls := [some (.ref 0), some (.int (nI 94))]) rfl (fun d' hd' => ?_)
  refine am_run 2 (pc' := 3) (ls' := [some (.ref 0), some (.int (nI 94))]) (st' := [.int (nI 40), .int (nI 94)]) (σ' := σ) rfl ?_
  refine am_ic (ty := 22) (tn := 6) rfl (by decide) rfl rfl (fun (h_1 : nI 94 = nI 40) => ?_) (fun (h_1 : ¬ (nI 94 = nI 40)) => ?_)
  · exact absurd h_1 (by decide)
  refine am_run 1 (pc' := 7) (ls' := [some (.ref 0), some (.int (nI 94))]) (st' := [.int (nI 94)]) (σ' := σ) rfl ?_
  refine am_invs (y := 155) (as := [.int (nI 94)]) (rest := []) rfl rfl rfl rfl rfl rfl (Nat.le_of_ble_eq_true rfl) ?_
  refine am_enter' rfl rfl rfl (by omega) (ls := [some (.int (nI 94))]) rfl (fun d_2 hd_2 => ?_)
  refine am_run 2 (pc' := 3) (ls' := [some (.int (nI 94))]) (st' := [.int (nI 48), .int (nI 94)]) (σ' := σ) rfl ?_
  refine am_ic (ty := 30) (tn := 6) rfl (by decide) rfl rfl (fun (h_3 : nI 94 = nI 48) => ?_) (fun (h_3 : ¬ (nI 94 = nI 48)) => ?_)
  · exact absurd h_3 (by decide)
  refine am_run 2 (pc' := 9) (ls' := [some (.int (nI 94))]) (st' := [.int (nI 46), .int (nI 94)]) (σ' := σ) rfl ?_
  refine am_ic (ty := 30) (tn := 12) rfl (by decide) rfl rfl (fun (h_4 : nI 94 = nI 46) => ?_) (fun (h_4 : ¬ (nI 94 = nI 46)) => ?_)
  · exact absurd h_4 (by decide)
  refine am_run 2 (pc' := 15) (ls' := [some (.int (nI 94))]) (st' := [.int (nI 33), .int (nI 94)]) (σ' := σ) rfl ?_
  refine am_ic (ty := 30) (tn := 18) rfl (by decide) rfl rfl (fun (h_5 : nI 94 = nI 33) => ?_) (fun (h_5 : ¬ (nI 94 = nI 33)) => ?_)
  · exact absurd h_5 (by decide)
  refine am_run 2 (pc' := 21) (ls' := [some (.int (nI 94))]) (st' := [.int (nI 38), .int (nI 94)]) (σ' := σ) rfl ?_
  refine am_ic (ty := 30) (tn := 24) rfl (by decide) rfl rfl (fun (h_6 : nI 94 = nI 38) => ?_) (fun (h_6 : ¬ (nI 94 = nI 38)) => ?_)
  · exact absurd h_6 (by decide)
  refine am_run 2 (pc' := 27) (ls' := [some (.int (nI 94))]) (st' := [.int (nI 120), .int (nI 94)]) (σ' := σ) rfl ?_
  refine am_ic (ty := 30) (tn := 34) rfl (by decide) rfl rfl (fun (h_7 : nI 94 = nI 120) => ?_) (fun (h_7 : ¬ (nI 94 = nI 120)) => ?_)
  · exact absurd h_7 (by decide)
  refine am_run 1 (pc' := 35) (ls' := [some (.int (nI 94))]) (st' := [.int (nI 0)]) (σ' := σ) rfl ?_
  refine am_retz rfl rfl (by decide) ?_
  show am_G _ M_X10_readsPart _ 10 [some (.ref 0), some (.int (nI 94))] [.int (nI 0)] σ
  refine am_if (ty := 13) (tn := 22) rfl (by decide) rfl rfl (fun (h_8 : nI 0 = 0) => ?_) (fun (h_8 : ¬ (nI 0 = 0)) => ?_)
  rotate_left
  · exact absurd (by decide) h_8
  refine am_run 1 (pc' := 14) (ls' := [some (.ref 0), some (.int (nI 94))]) (st' := [.int (nI 94)]) (σ' := σ) rfl ?_
  refine am_invs (y := 156) (as := [.int (nI 94)]) (rest := []) rfl rfl rfl rfl rfl rfl (Nat.le_of_ble_eq_true rfl) ?_
  refine am_enter' rfl rfl rfl (by omega) (ls := [some (.int (nI 94))]) rfl (fun d_9 hd_9 => ?_)
  refine am_run 2 (pc' := 3) (ls' := [some (.int (nI 94))]) (st' := [.int (nI 63), .int (nI 94)]) (σ' := σ) rfl ?_
  refine am_ic (ty := 36) (tn := 6) rfl (by decide) rfl rfl (fun (h_10 : nI 94 = nI 63) => ?_) (fun (h_10 : ¬ (nI 94 = nI 63)) => ?_)
  · exact absurd h_10 (by decide)
  refine am_run 2 (pc' := 9) (ls' := [some (.int (nI 94))]) (st' := [.int (nI 42), .int (nI 94)]) (σ' := σ) rfl ?_
  refine am_ic (ty := 36) (tn := 12) rfl (by decide) rfl rfl (fun (h_11 : nI 94 = nI 42) => ?_) (fun (h_11 : ¬ (nI 94 = nI 42)) => ?_)
  · exact absurd h_11 (by decide)
  refine am_run 2 (pc' := 15) (ls' := [some (.int (nI 94))]) (st' := [.int (nI 94), .int (nI 94)]) (σ' := σ) rfl ?_
  refine am_ic (ty := 36) (tn := 18) rfl (by decide) rfl rfl (fun (h_12 : nI 94 = nI 94) => ?_) (fun (h_12 : ¬ (nI 94 = nI 94)) => ?_)
  rotate_left
  · exact absurd (by decide) h_12
  refine am_run 2 (pc' := 41) (ls' := [some (.int (nI 94))]) (st' := [.int (nI 1)]) (σ' := σ) rfl ?_
  refine am_retz rfl rfl (by decide) ?_
  show am_G _ M_X10_readsPart _ 17 [some (.ref 0), some (.int (nI 94))] [.int (nI 1)] σ
  refine am_if (ty := 20) (tn := 22) rfl (by decide) rfl rfl (fun (h_13 : nI 1 = 0) => ?_) (fun (h_13 : ¬ (nI 1 = 0)) => ?_)
  · exact absurd h_13 (by decide)
  refine am_run 2 (pc' := 25) (ls' := [some (.ref 0), some (.int (nI 94))]) (st' := [.int (nI 40), .int (nI 94)]) (σ' := σ) rfl ?_
  refine am_ic (ty := 28) (tn := 48) rfl (by decide) rfl rfl (fun (h_14 : nI 94 = nI 40) => ?_) (fun (h_14 : ¬ (nI 94 = nI 40)) => ?_)
  · exact absurd h_14 (by decide)
  refine am_run 2 (pc' := 50) (ls' := [some (.ref 0), some (.int (nI 94))]) (st' := [.int (nI 94), .ref 0]) (σ' := σ) rfl ?_
  refine am_invv (y := 160) (b := 0) (as := [.int (nI 94)]) (rest := []) rfl rfl rfl rfl rfl rfl rfl (Nat.le_of_ble_eq_true rfl) ?_
  refine c_m_isFull_94 (by omega) a3 a5 a4 a6 (fun hx => ?_) (fun hx => ?_)
  · show am_G _ M_X10_readsPart _ 53 [some (.ref 0), some (.int (nI 94))] [.int (nI 1)] σ
    refine am_if (ty := 58) (tn := 56) rfl (by decide) rfl rfl (fun (h_15 : nI 1 = 0) => ?_) (fun (h_15 : ¬ (nI 1 = 0)) => ?_)
    · exact absurd h_15 (by decide)
    refine am_run 1 (pc' := 57) (ls' := [some (.ref 0), some (.int (nI 94))]) (st' := [.int (nI 3)]) (σ' := σ) rfl ?_
    refine am_reti rfl rfl ?_
    exact h3 (by omega)
  · show am_G _ M_X10_readsPart _ 53 [some (.ref 0), some (.int (nI 94))] [.int (nI 0)] σ
    refine am_if (ty := 58) (tn := 56) rfl (by decide) rfl rfl (fun (h_16 : nI 0 = 0) => ?_) (fun (h_16 : ¬ (nI 0 = 0)) => ?_)
    rotate_left
    · exact absurd (by decide) h_16
    refine am_run 2 (pc' := 61) (ls' := [some (.ref 0), some (.int (nI 94))]) (st' := [.int (nI 36), .int (nI 94)]) (σ' := σ) rfl ?_
    refine am_ic (ty := 64) (tn := 74) rfl (by decide) rfl rfl (fun (h_17 : nI 94 = nI 36) => ?_) (fun (h_17 : ¬ (nI 94 = nI 36)) => ?_)
    · exact absurd h_17 (by decide)
    refine am_run 3 (pc' := 77) (ls' := [some (.ref 0), some (.int (nI 94))]) (st' := [.int (nI 94), .ref 0, .ref 0]) (σ' := σ) rfl ?_
    refine am_invv (y := 159) (b := 0) (as := [.int (nI 94)]) (rest := [.ref 0]) rfl rfl rfl rfl rfl rfl rfl (Nat.le_of_ble_eq_true rfl) ?_
    refine nn_94 (by omega) h (by omega) (fun σ' hB hF hN h0 h20 => ?_)
    have b7 : σ'.1 0 35 = nI e := by rw [h0]; exact a7
    have hq := hq hx σ' hB hF hN h0 h20
    show am_G _ M_X10_readsPart _ 80 [some (.ref 0), some (.int (nI 94))] [.int (nI n), .ref 0] σ'
    refine am_run 3 (pc' := 86) (ls' := [some (.ref 0), some (.int (nI 94))]) (st' := [.int (nI 48), .int (nI 94)]) (σ' := (am_wr σ' 0 23 (nI n))) rfl ?_
    refine am_ic (ty := 95) (tn := 89) rfl (by decide) rfl rfl (fun (h_18 : nI 94 = nI 48) => ?_) (fun (h_18 : ¬ (nI 94 = nI 48)) => ?_)
    · exact absurd h_18 (by decide)
    refine am_run 2 (pc' := 92) (ls' := [some (.ref 0), some (.int (nI 94))]) (st' := [.int (nI 46), .int (nI 94)]) (σ' := (am_wr σ' 0 23 (nI n))) rfl ?_
    refine am_ic (ty := 95) (tn := 114) rfl (by decide) rfl rfl (fun (h_19 : nI 94 = nI 46) => ?_) (fun (h_19 : ¬ (nI 94 = nI 46)) => ?_)
    · exact absurd h_19 (by decide)
    refine am_run 2 (pc' := 116) (ls' := [some (.ref 0), some (.int (nI 94))]) (st' := [.int (nI 94), .ref 0]) (σ' := (am_wr σ' 0 23 (nI n))) rfl ?_
    refine am_invs (y := 157) (as := [.int (nI 94)]) (rest := [.ref 0]) rfl rfl rfl rfl rfl rfl (Nat.le_of_ble_eq_true rfl) ?_
    refine am_enter' rfl rfl rfl (by omega) (ls := [some (.int (nI 94))]) rfl (fun d_20 hd_20 => ?_)
    refine am_run 2 (pc' := 3) (ls' := [some (.int (nI 94))]) (st' := [.int (nI 33), .int (nI 94)]) (σ' := (am_wr σ' 0 23 (nI n))) rfl ?_
    refine am_ic (ty := 36) (tn := 6) rfl (by decide) rfl rfl (fun (h_21 : nI 94 = nI 33) => ?_) (fun (h_21 : ¬ (nI 94 = nI 33)) => ?_)
    · exact absurd h_21 (by decide)
    refine am_run 2 (pc' := 9) (ls' := [some (.int (nI 94))]) (st' := [.int (nI 38), .int (nI 94)]) (σ' := (am_wr σ' 0 23 (nI n))) rfl ?_
    refine am_ic (ty := 36) (tn := 12) rfl (by decide) rfl rfl (fun (h_22 : nI 94 = nI 38) => ?_) (fun (h_22 : ¬ (nI 94 = nI 38)) => ?_)
    · exact absurd h_22 (by decide)
    refine am_run 2 (pc' := 15) (ls' := [some (.int (nI 94))]) (st' := [.int (nI 63), .int (nI 94)]) (σ' := (am_wr σ' 0 23 (nI n))) rfl ?_
    refine am_ic (ty := 36) (tn := 18) rfl (by decide) rfl rfl (fun (h_23 : nI 94 = nI 63) => ?_) (fun (h_23 : ¬ (nI 94 = nI 63)) => ?_)
    · exact absurd h_23 (by decide)
    refine am_run 2 (pc' := 21) (ls' := [some (.int (nI 94))]) (st' := [.int (nI 64), .int (nI 94)]) (σ' := (am_wr σ' 0 23 (nI n))) rfl ?_
    refine am_ic (ty := 36) (tn := 24) rfl (by decide) rfl rfl (fun (h_24 : nI 94 = nI 64) => ?_) (fun (h_24 : ¬ (nI 94 = nI 64)) => ?_)
    · exact absurd h_24 (by decide)
    refine am_run 2 (pc' := 27) (ls' := [some (.int (nI 94))]) (st' := [.int (nI 126), .int (nI 94)]) (σ' := (am_wr σ' 0 23 (nI n))) rfl ?_
    refine am_ic (ty := 36) (tn := 30) rfl (by decide) rfl rfl (fun (h_25 : nI 94 = nI 126) => ?_) (fun (h_25 : ¬ (nI 94 = nI 126)) => ?_)
    · exact absurd h_25 (by decide)
    refine am_run 2 (pc' := 33) (ls' := [some (.int (nI 94))]) (st' := [.int (nI 36), .int (nI 94)]) (σ' := (am_wr σ' 0 23 (nI n))) rfl ?_
    refine am_ic (ty := 36) (tn := 40) rfl (by decide) rfl rfl (fun (h_26 : nI 94 = nI 36) => ?_) (fun (h_26 : ¬ (nI 94 = nI 36)) => ?_)
    · exact absurd h_26 (by decide)
    refine am_run 1 (pc' := 41) (ls' := [some (.int (nI 94))]) (st' := [.int (nI 0)]) (σ' := (am_wr σ' 0 23 (nI n))) rfl ?_
    refine am_retz rfl rfl (by decide) ?_
    show am_G _ M_X10_readsPart _ 119 [some (.ref 0), some (.int (nI 94))] [.int (nI 0), .ref 0] (am_wr σ' 0 23 (nI n))
    refine am_if (ty := 126) (tn := 122) rfl (by decide) rfl rfl (fun (h_27 : nI 0 = 0) => ?_) (fun (h_27 : ¬ (nI 0 = 0)) => ?_)
    rotate_left
    · exact absurd (by decide) h_27
    refine am_run 2 (pc' := 129) (ls' := [some (.ref 0), some (.int (nI 94))]) (st' := [.int (nI 120), .int (nI 94), .ref 0]) (σ' := (am_wr σ' 0 23 (nI n))) rfl ?_
    refine am_ic (ty := 132) (tn := 136) rfl (by decide) rfl rfl (fun (h_28 : nI 94 = nI 120) => ?_) (fun (h_28 : ¬ (nI 94 = nI 120)) => ?_)
    · exact absurd h_28 (by decide)
    refine am_run 3 (pc' := 141) (ls' := [some (.ref 0), some (.int (nI 94))]) (st' := [.int (nI 0)]) (σ' := (am_wr (am_wr σ' 0 23 (nI n)) 0 22 (nI 2))) rfl ?_
    refine am_reti rfl rfl ?_
    exact hq
set_option maxRecDepth 10000 in
set_option maxHeartbeats 2000000 in
theorem rp_64 {d : Nat} (hd : 6 ≤ d) {σ : am_M} {L pos n kk e lev tr nw : Nat} {tx O : Nat → Nat} (h : RB σ L tx pos n kk e lev tr nw O) {Q : am_Q} (h3 : 60 ≤ n → Q (some (.int (nI 3))) σ) (hq : ¬ (60 ≤ n) → ∀ σ', RB σ' L tx pos (n + 1) (kk) e lev tr nw O → RF σ σ' n e lev nw → NW σ' n 64 nw kk O → σ'.1 0 = σ.1 0 → (∀ c', 20 ≤ c' → c' ≤ 27 → σ'.1 c' = σ.1 c') → Q (some (.int (nI 0))) (am_wr (am_wr σ' 0 23 (nI n)) 0 22 (nI 1))) : am_C d 167 [.ref 0, .int (nI 64)] σ Q := by
  obtain ⟨⟨t1, t2, t3⟩, a1, a2, a3, a4, a5, a6, a7, a8, a9, a10, a11, a12, a13, a14⟩ := id h
  refine am_enter' (M := M_X10_readsPart) rfl rfl rfl (by omega) (ls := [some (.ref 0), some (.int (nI 64))]) rfl (fun d' hd' => ?_)
  refine am_run 2 (pc' := 3) (ls' := [some (.ref 0), some (.int (nI 64))]) (st' := [.int (nI 40), .int (nI 64)]) (σ' := σ) rfl ?_
  refine am_ic (ty := 22) (tn := 6) rfl (by decide) rfl rfl (fun (h_1 : nI 64 = nI 40) => ?_) (fun (h_1 : ¬ (nI 64 = nI 40)) => ?_)
  · exact absurd h_1 (by decide)
  refine am_run 1 (pc' := 7) (ls' := [some (.ref 0), some (.int (nI 64))]) (st' := [.int (nI 64)]) (σ' := σ) rfl ?_
  refine am_invs (y := 155) (as := [.int (nI 64)]) (rest := []) rfl rfl rfl rfl rfl rfl (Nat.le_of_ble_eq_true rfl) ?_
  refine am_enter' rfl rfl rfl (by omega) (ls := [some (.int (nI 64))]) rfl (fun d_2 hd_2 => ?_)
  refine am_run 2 (pc' := 3) (ls' := [some (.int (nI 64))]) (st' := [.int (nI 48), .int (nI 64)]) (σ' := σ) rfl ?_
  refine am_ic (ty := 30) (tn := 6) rfl (by decide) rfl rfl (fun (h_3 : nI 64 = nI 48) => ?_) (fun (h_3 : ¬ (nI 64 = nI 48)) => ?_)
  · exact absurd h_3 (by decide)
  refine am_run 2 (pc' := 9) (ls' := [some (.int (nI 64))]) (st' := [.int (nI 46), .int (nI 64)]) (σ' := σ) rfl ?_
  refine am_ic (ty := 30) (tn := 12) rfl (by decide) rfl rfl (fun (h_4 : nI 64 = nI 46) => ?_) (fun (h_4 : ¬ (nI 64 = nI 46)) => ?_)
  · exact absurd h_4 (by decide)
  refine am_run 2 (pc' := 15) (ls' := [some (.int (nI 64))]) (st' := [.int (nI 33), .int (nI 64)]) (σ' := σ) rfl ?_
  refine am_ic (ty := 30) (tn := 18) rfl (by decide) rfl rfl (fun (h_5 : nI 64 = nI 33) => ?_) (fun (h_5 : ¬ (nI 64 = nI 33)) => ?_)
  · exact absurd h_5 (by decide)
  refine am_run 2 (pc' := 21) (ls' := [some (.int (nI 64))]) (st' := [.int (nI 38), .int (nI 64)]) (σ' := σ) rfl ?_
  refine am_ic (ty := 30) (tn := 24) rfl (by decide) rfl rfl (fun (h_6 : nI 64 = nI 38) => ?_) (fun (h_6 : ¬ (nI 64 = nI 38)) => ?_)
  · exact absurd h_6 (by decide)
  refine am_run 2 (pc' := 27) (ls' := [some (.int (nI 64))]) (st' := [.int (nI 120), .int (nI 64)]) (σ' := σ) rfl ?_
  refine am_ic (ty := 30) (tn := 34) rfl (by decide) rfl rfl (fun (h_7 : nI 64 = nI 120) => ?_) (fun (h_7 : ¬ (nI 64 = nI 120)) => ?_)
  · exact absurd h_7 (by decide)
  refine am_run 1 (pc' := 35) (ls' := [some (.int (nI 64))]) (st' := [.int (nI 0)]) (σ' := σ) rfl ?_
  refine am_retz rfl rfl (by decide) ?_
  show am_G _ M_X10_readsPart _ 10 [some (.ref 0), some (.int (nI 64))] [.int (nI 0)] σ
  refine am_if (ty := 13) (tn := 22) rfl (by decide) rfl rfl (fun (h_8 : nI 0 = 0) => ?_) (fun (h_8 : ¬ (nI 0 = 0)) => ?_)
  rotate_left
  · exact absurd (by decide) h_8
  refine am_run 1 (pc' := 14) (ls' := [some (.ref 0), some (.int (nI 64))]) (st' := [.int (nI 64)]) (σ' := σ) rfl ?_
  refine am_invs (y := 156) (as := [.int (nI 64)]) (rest := []) rfl rfl rfl rfl rfl rfl (Nat.le_of_ble_eq_true rfl) ?_
  refine am_enter' rfl rfl rfl (by omega) (ls := [some (.int (nI 64))]) rfl (fun d_9 hd_9 => ?_)
  refine am_run 2 (pc' := 3) (ls' := [some (.int (nI 64))]) (st' := [.int (nI 63), .int (nI 64)]) (σ' := σ) rfl ?_
  refine am_ic (ty := 36) (tn := 6) rfl (by decide) rfl rfl (fun (h_10 : nI 64 = nI 63) => ?_) (fun (h_10 : ¬ (nI 64 = nI 63)) => ?_)
  · exact absurd h_10 (by decide)
  refine am_run 2 (pc' := 9) (ls' := [some (.int (nI 64))]) (st' := [.int (nI 42), .int (nI 64)]) (σ' := σ) rfl ?_
  refine am_ic (ty := 36) (tn := 12) rfl (by decide) rfl rfl (fun (h_11 : nI 64 = nI 42) => ?_) (fun (h_11 : ¬ (nI 64 = nI 42)) => ?_)
  · exact absurd h_11 (by decide)
  refine am_run 2 (pc' := 15) (ls' := [some (.int (nI 64))]) (st' := [.int (nI 94), .int (nI 64)]) (σ' := σ) rfl ?_
  refine am_ic (ty := 36) (tn := 18) rfl (by decide) rfl rfl (fun (h_12 : nI 64 = nI 94) => ?_) (fun (h_12 : ¬ (nI 64 = nI 94)) => ?_)
  · exact absurd h_12 (by decide)
  refine am_run 2 (pc' := 21) (ls' := [some (.int (nI 64))]) (st' := [.int (nI 64), .int (nI 64)]) (σ' := σ) rfl ?_
  refine am_ic (ty := 36) (tn := 24) rfl (by decide) rfl rfl (fun (h_13 : nI 64 = nI 64) => ?_) (fun (h_13 : ¬ (nI 64 = nI 64)) => ?_)
  rotate_left
  · exact absurd (by decide) h_13
  refine am_run 2 (pc' := 41) (ls' := [some (.int (nI 64))]) (st' := [.int (nI 1)]) (σ' := σ) rfl ?_
  refine am_retz rfl rfl (by decide) ?_
  show am_G _ M_X10_readsPart _ 17 [some (.ref 0), some (.int (nI 64))] [.int (nI 1)] σ
  refine am_if (ty := 20) (tn := 22) rfl (by decide) rfl rfl (fun (h_14 : nI 1 = 0) => ?_) (fun (h_14 : ¬ (nI 1 = 0)) => ?_)
  · exact absurd h_14 (by decide)
  refine am_run 2 (pc' := 25) (ls' := [some (.ref 0), some (.int (nI 64))]) (st' := [.int (nI 40), .int (nI 64)]) (σ' := σ) rfl ?_
  refine am_ic (ty := 28) (tn := 48) rfl (by decide) rfl rfl (fun (h_15 : nI 64 = nI 40) => ?_) (fun (h_15 : ¬ (nI 64 = nI 40)) => ?_)
  · exact absurd h_15 (by decide)
  refine am_run 2 (pc' := 50) (ls' := [some (.ref 0), some (.int (nI 64))]) (st' := [.int (nI 64), .ref 0]) (σ' := σ) rfl ?_
  refine am_invv (y := 160) (b := 0) (as := [.int (nI 64)]) (rest := []) rfl rfl rfl rfl rfl rfl rfl (Nat.le_of_ble_eq_true rfl) ?_
  refine c_m_isFull_64 (by omega) a3 a5 a4 a6 (fun hx => ?_) (fun hx => ?_)
  · show am_G _ M_X10_readsPart _ 53 [some (.ref 0), some (.int (nI 64))] [.int (nI 1)] σ
    refine am_if (ty := 58) (tn := 56) rfl (by decide) rfl rfl (fun (h_16 : nI 1 = 0) => ?_) (fun (h_16 : ¬ (nI 1 = 0)) => ?_)
    · exact absurd h_16 (by decide)
    refine am_run 1 (pc' := 57) (ls' := [some (.ref 0), some (.int (nI 64))]) (st' := [.int (nI 3)]) (σ' := σ) rfl ?_
    refine am_reti rfl rfl ?_
    exact h3 (by omega)
  · show am_G _ M_X10_readsPart _ 53 [some (.ref 0), some (.int (nI 64))] [.int (nI 0)] σ
    refine am_if (ty := 58) (tn := 56) rfl (by decide) rfl rfl (fun (h_17 : nI 0 = 0) => ?_) (fun (h_17 : ¬ (nI 0 = 0)) => ?_)
    rotate_left
    · exact absurd (by decide) h_17
    refine am_run 2 (pc' := 61) (ls' := [some (.ref 0), some (.int (nI 64))]) (st' := [.int (nI 36), .int (nI 64)]) (σ' := σ) rfl ?_
    refine am_ic (ty := 64) (tn := 74) rfl (by decide) rfl rfl (fun (h_18 : nI 64 = nI 36) => ?_) (fun (h_18 : ¬ (nI 64 = nI 36)) => ?_)
    · exact absurd h_18 (by decide)
    refine am_run 3 (pc' := 77) (ls' := [some (.ref 0), some (.int (nI 64))]) (st' := [.int (nI 64), .ref 0, .ref 0]) (σ' := σ) rfl ?_
    refine am_invv (y := 159) (b := 0) (as := [.int (nI 64)]) (rest := [.ref 0]) rfl rfl rfl rfl rfl rfl rfl (Nat.le_of_ble_eq_true rfl) ?_
    refine nn_64 (by omega) h (by omega) (fun σ' hB hF hN h0 h20 => ?_)
    have b7 : σ'.1 0 35 = nI e := by rw [h0]; exact a7
    have hq := hq hx σ' hB hF hN h0 h20
    show am_G _ M_X10_readsPart _ 80 [some (.ref 0), some (.int (nI 64))] [.int (nI n), .ref 0] σ'
    refine am_run 3 (pc' := 86) (ls' := [some (.ref 0), some (.int (nI 64))]) (st' := [.int (nI 48), .int (nI 64)]) (σ' := (am_wr σ' 0 23 (nI n))) rfl ?_
    refine am_ic (ty := 95) (tn := 89) rfl (by decide) rfl rfl (fun (h_19 : nI 64 = nI 48) => ?_) (fun (h_19 : ¬ (nI 64 = nI 48)) => ?_)
    · exact absurd h_19 (by decide)
    refine am_run 2 (pc' := 92) (ls' := [some (.ref 0), some (.int (nI 64))]) (st' := [.int (nI 46), .int (nI 64)]) (σ' := (am_wr σ' 0 23 (nI n))) rfl ?_
    refine am_ic (ty := 95) (tn := 114) rfl (by decide) rfl rfl (fun (h_20 : nI 64 = nI 46) => ?_) (fun (h_20 : ¬ (nI 64 = nI 46)) => ?_)
    · exact absurd h_20 (by decide)
    refine am_run 2 (pc' := 116) (ls' := [some (.ref 0), some (.int (nI 64))]) (st' := [.int (nI 64), .ref 0]) (σ' := (am_wr σ' 0 23 (nI n))) rfl ?_
    refine am_invs (y := 157) (as := [.int (nI 64)]) (rest := [.ref 0]) rfl rfl rfl rfl rfl rfl (Nat.le_of_ble_eq_true rfl) ?_
    refine am_enter' rfl rfl rfl (by omega) (ls := [some (.int (nI 64))]) rfl (fun d_21 hd_21 => ?_)
    refine am_run 2 (pc' := 3) (ls' := [some (.int (nI 64))]) (st' := [.int (nI 33), .int (nI 64)]) (σ' := (am_wr σ' 0 23 (nI n))) rfl ?_
    refine am_ic (ty := 36) (tn := 6) rfl (by decide) rfl rfl (fun (h_22 : nI 64 = nI 33) => ?_) (fun (h_22 : ¬ (nI 64 = nI 33)) => ?_)
    · exact absurd h_22 (by decide)
    refine am_run 2 (pc' := 9) (ls' := [some (.int (nI 64))]) (st' := [.int (nI 38), .int (nI 64)]) (σ' := (am_wr σ' 0 23 (nI n))) rfl ?_
    refine am_ic (ty := 36) (tn := 12) rfl (by decide) rfl rfl (fun (h_23 : nI 64 = nI 38) => ?_) (fun (h_23 : ¬ (nI 64 = nI 38)) => ?_)
    · exact absurd h_23 (by decide)
    refine am_run 2 (pc' := 15) (ls' := [some (.int (nI 64))]) (st' := [.int (nI 63), .int (nI 64)]) (σ' := (am_wr σ' 0 23 (nI n))) rfl ?_
    refine am_ic (ty := 36) (tn := 18) rfl (by decide) rfl rfl (fun (h_24 : nI 64 = nI 63) => ?_) (fun (h_24 : ¬ (nI 64 = nI 63)) => ?_)
    · exact absurd h_24 (by decide)
    refine am_run 2 (pc' := 21) (ls' := [some (.int (nI 64))]) (st' := [.int (nI 64), .int (nI 64)]) (σ' := (am_wr σ' 0 23 (nI n))) rfl ?_
    refine am_ic (ty := 36) (tn := 24) rfl (by decide) rfl rfl (fun (h_25 : nI 64 = nI 64) => ?_) (fun (h_25 : ¬ (nI 64 = nI 64)) => ?_)
    rotate_left
    · exact absurd (by decide) h_25
    refine am_run 2 (pc' := 41) (ls' := [some (.int (nI 64))]) (st' := [.int (nI 1)]) (σ' := (am_wr σ' 0 23 (nI n))) rfl ?_
    refine am_retz rfl rfl (by decide) ?_
    show am_G _ M_X10_readsPart _ 119 [some (.ref 0), some (.int (nI 64))] [.int (nI 1), .ref 0] (am_wr σ' 0 23 (nI n))
    refine am_if (ty := 126) (tn := 122) rfl (by decide) rfl rfl (fun (h_26 : nI 1 = 0) => ?_) (fun (h_26 : ¬ (nI 1 = 0)) => ?_)
    · exact absurd h_26 (by decide)
    refine am_run 4 (pc' := 141) (ls' := [some (.ref 0), some (.int (nI 64))]) (st' := [.int (nI 0)]) (σ' := (am_wr (am_wr σ' 0 23 (nI n)) 0 22 (nI 1))) rfl ?_
    refine am_reti rfl rfl ?_
    exact hq
set_option maxRecDepth 10000 in
set_option maxHeartbeats 2000000 in
theorem rp_126 {d : Nat} (hd : 6 ≤ d) {σ : am_M} {L pos n kk e lev tr nw : Nat} {tx O : Nat → Nat} (h : RB σ L tx pos n kk e lev tr nw O) {Q : am_Q} (h3 : 60 ≤ n → Q (some (.int (nI 3))) σ) (hq : ¬ (60 ≤ n) → ∀ σ', RB σ' L tx pos (n + 1) (kk) e lev tr nw O → RF σ σ' n e lev nw → NW σ' n 126 nw kk O → σ'.1 0 = σ.1 0 → (∀ c', 20 ≤ c' → c' ≤ 27 → σ'.1 c' = σ.1 c') → Q (some (.int (nI 0))) (am_wr (am_wr σ' 0 23 (nI n)) 0 22 (nI 1))) : am_C d 167 [.ref 0, .int (nI 126)] σ Q := by
  obtain ⟨⟨t1, t2, t3⟩, a1, a2, a3, a4, a5, a6, a7, a8, a9, a10, a11, a12, a13, a14⟩ := id h
  refine am_enter' (M := M_X10_readsPart) rfl rfl rfl (by omega) (ls := [some (.ref 0), some (.int (nI 126))]) rfl (fun d' hd' => ?_)
  refine am_run 2 (pc' := 3) (ls' := [some (.ref 0), some (.int (nI 126))]) (st' := [.int (nI 40), .int (nI 126)]) (σ' := σ) rfl ?_
  refine am_ic (ty := 22) (tn := 6) rfl (by decide) rfl rfl (fun (h_1 : nI 126 = nI 40) => ?_) (fun (h_1 : ¬ (nI 126 = nI 40)) => ?_)
  · exact absurd h_1 (by decide)
  refine am_run 1 (pc' := 7) (ls' := [some (.ref 0), some (.int (nI 126))]) (st' := [.int (nI 126)]) (σ' := σ) rfl ?_
  refine am_invs (y := 155) (as := [.int (nI 126)]) (rest := []) rfl rfl rfl rfl rfl rfl (Nat.le_of_ble_eq_true rfl) ?_
  refine am_enter' rfl rfl rfl (by omega) (ls := [some (.int (nI 126))]) rfl (fun d_2 hd_2 => ?_)
  refine am_run 2 (pc' := 3) (ls' := [some (.int (nI 126))]) (st' := [.int (nI 48), .int (nI 126)]) (σ' := σ) rfl ?_
  refine am_ic (ty := 30) (tn := 6) rfl (by decide) rfl rfl (fun (h_3 : nI 126 = nI 48) => ?_) (fun (h_3 : ¬ (nI 126 = nI 48)) => ?_)
  · exact absurd h_3 (by decide)
  refine am_run 2 (pc' := 9) (ls' := [some (.int (nI 126))]) (st' := [.int (nI 46), .int (nI 126)]) (σ' := σ) rfl ?_
  refine am_ic (ty := 30) (tn := 12) rfl (by decide) rfl rfl (fun (h_4 : nI 126 = nI 46) => ?_) (fun (h_4 : ¬ (nI 126 = nI 46)) => ?_)
  · exact absurd h_4 (by decide)
  refine am_run 2 (pc' := 15) (ls' := [some (.int (nI 126))]) (st' := [.int (nI 33), .int (nI 126)]) (σ' := σ) rfl ?_
  refine am_ic (ty := 30) (tn := 18) rfl (by decide) rfl rfl (fun (h_5 : nI 126 = nI 33) => ?_) (fun (h_5 : ¬ (nI 126 = nI 33)) => ?_)
  · exact absurd h_5 (by decide)
  refine am_run 2 (pc' := 21) (ls' := [some (.int (nI 126))]) (st' := [.int (nI 38), .int (nI 126)]) (σ' := σ) rfl ?_
  refine am_ic (ty := 30) (tn := 24) rfl (by decide) rfl rfl (fun (h_6 : nI 126 = nI 38) => ?_) (fun (h_6 : ¬ (nI 126 = nI 38)) => ?_)
  · exact absurd h_6 (by decide)
  refine am_run 2 (pc' := 27) (ls' := [some (.int (nI 126))]) (st' := [.int (nI 120), .int (nI 126)]) (σ' := σ) rfl ?_
  refine am_ic (ty := 30) (tn := 34) rfl (by decide) rfl rfl (fun (h_7 : nI 126 = nI 120) => ?_) (fun (h_7 : ¬ (nI 126 = nI 120)) => ?_)
  · exact absurd h_7 (by decide)
  refine am_run 1 (pc' := 35) (ls' := [some (.int (nI 126))]) (st' := [.int (nI 0)]) (σ' := σ) rfl ?_
  refine am_retz rfl rfl (by decide) ?_
  show am_G _ M_X10_readsPart _ 10 [some (.ref 0), some (.int (nI 126))] [.int (nI 0)] σ
  refine am_if (ty := 13) (tn := 22) rfl (by decide) rfl rfl (fun (h_8 : nI 0 = 0) => ?_) (fun (h_8 : ¬ (nI 0 = 0)) => ?_)
  rotate_left
  · exact absurd (by decide) h_8
  refine am_run 1 (pc' := 14) (ls' := [some (.ref 0), some (.int (nI 126))]) (st' := [.int (nI 126)]) (σ' := σ) rfl ?_
  refine am_invs (y := 156) (as := [.int (nI 126)]) (rest := []) rfl rfl rfl rfl rfl rfl (Nat.le_of_ble_eq_true rfl) ?_
  refine am_enter' rfl rfl rfl (by omega) (ls := [some (.int (nI 126))]) rfl (fun d_9 hd_9 => ?_)
  refine am_run 2 (pc' := 3) (ls' := [some (.int (nI 126))]) (st' := [.int (nI 63), .int (nI 126)]) (σ' := σ) rfl ?_
  refine am_ic (ty := 36) (tn := 6) rfl (by decide) rfl rfl (fun (h_10 : nI 126 = nI 63) => ?_) (fun (h_10 : ¬ (nI 126 = nI 63)) => ?_)
  · exact absurd h_10 (by decide)
  refine am_run 2 (pc' := 9) (ls' := [some (.int (nI 126))]) (st' := [.int (nI 42), .int (nI 126)]) (σ' := σ) rfl ?_
  refine am_ic (ty := 36) (tn := 12) rfl (by decide) rfl rfl (fun (h_11 : nI 126 = nI 42) => ?_) (fun (h_11 : ¬ (nI 126 = nI 42)) => ?_)
  · exact absurd h_11 (by decide)
  refine am_run 2 (pc' := 15) (ls' := [some (.int (nI 126))]) (st' := [.int (nI 94), .int (nI 126)]) (σ' := σ) rfl ?_
  refine am_ic (ty := 36) (tn := 18) rfl (by decide) rfl rfl (fun (h_12 : nI 126 = nI 94) => ?_) (fun (h_12 : ¬ (nI 126 = nI 94)) => ?_)
  · exact absurd h_12 (by decide)
  refine am_run 2 (pc' := 21) (ls' := [some (.int (nI 126))]) (st' := [.int (nI 64), .int (nI 126)]) (σ' := σ) rfl ?_
  refine am_ic (ty := 36) (tn := 24) rfl (by decide) rfl rfl (fun (h_13 : nI 126 = nI 64) => ?_) (fun (h_13 : ¬ (nI 126 = nI 64)) => ?_)
  · exact absurd h_13 (by decide)
  refine am_run 2 (pc' := 27) (ls' := [some (.int (nI 126))]) (st' := [.int (nI 126), .int (nI 126)]) (σ' := σ) rfl ?_
  refine am_ic (ty := 36) (tn := 30) rfl (by decide) rfl rfl (fun (h_14 : nI 126 = nI 126) => ?_) (fun (h_14 : ¬ (nI 126 = nI 126)) => ?_)
  rotate_left
  · exact absurd (by decide) h_14
  refine am_run 2 (pc' := 41) (ls' := [some (.int (nI 126))]) (st' := [.int (nI 1)]) (σ' := σ) rfl ?_
  refine am_retz rfl rfl (by decide) ?_
  show am_G _ M_X10_readsPart _ 17 [some (.ref 0), some (.int (nI 126))] [.int (nI 1)] σ
  refine am_if (ty := 20) (tn := 22) rfl (by decide) rfl rfl (fun (h_15 : nI 1 = 0) => ?_) (fun (h_15 : ¬ (nI 1 = 0)) => ?_)
  · exact absurd h_15 (by decide)
  refine am_run 2 (pc' := 25) (ls' := [some (.ref 0), some (.int (nI 126))]) (st' := [.int (nI 40), .int (nI 126)]) (σ' := σ) rfl ?_
  refine am_ic (ty := 28) (tn := 48) rfl (by decide) rfl rfl (fun (h_16 : nI 126 = nI 40) => ?_) (fun (h_16 : ¬ (nI 126 = nI 40)) => ?_)
  · exact absurd h_16 (by decide)
  refine am_run 2 (pc' := 50) (ls' := [some (.ref 0), some (.int (nI 126))]) (st' := [.int (nI 126), .ref 0]) (σ' := σ) rfl ?_
  refine am_invv (y := 160) (b := 0) (as := [.int (nI 126)]) (rest := []) rfl rfl rfl rfl rfl rfl rfl (Nat.le_of_ble_eq_true rfl) ?_
  refine c_m_isFull_126 (by omega) a3 a5 a4 a6 (fun hx => ?_) (fun hx => ?_)
  · show am_G _ M_X10_readsPart _ 53 [some (.ref 0), some (.int (nI 126))] [.int (nI 1)] σ
    refine am_if (ty := 58) (tn := 56) rfl (by decide) rfl rfl (fun (h_17 : nI 1 = 0) => ?_) (fun (h_17 : ¬ (nI 1 = 0)) => ?_)
    · exact absurd h_17 (by decide)
    refine am_run 1 (pc' := 57) (ls' := [some (.ref 0), some (.int (nI 126))]) (st' := [.int (nI 3)]) (σ' := σ) rfl ?_
    refine am_reti rfl rfl ?_
    exact h3 (by omega)
  · show am_G _ M_X10_readsPart _ 53 [some (.ref 0), some (.int (nI 126))] [.int (nI 0)] σ
    refine am_if (ty := 58) (tn := 56) rfl (by decide) rfl rfl (fun (h_18 : nI 0 = 0) => ?_) (fun (h_18 : ¬ (nI 0 = 0)) => ?_)
    rotate_left
    · exact absurd (by decide) h_18
    refine am_run 2 (pc' := 61) (ls' := [some (.ref 0), some (.int (nI 126))]) (st' := [.int (nI 36), .int (nI 126)]) (σ' := σ) rfl ?_
    refine am_ic (ty := 64) (tn := 74) rfl (by decide) rfl rfl (fun (h_19 : nI 126 = nI 36) => ?_) (fun (h_19 : ¬ (nI 126 = nI 36)) => ?_)
    · exact absurd h_19 (by decide)
    refine am_run 3 (pc' := 77) (ls' := [some (.ref 0), some (.int (nI 126))]) (st' := [.int (nI 126), .ref 0, .ref 0]) (σ' := σ) rfl ?_
    refine am_invv (y := 159) (b := 0) (as := [.int (nI 126)]) (rest := [.ref 0]) rfl rfl rfl rfl rfl rfl rfl (Nat.le_of_ble_eq_true rfl) ?_
    refine nn_126 (by omega) h (by omega) (fun σ' hB hF hN h0 h20 => ?_)
    have b7 : σ'.1 0 35 = nI e := by rw [h0]; exact a7
    have hq := hq hx σ' hB hF hN h0 h20
    show am_G _ M_X10_readsPart _ 80 [some (.ref 0), some (.int (nI 126))] [.int (nI n), .ref 0] σ'
    refine am_run 3 (pc' := 86) (ls' := [some (.ref 0), some (.int (nI 126))]) (st' := [.int (nI 48), .int (nI 126)]) (σ' := (am_wr σ' 0 23 (nI n))) rfl ?_
    refine am_ic (ty := 95) (tn := 89) rfl (by decide) rfl rfl (fun (h_20 : nI 126 = nI 48) => ?_) (fun (h_20 : ¬ (nI 126 = nI 48)) => ?_)
    · exact absurd h_20 (by decide)
    refine am_run 2 (pc' := 92) (ls' := [some (.ref 0), some (.int (nI 126))]) (st' := [.int (nI 46), .int (nI 126)]) (σ' := (am_wr σ' 0 23 (nI n))) rfl ?_
    refine am_ic (ty := 95) (tn := 114) rfl (by decide) rfl rfl (fun (h_21 : nI 126 = nI 46) => ?_) (fun (h_21 : ¬ (nI 126 = nI 46)) => ?_)
    · exact absurd h_21 (by decide)
    refine am_run 2 (pc' := 116) (ls' := [some (.ref 0), some (.int (nI 126))]) (st' := [.int (nI 126), .ref 0]) (σ' := (am_wr σ' 0 23 (nI n))) rfl ?_
    refine am_invs (y := 157) (as := [.int (nI 126)]) (rest := [.ref 0]) rfl rfl rfl rfl rfl rfl (Nat.le_of_ble_eq_true rfl) ?_
    refine am_enter' rfl rfl rfl (by omega) (ls := [some (.int (nI 126))]) rfl (fun d_22 hd_22 => ?_)
    refine am_run 2 (pc' := 3) (ls' := [some (.int (nI 126))]) (st' := [.int (nI 33), .int (nI 126)]) (σ' := (am_wr σ' 0 23 (nI n))) rfl ?_
    refine am_ic (ty := 36) (tn := 6) rfl (by decide) rfl rfl (fun (h_23 : nI 126 = nI 33) => ?_) (fun (h_23 : ¬ (nI 126 = nI 33)) => ?_)
    · exact absurd h_23 (by decide)
    refine am_run 2 (pc' := 9) (ls' := [some (.int (nI 126))]) (st' := [.int (nI 38), .int (nI 126)]) (σ' := (am_wr σ' 0 23 (nI n))) rfl ?_
    refine am_ic (ty := 36) (tn := 12) rfl (by decide) rfl rfl (fun (h_24 : nI 126 = nI 38) => ?_) (fun (h_24 : ¬ (nI 126 = nI 38)) => ?_)
    · exact absurd h_24 (by decide)
    refine am_run 2 (pc' := 15) (ls' := [some (.int (nI 126))]) (st' := [.int (nI 63), .int (nI 126)]) (σ' := (am_wr σ' 0 23 (nI n))) rfl ?_
    refine am_ic (ty := 36) (tn := 18) rfl (by decide) rfl rfl (fun (h_25 : nI 126 = nI 63) => ?_) (fun (h_25 : ¬ (nI 126 = nI 63)) => ?_)
    · exact absurd h_25 (by decide)
    refine am_run 2 (pc' := 21) (ls' := [some (.int (nI 126))]) (st' := [.int (nI 64), .int (nI 126)]) (σ' := (am_wr σ' 0 23 (nI n))) rfl ?_
    refine am_ic (ty := 36) (tn := 24) rfl (by decide) rfl rfl (fun (h_26 : nI 126 = nI 64) => ?_) (fun (h_26 : ¬ (nI 126 = nI 64)) => ?_)
    · exact absurd h_26 (by decide)
    refine am_run 2 (pc' := 27) (ls' := [some (.int (nI 126))]) (st' := [.int (nI 126), .int (nI 126)]) (σ' := (am_wr σ' 0 23 (nI n))) rfl ?_
    refine am_ic (ty := 36) (tn := 30) rfl (by decide) rfl rfl (fun (h_27 : nI 126 = nI 126) => ?_) (fun (h_27 : ¬ (nI 126 = nI 126)) => ?_)
    rotate_left
    · exact absurd (by decide) h_27
    refine am_run 2 (pc' := 41) (ls' := [some (.int (nI 126))]) (st' := [.int (nI 1)]) (σ' := (am_wr σ' 0 23 (nI n))) rfl ?_
    refine am_retz rfl rfl (by decide) ?_
    show am_G _ M_X10_readsPart _ 119 [some (.ref 0), some (.int (nI 126))] [.int (nI 1), .ref 0] (am_wr σ' 0 23 (nI n))
    refine am_if (ty := 126) (tn := 122) rfl (by decide) rfl rfl (fun (h_28 : nI 1 = 0) => ?_) (fun (h_28 : ¬ (nI 1 = 0)) => ?_)
    · exact absurd h_28 (by decide)
    refine am_run 4 (pc' := 141) (ls' := [some (.ref 0), some (.int (nI 126))]) (st' := [.int (nI 0)]) (σ' := (am_wr (am_wr σ' 0 23 (nI n)) 0 22 (nI 1))) rfl ?_
    refine am_reti rfl rfl ?_
    exact hq
set_option maxRecDepth 10000 in
set_option maxHeartbeats 2000000 in
theorem rp_36 {d : Nat} (hd : 6 ≤ d) {σ : am_M} {L pos n kk e lev tr nw : Nat} {tx O : Nat → Nat} (h : RB σ L tx pos n kk e lev tr nw O) {Q : am_Q} (h3 : 60 ≤ n → Q (some (.int (nI 3))) σ) (h4 : ¬ (60 ≤ n) → nw = 3 → Q (some (.int (nI 4))) σ) (hq : ¬ (60 ≤ n) → ¬ nw = 3 → ∀ σ', RB σ' L tx pos (n + 1) (kk) e lev tr nw O → RF σ σ' n e lev nw → NW σ' n 36 nw kk O → σ'.1 0 = σ.1 0 → (∀ c', 20 ≤ c' → c' ≤ 27 → σ'.1 c' = σ.1 c') → Q (some (.int (nI 0))) (am_wr (am_wr σ' 0 23 (nI n)) 0 22 (nI 1))) : am_C d 167 [.ref 0, .int (nI 36)] σ Q := by
  obtain ⟨⟨t1, t2, t3⟩, a1, a2, a3, a4, a5, a6, a7, a8, a9, a10, a11, a12, a13, a14⟩ := id h
  refine am_enter' (M := M_X10_readsPart) rfl rfl rfl (by omega) (ls := [some (.ref 0), some (.int (nI 36))]) rfl (fun d' hd' => ?_)
  refine am_run 2 (pc' := 3) (ls' := [some (.ref 0), some (.int (nI 36))]) (st' := [.int (nI 40), .int (nI 36)]) (σ' := σ) rfl ?_
  refine am_ic (ty := 22) (tn := 6) rfl (by decide) rfl rfl (fun (h_1 : nI 36 = nI 40) => ?_) (fun (h_1 : ¬ (nI 36 = nI 40)) => ?_)
  · exact absurd h_1 (by decide)
  refine am_run 1 (pc' := 7) (ls' := [some (.ref 0), some (.int (nI 36))]) (st' := [.int (nI 36)]) (σ' := σ) rfl ?_
  refine am_invs (y := 155) (as := [.int (nI 36)]) (rest := []) rfl rfl rfl rfl rfl rfl (Nat.le_of_ble_eq_true rfl) ?_
  refine am_enter' rfl rfl rfl (by omega) (ls := [some (.int (nI 36))]) rfl (fun d_2 hd_2 => ?_)
  refine am_run 2 (pc' := 3) (ls' := [some (.int (nI 36))]) (st' := [.int (nI 48), .int (nI 36)]) (σ' := σ) rfl ?_
  refine am_ic (ty := 30) (tn := 6) rfl (by decide) rfl rfl (fun (h_3 : nI 36 = nI 48) => ?_) (fun (h_3 : ¬ (nI 36 = nI 48)) => ?_)
  · exact absurd h_3 (by decide)
  refine am_run 2 (pc' := 9) (ls' := [some (.int (nI 36))]) (st' := [.int (nI 46), .int (nI 36)]) (σ' := σ) rfl ?_
  refine am_ic (ty := 30) (tn := 12) rfl (by decide) rfl rfl (fun (h_4 : nI 36 = nI 46) => ?_) (fun (h_4 : ¬ (nI 36 = nI 46)) => ?_)
  · exact absurd h_4 (by decide)
  refine am_run 2 (pc' := 15) (ls' := [some (.int (nI 36))]) (st' := [.int (nI 33), .int (nI 36)]) (σ' := σ) rfl ?_
  refine am_ic (ty := 30) (tn := 18) rfl (by decide) rfl rfl (fun (h_5 : nI 36 = nI 33) => ?_) (fun (h_5 : ¬ (nI 36 = nI 33)) => ?_)
  · exact absurd h_5 (by decide)
  refine am_run 2 (pc' := 21) (ls' := [some (.int (nI 36))]) (st' := [.int (nI 38), .int (nI 36)]) (σ' := σ) rfl ?_
  refine am_ic (ty := 30) (tn := 24) rfl (by decide) rfl rfl (fun (h_6 : nI 36 = nI 38) => ?_) (fun (h_6 : ¬ (nI 36 = nI 38)) => ?_)
  · exact absurd h_6 (by decide)
  refine am_run 2 (pc' := 27) (ls' := [some (.int (nI 36))]) (st' := [.int (nI 120), .int (nI 36)]) (σ' := σ) rfl ?_
  refine am_ic (ty := 30) (tn := 34) rfl (by decide) rfl rfl (fun (h_7 : nI 36 = nI 120) => ?_) (fun (h_7 : ¬ (nI 36 = nI 120)) => ?_)
  · exact absurd h_7 (by decide)
  refine am_run 1 (pc' := 35) (ls' := [some (.int (nI 36))]) (st' := [.int (nI 0)]) (σ' := σ) rfl ?_
  refine am_retz rfl rfl (by decide) ?_
  show am_G _ M_X10_readsPart _ 10 [some (.ref 0), some (.int (nI 36))] [.int (nI 0)] σ
  refine am_if (ty := 13) (tn := 22) rfl (by decide) rfl rfl (fun (h_8 : nI 0 = 0) => ?_) (fun (h_8 : ¬ (nI 0 = 0)) => ?_)
  rotate_left
  · exact absurd (by decide) h_8
  refine am_run 1 (pc' := 14) (ls' := [some (.ref 0), some (.int (nI 36))]) (st' := [.int (nI 36)]) (σ' := σ) rfl ?_
  refine am_invs (y := 156) (as := [.int (nI 36)]) (rest := []) rfl rfl rfl rfl rfl rfl (Nat.le_of_ble_eq_true rfl) ?_
  refine am_enter' rfl rfl rfl (by omega) (ls := [some (.int (nI 36))]) rfl (fun d_9 hd_9 => ?_)
  refine am_run 2 (pc' := 3) (ls' := [some (.int (nI 36))]) (st' := [.int (nI 63), .int (nI 36)]) (σ' := σ) rfl ?_
  refine am_ic (ty := 36) (tn := 6) rfl (by decide) rfl rfl (fun (h_10 : nI 36 = nI 63) => ?_) (fun (h_10 : ¬ (nI 36 = nI 63)) => ?_)
  · exact absurd h_10 (by decide)
  refine am_run 2 (pc' := 9) (ls' := [some (.int (nI 36))]) (st' := [.int (nI 42), .int (nI 36)]) (σ' := σ) rfl ?_
  refine am_ic (ty := 36) (tn := 12) rfl (by decide) rfl rfl (fun (h_11 : nI 36 = nI 42) => ?_) (fun (h_11 : ¬ (nI 36 = nI 42)) => ?_)
  · exact absurd h_11 (by decide)
  refine am_run 2 (pc' := 15) (ls' := [some (.int (nI 36))]) (st' := [.int (nI 94), .int (nI 36)]) (σ' := σ) rfl ?_
  refine am_ic (ty := 36) (tn := 18) rfl (by decide) rfl rfl (fun (h_12 : nI 36 = nI 94) => ?_) (fun (h_12 : ¬ (nI 36 = nI 94)) => ?_)
  · exact absurd h_12 (by decide)
  refine am_run 2 (pc' := 21) (ls' := [some (.int (nI 36))]) (st' := [.int (nI 64), .int (nI 36)]) (σ' := σ) rfl ?_
  refine am_ic (ty := 36) (tn := 24) rfl (by decide) rfl rfl (fun (h_13 : nI 36 = nI 64) => ?_) (fun (h_13 : ¬ (nI 36 = nI 64)) => ?_)
  · exact absurd h_13 (by decide)
  refine am_run 2 (pc' := 27) (ls' := [some (.int (nI 36))]) (st' := [.int (nI 126), .int (nI 36)]) (σ' := σ) rfl ?_
  refine am_ic (ty := 36) (tn := 30) rfl (by decide) rfl rfl (fun (h_14 : nI 36 = nI 126) => ?_) (fun (h_14 : ¬ (nI 36 = nI 126)) => ?_)
  · exact absurd h_14 (by decide)
  refine am_run 2 (pc' := 33) (ls' := [some (.int (nI 36))]) (st' := [.int (nI 36), .int (nI 36)]) (σ' := σ) rfl ?_
  refine am_ic (ty := 36) (tn := 40) rfl (by decide) rfl rfl (fun (h_15 : nI 36 = nI 36) => ?_) (fun (h_15 : ¬ (nI 36 = nI 36)) => ?_)
  rotate_left
  · exact absurd (by decide) h_15
  refine am_run 2 (pc' := 41) (ls' := [some (.int (nI 36))]) (st' := [.int (nI 1)]) (σ' := σ) rfl ?_
  refine am_retz rfl rfl (by decide) ?_
  show am_G _ M_X10_readsPart _ 17 [some (.ref 0), some (.int (nI 36))] [.int (nI 1)] σ
  refine am_if (ty := 20) (tn := 22) rfl (by decide) rfl rfl (fun (h_16 : nI 1 = 0) => ?_) (fun (h_16 : ¬ (nI 1 = 0)) => ?_)
  · exact absurd h_16 (by decide)
  refine am_run 2 (pc' := 25) (ls' := [some (.ref 0), some (.int (nI 36))]) (st' := [.int (nI 40), .int (nI 36)]) (σ' := σ) rfl ?_
  refine am_ic (ty := 28) (tn := 48) rfl (by decide) rfl rfl (fun (h_17 : nI 36 = nI 40) => ?_) (fun (h_17 : ¬ (nI 36 = nI 40)) => ?_)
  · exact absurd h_17 (by decide)
  refine am_run 2 (pc' := 50) (ls' := [some (.ref 0), some (.int (nI 36))]) (st' := [.int (nI 36), .ref 0]) (σ' := σ) rfl ?_
  refine am_invv (y := 160) (b := 0) (as := [.int (nI 36)]) (rest := []) rfl rfl rfl rfl rfl rfl rfl (Nat.le_of_ble_eq_true rfl) ?_
  refine c_m_isFull_36 (by omega) a3 a5 a4 a6 (fun hx => ?_) (fun hx => ?_)
  · show am_G _ M_X10_readsPart _ 53 [some (.ref 0), some (.int (nI 36))] [.int (nI 1)] σ
    refine am_if (ty := 58) (tn := 56) rfl (by decide) rfl rfl (fun (h_18 : nI 1 = 0) => ?_) (fun (h_18 : ¬ (nI 1 = 0)) => ?_)
    · exact absurd h_18 (by decide)
    refine am_run 1 (pc' := 57) (ls' := [some (.ref 0), some (.int (nI 36))]) (st' := [.int (nI 3)]) (σ' := σ) rfl ?_
    refine am_reti rfl rfl ?_
    exact h3 (by omega)
  · show am_G _ M_X10_readsPart _ 53 [some (.ref 0), some (.int (nI 36))] [.int (nI 0)] σ
    refine am_if (ty := 58) (tn := 56) rfl (by decide) rfl rfl (fun (h_19 : nI 0 = 0) => ?_) (fun (h_19 : ¬ (nI 0 = 0)) => ?_)
    rotate_left
    · exact absurd (by decide) h_19
    refine am_run 2 (pc' := 61) (ls' := [some (.ref 0), some (.int (nI 36))]) (st' := [.int (nI 36), .int (nI 36)]) (σ' := σ) rfl ?_
    refine am_ic (ty := 64) (tn := 74) rfl (by decide) rfl rfl (fun (h_20 : nI 36 = nI 36) => ?_) (fun (h_20 : ¬ (nI 36 = nI 36)) => ?_)
    rotate_left
    · exact absurd (by decide) h_20
    refine am_run 2 (pc' := 68) (ls' := [some (.ref 0), some (.int (nI 36))]) (st' := [.int (σ.1 0 33)]) (σ' := σ) rfl ?_
    refine am_top (v' := nI nw) a12 ?_
    refine am_run 1 (pc' := 69) (ls' := [some (.ref 0), some (.int (nI 36))]) (st' := [.int (nI 3), .int (nI nw)]) (σ' := σ) rfl ?_
    refine am_ic (ty := 72) (tn := 74) rfl (by decide) rfl rfl (fun (h_21 : nI nw = nI 3) => ?_) (fun (h_21 : ¬ (nI nw = nI 3)) => ?_)
    · have h_21 : nw = 3 := (nI_eq (by omega) (by omega)).mp h_21
      refine am_run 1 (pc' := 73) (ls' := [some (.ref 0), some (.int (nI 36))]) (st' := [.int (nI 4)]) (σ' := σ) rfl ?_
      refine am_reti rfl rfl ?_
      exact h4 (by omega) (by omega)
    · have h_21 : ¬ (nw = 3) := fun z => h_21 ((nI_eq (by omega) (by omega)).mpr z)
      refine am_run 3 (pc' := 77) (ls' := [some (.ref 0), some (.int (nI 36))]) (st' := [.int (nI 36), .ref 0, .ref 0]) (σ' := σ) rfl ?_
      refine am_invv (y := 159) (b := 0) (as := [.int (nI 36)]) (rest := [.ref 0]) rfl rfl rfl rfl rfl rfl rfl (Nat.le_of_ble_eq_true rfl) ?_
      refine nn_36 (by omega) h (by omega) (fun σ' hB hF hN h0 h20 => ?_)
      have b7 : σ'.1 0 35 = nI e := by rw [h0]; exact a7
      have hq := hq hx (by omega) σ' hB hF hN h0 h20
      show am_G _ M_X10_readsPart _ 80 [some (.ref 0), some (.int (nI 36))] [.int (nI n), .ref 0] σ'
      refine am_run 3 (pc' := 86) (ls' := [some (.ref 0), some (.int (nI 36))]) (st' := [.int (nI 48), .int (nI 36)]) (σ' := (am_wr σ' 0 23 (nI n))) rfl ?_
      refine am_ic (ty := 95) (tn := 89) rfl (by decide) rfl rfl (fun (h_22 : nI 36 = nI 48) => ?_) (fun (h_22 : ¬ (nI 36 = nI 48)) => ?_)
      · exact absurd h_22 (by decide)
      refine am_run 2 (pc' := 92) (ls' := [some (.ref 0), some (.int (nI 36))]) (st' := [.int (nI 46), .int (nI 36)]) (σ' := (am_wr σ' 0 23 (nI n))) rfl ?_
      refine am_ic (ty := 95) (tn := 114) rfl (by decide) rfl rfl (fun (h_23 : nI 36 = nI 46) => ?_) (fun (h_23 : ¬ (nI 36 = nI 46)) => ?_)
      · exact absurd h_23 (by decide)
      refine am_run 2 (pc' := 116) (ls' := [some (.ref 0), some (.int (nI 36))]) (st' := [.int (nI 36), .ref 0]) (σ' := (am_wr σ' 0 23 (nI n))) rfl ?_
      refine am_invs (y := 157) (as := [.int (nI 36)]) (rest := [.ref 0]) rfl rfl rfl rfl rfl rfl (Nat.le_of_ble_eq_true rfl) ?_
      refine am_enter' rfl rfl rfl (by omega) (ls := [some (.int (nI 36))]) rfl (fun d_24 hd_24 => ?_)
      refine am_run 2 (pc' := 3) (ls' := [some (.int (nI 36))]) (st' := [.int (nI 33), .int (nI 36)]) (σ' := (am_wr σ' 0 23 (nI n))) rfl ?_
      refine am_ic (ty := 36) (tn := 6) rfl (by decide) rfl rfl (fun (h_25 : nI 36 = nI 33) => ?_) (fun (h_25 : ¬ (nI 36 = nI 33)) => ?_)
      · exact absurd h_25 (by decide)
      refine am_run 2 (pc' := 9) (ls' := [some (.int (nI 36))]) (st' := [.int (nI 38), .int (nI 36)]) (σ' := (am_wr σ' 0 23 (nI n))) rfl ?_
      refine am_ic (ty := 36) (tn := 12) rfl (by decide) rfl rfl (fun (h_26 : nI 36 = nI 38) => ?_) (fun (h_26 : ¬ (nI 36 = nI 38)) => ?_)
      · exact absurd h_26 (by decide)
      refine am_run 2 (pc' := 15) (ls' := [some (.int (nI 36))]) (st' := [.int (nI 63), .int (nI 36)]) (σ' := (am_wr σ' 0 23 (nI n))) rfl ?_
      refine am_ic (ty := 36) (tn := 18) rfl (by decide) rfl rfl (fun (h_27 : nI 36 = nI 63) => ?_) (fun (h_27 : ¬ (nI 36 = nI 63)) => ?_)
      · exact absurd h_27 (by decide)
      refine am_run 2 (pc' := 21) (ls' := [some (.int (nI 36))]) (st' := [.int (nI 64), .int (nI 36)]) (σ' := (am_wr σ' 0 23 (nI n))) rfl ?_
      refine am_ic (ty := 36) (tn := 24) rfl (by decide) rfl rfl (fun (h_28 : nI 36 = nI 64) => ?_) (fun (h_28 : ¬ (nI 36 = nI 64)) => ?_)
      · exact absurd h_28 (by decide)
      refine am_run 2 (pc' := 27) (ls' := [some (.int (nI 36))]) (st' := [.int (nI 126), .int (nI 36)]) (σ' := (am_wr σ' 0 23 (nI n))) rfl ?_
      refine am_ic (ty := 36) (tn := 30) rfl (by decide) rfl rfl (fun (h_29 : nI 36 = nI 126) => ?_) (fun (h_29 : ¬ (nI 36 = nI 126)) => ?_)
      · exact absurd h_29 (by decide)
      refine am_run 2 (pc' := 33) (ls' := [some (.int (nI 36))]) (st' := [.int (nI 36), .int (nI 36)]) (σ' := (am_wr σ' 0 23 (nI n))) rfl ?_
      refine am_ic (ty := 36) (tn := 40) rfl (by decide) rfl rfl (fun (h_30 : nI 36 = nI 36) => ?_) (fun (h_30 : ¬ (nI 36 = nI 36)) => ?_)
      rotate_left
      · exact absurd (by decide) h_30
      refine am_run 2 (pc' := 41) (ls' := [some (.int (nI 36))]) (st' := [.int (nI 1)]) (σ' := (am_wr σ' 0 23 (nI n))) rfl ?_
      refine am_retz rfl rfl (by decide) ?_
      show am_G _ M_X10_readsPart _ 119 [some (.ref 0), some (.int (nI 36))] [.int (nI 1), .ref 0] (am_wr σ' 0 23 (nI n))
      refine am_if (ty := 126) (tn := 122) rfl (by decide) rfl rfl (fun (h_31 : nI 1 = 0) => ?_) (fun (h_31 : ¬ (nI 1 = 0)) => ?_)
      · exact absurd h_31 (by decide)
      refine am_run 4 (pc' := 141) (ls' := [some (.ref 0), some (.int (nI 36))]) (st' := [.int (nI 0)]) (σ' := (am_wr (am_wr σ' 0 23 (nI n)) 0 22 (nI 1))) rfl ?_
      refine am_reti rfl rfl ?_
      exact hq

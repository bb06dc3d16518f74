set_option maxRecDepth 10000 in
set_option maxHeartbeats 2000000 in
theorem c_m_ends {d : Nat} (hd : 2 ≤ d) {σ : am_M} {n e : Nat} (h35 : σ.1 0 35 = nI e) (he : e < 60) {Q : am_Q} (hq : Q none (am_wr (am_wr σ 9 (120 + e) (nI n)) 0 35 (nI (e + 1)))) : am_C d 161 [.ref 0, .int (nI n)] σ Q := by
  refine am_enter' (M := M_X10_ends) rfl rfl rfl (by omega) (ls := [some (.ref 0), some (.int (nI n))]) rfl (fun d' hd' => ?_)
  refine am_run 5 (pc' := 9) (ls' := [some (.ref 0), some (.int (nI n))]) (st' := [.int (σ.1 0 35), .int (nI 2), .ref 9]) (σ' := σ) rfl ?_
  refine am_top (v' := nI e) h35 ?_
  refine am_invs (y := 158) (as := [.int (nI 2), .int (nI e)]) (rest := [.ref 9]) rfl rfl rfl rfl rfl rfl (Nat.le_of_ble_eq_true rfl) ?_
  refine c_m_placeOf (by omega) (j := 2) ?_
  show am_G _ M_X10_ends _ 12 [some (.ref 0), some (.int (nI n))] [.int (nI (120 + e)), .ref 9] σ
  refine am_run 1 (pc' := 13) (ls' := [some (.ref 0), some (.int (nI n))]) (st' := [.int (nI n), .int (nI (120 + e)), .ref 9]) (σ' := σ) rfl ?_
  refine am_iastN (n := 180) rfl rfl rfl (by omega) (by decide) ?_
  refine am_run 3 (pc' := 19) (ls' := [some (.ref 0), some (.int (nI n))]) (st' := [.int (σ.1 0 35), .ref 0]) (σ' := (am_wr σ 9 (120 + e) (nI n))) rfl ?_
  refine am_top (v' := nI e) h35 ?_
  refine am_run 2 (pc' := 21) (ls' := [some (.ref 0), some (.int (nI n))]) (st' := [.int (nI e + nI 1), .ref 0]) (σ' := (am_wr σ 9 (120 + e) (nI n))) rfl ?_
  refine am_top (v' := nI (e + 1)) (nI_add _ _) ?_
  refine am_run 1 (pc' := 24) (ls' := [some (.ref 0), some (.int (nI n))]) (st' := []) (σ' := (am_wr (am_wr σ 9 (120 + e) (nI n)) 0 35 (nI (e + 1)))) rfl ?_
  refine am_retv rfl rfl ?_
  exact hq
set_option maxRecDepth 10000 in
set_option maxHeartbeats 2000000 in
theorem c_m_joins {d : Nat} (hd : 3 ≤ d) {σ : am_M} {k l r e : Nat} (h35 : σ.1 0 35 = nI e) (he : e < 60) (hk : k < 60) (hl : l < 60) (hr : r < 60) {Q : am_Q} (hq : Q none (am_wr (am_wr (am_wr (am_wr (am_wr (am_wr σ 7 (120 + k) (nI l)) 8 (120 + k) (nI r)) 15 (120 + l) (nI k)) 15 (120 + r) (nI k)) 9 (120 + e) (nI k)) 0 35 (nI (e + 1)))) : am_C d 162 [.ref 0, .int (nI k), .int (nI l), .int (nI r)] σ Q := by
  refine am_enter' (M := M_X10_joins) rfl rfl rfl (by omega) (ls := [some (.ref 0), some (.int (nI k)), some (.int (nI l)), some (.int (nI r))]) rfl (fun d' hd' => ?_)
  refine am_run 4 (pc' := 6) (ls' := [some (.ref 0), some (.int (nI k)), some (.int (nI l)), some (.int (nI r))]) (st' := [.int (nI k), .int (nI 2), .ref 7]) (σ' := σ) rfl ?_
  refine am_invs (y := 158) (as := [.int (nI 2), .int (nI k)]) (rest := [.ref 7]) rfl rfl rfl rfl rfl rfl (Nat.le_of_ble_eq_true rfl) ?_
  refine c_m_placeOf (by omega) (j := 2) ?_
  show am_G _ M_X10_joins _ 9 [some (.ref 0), some (.int (nI k)), some (.int (nI l)), some (.int (nI r))] [.int (nI (120 + k)), .ref 7] σ
  refine am_run 1 (pc' := 10) (ls' := [some (.ref 0), some (.int (nI k)), some (.int (nI l)), some (.int (nI r))]) (st' := [.int (nI l), .int (nI (120 + k)), .ref 7]) (σ' := σ) rfl ?_
  refine am_iastN (n := 180) rfl rfl rfl (by omega) (by decide) ?_
  refine am_run 4 (pc' := 17) (ls' := [some (.ref 0), some (.int (nI k)), some (.int (nI l)), some (.int (nI r))]) (st' := [.int (nI k), .int (nI 2), .ref 8]) (σ' := (am_wr σ 7 (120 + k) (nI l))) rfl ?_
  refine am_invs (y := 158) (as := [.int (nI 2), .int (nI k)]) (rest := [.ref 8]) rfl rfl rfl rfl rfl rfl (Nat.le_of_ble_eq_true rfl) ?_
  refine c_m_placeOf (by omega) (j := 2) ?_
  show am_G _ M_X10_joins _ 20 [some (.ref 0), some (.int (nI k)), some (.int (nI l)), some (.int (nI r))] [.int (nI (120 + k)), .ref 8] (am_wr σ 7 (120 + k) (nI l))
  refine am_run 1 (pc' := 21) (ls' := [some (.ref 0), some (.int (nI k)), some (.int (nI l)), some (.int (nI r))]) (st' := [.int (nI r), .int (nI (120 + k)), .ref 8]) (σ' := (am_wr σ 7 (120 + k) (nI l))) rfl ?_
  refine am_iastN (n := 180) rfl rfl rfl (by omega) (by decide) ?_
  refine am_run 4 (pc' := 28) (ls' := [some (.ref 0), some (.int (nI k)), some (.int (nI l)), some (.int (nI r))]) (st' := [.int (nI l), .int (nI 2), .ref 15]) (σ' := (am_wr (am_wr σ 7 (120 + k) (nI l)) 8 (120 + k) (nI r))) rfl ?_
  refine am_invs (y := 158) (as := [.int (nI 2), .int (nI l)]) (rest := [.ref 15]) rfl rfl rfl rfl rfl rfl (Nat.le_of_ble_eq_true rfl) ?_
  refine c_m_placeOf (by omega) (j := 2) ?_
  show am_G _ M_X10_joins _ 31 [some (.ref 0), some (.int (nI k)), some (.int (nI l)), some (.int (nI r))] [.int (nI (120 + l)), .ref 15] (am_wr (am_wr σ 7 (120 + k) (nI l)) 8 (120 + k) (nI r))
  refine am_run 1 (pc' := 32) (ls' := [some (.ref 0), some (.int (nI k)), some (.int (nI l)), some (.int (nI r))]) (st' := [.int (nI k), .int (nI (120 + l)), .ref 15]) (σ' := (am_wr (am_wr σ 7 (120 + k) (nI l)) 8 (120 + k) (nI r))) rfl ?_
  refine am_iastN (n := 180) rfl rfl rfl (by omega) (by decide) ?_
  refine am_run 4 (pc' := 39) (ls' := [some (.ref 0), some (.int (nI k)), some (.int (nI l)), some (.int (nI r))]) (st' := [.int (nI r), .int (nI 2), .ref 15]) (σ' := (am_wr (am_wr (am_wr σ 7 (120 + k) (nI l)) 8 (120 + k) (nI r)) 15 (120 + l) (nI k))) rfl ?_
  refine am_invs (y := 158) (as := [.int (nI 2), .int (nI r)]) (rest := [.ref 15]) rfl rfl rfl rfl rfl rfl (Nat.le_of_ble_eq_true rfl) ?_
  refine c_m_placeOf (by omega) (j := 2) ?_
  show am_G _ M_X10_joins _ 42 [some (.ref 0), some (.int (nI k)), some (.int (nI l)), some (.int (nI r))] [.int (nI (120 + r)), .ref 15] (am_wr (am_wr (am_wr σ 7 (120 + k) (nI l)) 8 (120 + k) (nI r)) 15 (120 + l) (nI k))
  refine am_run 1 (pc' := 43) (ls' := [some (.ref 0), some (.int (nI k)), some (.int (nI l)), some (.int (nI r))]) (st' := [.int (nI k), .int (nI (120 + r)), .ref 15]) (σ' := (am_wr (am_wr (am_wr σ 7 (120 + k) (nI l)) 8 (120 + k) (nI r)) 15 (120 + l) (nI k))) rfl ?_
  refine am_iastN (n := 180) rfl rfl rfl (by omega) (by decide) ?_
  refine am_run 2 (pc' := 46) (ls' := [some (.ref 0), some (.int (nI k)), some (.int (nI l)), some (.int (nI r))]) (st' := [.int (nI k), .ref 0]) (σ' := (am_wr (am_wr (am_wr (am_wr σ 7 (120 + k) (nI l)) 8 (120 + k) (nI r)) 15 (120 + l) (nI k)) 15 (120 + r) (nI k))) rfl ?_
  refine am_invv (y := 161) (b := 0) (as := [.int (nI k)]) (rest := []) rfl rfl rfl rfl rfl rfl rfl (Nat.le_of_ble_eq_true rfl) ?_
  refine c_m_ends (e := e) (by omega) (by rw [am_wr_ne _ (by omega), am_wr_ne _ (by omega), am_wr_ne _ (by omega), am_wr_ne _ (by omega)]; exact h35) he ?_
  show am_G _ M_X10_joins _ 49 [some (.ref 0), some (.int (nI k)), some (.int (nI l)), some (.int (nI r))] [] (am_wr (am_wr (am_wr (am_wr (am_wr (am_wr σ 7 (120 + k) (nI l)) 8 (120 + k) (nI r)) 15 (120 + l) (nI k)) 15 (120 + r) (nI k)) 9 (120 + e) (nI k)) 0 35 (nI (e + 1)))
  refine am_retv rfl rfl ?_
  exact hq
set_option maxRecDepth 10000 in
set_option maxHeartbeats 2000000 in
theorem c_m_endsPart0 {d : Nat} (hd : 4 ≤ d) {σ : am_M} {r lev : Nat} (h24 : σ.1 0 24 = nI lev) (hlev : lev ≤ 12) (hs : σ.1 26 lev = -1) {Q : am_Q} (hq : Q none (am_wr (am_wr σ 25 lev (nI r)) 0 22 (nI 4))) : am_C d 163 [.ref 0, .int (nI r)] σ Q := by
  refine am_enter' (M := M_X10_endsPart) rfl rfl rfl (by omega) (ls := [some (.ref 0), some (.int (nI r))]) rfl (fun d' hd' => ?_)
  refine am_run 4 (pc' := 8) (ls' := [some (.ref 0), some (.int (nI r))]) (st' := [.int (σ.1 0 24), .ref 26]) (σ' := σ) rfl ?_
  refine am_top (v' := nI lev) h24 ?_
  refine am_ialdN (n := 13) (v := -1) rfl rfl rfl (by omega) (hs) (by decide) ?_
  refine am_run 1 (pc' := 10) (ls' := [some (.ref 0), some (.int (nI r))]) (st' := [.int (-1), .int (-1)]) (σ' := σ) rfl ?_
  refine am_ic (ty := 67) (tn := 13) rfl (by decide) rfl rfl (fun (h_1 : -1 = -1) => ?_) (fun (h_1 : ¬ (-1 = -1)) => ?_)
  rotate_left
  · exact absurd (by decide) h_1
  refine am_run 4 (pc' := 75) (ls' := [some (.ref 0), some (.int (nI r))]) (st' := [.int (σ.1 0 24), .ref 25]) (σ' := σ) rfl ?_
  refine am_top (v' := nI lev) h24 ?_
  refine am_run 1 (pc' := 76) (ls' := [some (.ref 0), some (.int (nI r))]) (st' := [.int (nI r), .int (nI lev), .ref 25]) (σ' := σ) rfl ?_
  refine am_iastN (n := 13) rfl rfl rfl (by omega) (by decide) ?_
  refine am_run 3 (pc' := 82) (ls' := [some (.ref 0), some (.int (nI r))]) (st' := []) (σ' := (am_wr (am_wr σ 25 lev (nI r)) 0 22 (nI 4))) rfl ?_
  refine am_retv rfl rfl ?_
  exact hq
set_option maxRecDepth 10000 in
set_option maxHeartbeats 2000000 in
theorem c_m_endsPart1 {d : Nat} (hd : 4 ≤ d) {σ : am_M} {r lev k l e : Nat} (h24 : σ.1 0 24 = nI lev) (hlev : lev ≤ 12) (hs : σ.1 26 lev = nI k) (hw : σ.1 25 lev = nI l) (h35 : σ.1 0 35 = nI e) (he : e < 60) (hk : k < 60) (hl : l < 60) (hr : r < 60) {Q : am_Q} (hq : Q none (am_wr (am_wr (am_wr (am_wr (am_wr (am_wr (am_wr (am_wr (am_wr σ 7 (120 + k) (nI l)) 8 (120 + k) (nI r)) 15 (120 + l) (nI k)) 15 (120 + r) (nI k)) 9 (120 + e) (nI k)) 0 35 (nI (e + 1))) 25 lev (nI k)) 26 lev (-1)) 0 22 (nI 4))) : am_C d 163 [.ref 0, .int (nI r)] σ Q := by
  refine am_enter' (M := M_X10_endsPart) rfl rfl rfl (by omega) (ls := [some (.ref 0), some (.int (nI r))]) rfl (fun d' hd' => ?_)
  refine am_run 4 (pc' := 8) (ls' := [some (.ref 0), some (.int (nI r))]) (st' := [.int (σ.1 0 24), .ref 26]) (σ' := σ) rfl ?_
  refine am_top (v' := nI lev) h24 ?_
  refine am_ialdN (n := 13) (v := nI k) rfl rfl rfl (by omega) (hs) (by decide) ?_
  refine am_run 1 (pc' := 10) (ls' := [some (.ref 0), some (.int (nI r))]) (st' := [.int (-1), .int (nI k)]) (σ' := σ) rfl ?_
  refine am_ic (ty := 67) (tn := 13) rfl (by decide) rfl rfl (fun (h_1 : nI k = -1) => ?_) (fun (h_1 : ¬ (nI k = -1)) => ?_)
  · exact absurd h_1 (am_nm1 (by omega))
  refine am_run 5 (pc' := 22) (ls' := [some (.ref 0), some (.int (nI r))]) (st' := [.int (σ.1 0 24), .ref 26, .ref 0]) (σ' := σ) rfl ?_
  refine am_top (v' := nI lev) h24 ?_
  refine am_ialdN (n := 13) (v := nI k) rfl rfl rfl (by omega) (hs) (by decide) ?_
  refine am_run 4 (pc' := 31) (ls' := [some (.ref 0), some (.int (nI r))]) (st' := [.int (σ.1 0 24), .ref 25, .int (nI k), .ref 0]) (σ' := σ) rfl ?_
  refine am_top (v' := nI lev) h24 ?_
  refine am_ialdN (n := 13) (v := nI l) rfl rfl rfl (by omega) (hw) (by decide) ?_
  refine am_run 1 (pc' := 33) (ls' := [some (.ref 0), some (.int (nI r))]) (st' := [.int (nI r), .int (nI l), .int (nI k), .ref 0]) (σ' := σ) rfl ?_
  refine am_invv (y := 162) (b := 0) (as := [.int (nI k), .int (nI l), .int (nI r)]) (rest := []) rfl rfl rfl rfl rfl rfl rfl (Nat.le_of_ble_eq_true rfl) ?_
  refine c_m_joins (e := e) (by omega) (h35) he (by omega) (by omega) (by omega) ?_
  show am_G _ M_X10_endsPart _ 36 [some (.ref 0), some (.int (nI r))] [] (am_wr (am_wr (am_wr (am_wr (am_wr (am_wr σ 7 (120 + k) (nI l)) 8 (120 + k) (nI r)) 15 (120 + l) (nI k)) 15 (120 + r) (nI k)) 9 (120 + e) (nI k)) 0 35 (nI (e + 1)))
  refine am_run 4 (pc' := 44) (ls' := [some (.ref 0), some (.int (nI r))]) (st' := [.int (σ.1 0 24), .ref 25]) (σ' := (am_wr (am_wr (am_wr (am_wr (am_wr (am_wr σ 7 (120 + k) (nI l)) 8 (120 + k) (nI r)) 15 (120 + l) (nI k)) 15 (120 + r) (nI k)) 9 (120 + e) (nI k)) 0 35 (nI (e + 1)))) rfl ?_
  refine am_top (v' := nI lev) h24 ?_
  refine am_run 4 (pc' := 52) (ls' := [some (.ref 0), some (.int (nI r))]) (st' := [.int (σ.1 0 24), .ref 26, .int (nI lev), .ref 25]) (σ' := (am_wr (am_wr (am_wr (am_wr (am_wr (am_wr σ 7 (120 + k) (nI l)) 8 (120 + k) (nI r)) 15 (120 + l) (nI k)) 15 (120 + r) (nI k)) 9 (120 + e) (nI k)) 0 35 (nI (e + 1)))) rfl ?_
  refine am_top (v' := nI lev) h24 ?_
  refine am_ialdN (n := 13) (v := nI k) rfl rfl rfl (by omega) (by rw [am_wr_ne _ (by omega), am_wr_ne _ (by omega), am_wr_ne _ (by omega), am_wr_ne _ (by omega), am_wr_ne _ (by omega), am_wr_ne _ (by omega)]; exact hs) (by decide) ?_
  refine am_iastN (n := 13) rfl rfl rfl (by omega) (by decide) ?_
  refine am_run 4 (pc' := 62) (ls' := [some (.ref 0), some (.int (nI r))]) (st' := [.int (σ.1 0 24), .ref 26]) (σ' := (am_wr (am_wr (am_wr (am_wr (am_wr (am_wr (am_wr σ 7 (120 + k) (nI l)) 8 (120 + k) (nI r)) 15 (120 + l) (nI k)) 15 (120 + r) (nI k)) 9 (120 + e) (nI k)) 0 35 (nI (e + 1))) 25 lev (nI k))) rfl ?_
  refine am_top (v' := nI lev) h24 ?_
  refine am_run 1 (pc' := 63) (ls' := [some (.ref 0), some (.int (nI r))]) (st' := [.int (-1), .int (nI lev), .ref 26]) (σ' := (am_wr (am_wr (am_wr (am_wr (am_wr (am_wr (am_wr σ 7 (120 + k) (nI l)) 8 (120 + k) (nI r)) 15 (120 + l) (nI k)) 15 (120 + r) (nI k)) 9 (120 + e) (nI k)) 0 35 (nI (e + 1))) 25 lev (nI k))) rfl ?_
  refine am_iastN (n := 13) rfl rfl rfl (by omega) (by decide) ?_
  refine am_run 4 (pc' := 82) (ls' := [some (.ref 0), some (.int (nI r))]) (st' := []) (σ' := (am_wr (am_wr (am_wr (am_wr (am_wr (am_wr (am_wr (am_wr (am_wr σ 7 (120 + k) (nI l)) 8 (120 + k) (nI r)) 15 (120 + l) (nI k)) 15 (120 + r) (nI k)) 9 (120 + e) (nI k)) 0 35 (nI (e + 1))) 25 lev (nI k)) 26 lev (-1)) 0 22 (nI 4))) rfl ?_
  refine am_retv rfl rfl ?_
  exact hq
set_option maxRecDepth 10000 in
set_option maxHeartbeats 2000000 in
theorem c_m_endsRow0 {d : Nat} (hd : 4 ≤ d) {σ : am_M} {lev l : Nat} (h24 : σ.1 0 24 = nI lev) (hlev : lev ≤ 12) (hb : σ.1 24 lev = -1) (hw : σ.1 25 lev = nI l) {Q : am_Q} (hq : Q none (am_wr σ 23 lev (nI l))) : am_C d 164 [.ref 0] σ Q := by
  refine am_enter' (M := M_X10_endsRow) rfl rfl rfl (by omega) (ls := [some (.ref 0)]) rfl (fun d' hd' => ?_)
  refine am_run 4 (pc' := 8) (ls' := [some (.ref 0)]) (st' := [.int (σ.1 0 24), .ref 24]) (σ' := σ) rfl ?_
  refine am_top (v' := nI lev) h24 ?_
  refine am_ialdN (n := 13) (v := -1) rfl rfl rfl (by omega) (hb) (by decide) ?_
  refine am_run 1 (pc' := 10) (ls' := [some (.ref 0)]) (st' := [.int (-1), .int (-1)]) (σ' := σ) rfl ?_
  refine am_ic (ty := 75) (tn := 13) rfl (by decide) rfl rfl (fun (h_1 : -1 = -1) => ?_) (fun (h_1 : ¬ (-1 = -1)) => ?_)
  rotate_left
  · exact absurd (by decide) h_1
  refine am_run 4 (pc' := 83) (ls' := [some (.ref 0)]) (st' := [.int (σ.1 0 24), .ref 23]) (σ' := σ) rfl ?_
  refine am_top (v' := nI lev) h24 ?_
  refine am_run 4 (pc' := 91) (ls' := [some (.ref 0)]) (st' := [.int (σ.1 0 24), .ref 25, .int (nI lev), .ref 23]) (σ' := σ) rfl ?_
  refine am_top (v' := nI lev) h24 ?_
  refine am_ialdN (n := 13) (v := nI l) rfl rfl rfl (by omega) (hw) (by decide) ?_
  refine am_iastN (n := 13) rfl rfl rfl (by omega) (by decide) ?_
  refine am_retv rfl rfl ?_
  exact hq
set_option maxRecDepth 10000 in
set_option maxHeartbeats 2000000 in
theorem c_m_endsRow1 {d : Nat} (hd : 4 ≤ d) {σ : am_M} {r lev k l e : Nat} (h24 : σ.1 0 24 = nI lev) (hlev : lev ≤ 12) (hb : σ.1 24 lev = nI k) (hs : σ.1 23 lev = nI l) (hw : σ.1 25 lev = nI r) (h35 : σ.1 0 35 = nI e) (he : e < 60) (hk : k < 60) (hl : l < 60) (hr : r < 60) {Q : am_Q} (hq : Q none (am_wr (am_wr (am_wr (am_wr (am_wr (am_wr (am_wr (am_wr σ 7 (120 + k) (nI l)) 8 (120 + k) (nI r)) 15 (120 + l) (nI k)) 15 (120 + r) (nI k)) 9 (120 + e) (nI k)) 0 35 (nI (e + 1))) 23 lev (nI k)) 24 lev (-1))) : am_C d 164 [.ref 0] σ Q := by
  refine am_enter' (M := M_X10_endsRow) rfl rfl rfl (by omega) (ls := [some (.ref 0)]) rfl (fun d' hd' => ?_)
  refine am_run 4 (pc' := 8) (ls' := [some (.ref 0)]) (st' := [.int (σ.1 0 24), .ref 24]) (σ' := σ) rfl ?_
  refine am_top (v' := nI lev) h24 ?_
  refine am_ialdN (n := 13) (v := nI k) rfl rfl rfl (by omega) (hb) (by decide) ?_
  refine am_run 1 (pc' := 10) (ls' := [some (.ref 0)]) (st' := [.int (-1), .int (nI k)]) (σ' := σ) rfl ?_
  refine am_ic (ty := 75) (tn := 13) rfl (by decide) rfl rfl (fun (h_1 : nI k = -1) => ?_) (fun (h_1 : ¬ (nI k = -1)) => ?_)
  · exact absurd h_1 (am_nm1 (by omega))
  refine am_run 5 (pc' := 22) (ls' := [some (.ref 0)]) (st' := [.int (σ.1 0 24), .ref 24, .ref 0]) (σ' := σ) rfl ?_
  refine am_top (v' := nI lev) h24 ?_
  refine am_ialdN (n := 13) (v := nI k) rfl rfl rfl (by omega) (hb) (by decide) ?_
  refine am_run 4 (pc' := 31) (ls' := [some (.ref 0)]) (st' := [.int (σ.1 0 24), .ref 23, .int (nI k), .ref 0]) (σ' := σ) rfl ?_
  refine am_top (v' := nI lev) h24 ?_
  refine am_ialdN (n := 13) (v := nI l) rfl rfl rfl (by omega) (hs) (by decide) ?_
  refine am_run 4 (pc' := 40) (ls' := [some (.ref 0)]) (st' := [.int (σ.1 0 24), .ref 25, .int (nI l), .int (nI k), .ref 0]) (σ' := σ) rfl ?_
  refine am_top (v' := nI lev) h24 ?_
  refine am_ialdN (n := 13) (v := nI r) rfl rfl rfl (by omega) (hw) (by decide) ?_
  refine am_invv (y := 162) (b := 0) (as := [.int (nI k), .int (nI l), .int (nI r)]) (rest := []) rfl rfl rfl rfl rfl rfl rfl (Nat.le_of_ble_eq_true rfl) ?_
  refine c_m_joins (e := e) (by omega) (h35) he (by omega) (by omega) (by omega) ?_
  show am_G _ M_X10_endsRow _ 44 [some (.ref 0)] [] (am_wr (am_wr (am_wr (am_wr (am_wr (am_wr σ 7 (120 + k) (nI l)) 8 (120 + k) (nI r)) 15 (120 + l) (nI k)) 15 (120 + r) (nI k)) 9 (120 + e) (nI k)) 0 35 (nI (e + 1)))
  refine am_run 4 (pc' := 52) (ls' := [some (.ref 0)]) (st' := [.int (σ.1 0 24), .ref 23]) (σ' := (am_wr (am_wr (am_wr (am_wr (am_wr (am_wr σ 7 (120 + k) (nI l)) 8 (120 + k) (nI r)) 15 (120 + l) (nI k)) 15 (120 + r) (nI k)) 9 (120 + e) (nI k)) 0 35 (nI (e + 1)))) rfl ?_
  refine am_top (v' := nI lev) h24 ?_
  refine am_run 4 (pc' := 60) (ls' := [some (.ref 0)]) (st' := [.int (σ.1 0 24), .ref 24, .int (nI lev), .ref 23]) (σ' := (am_wr (am_wr (am_wr (am_wr (am_wr (am_wr σ 7 (120 + k) (nI l)) 8 (120 + k) (nI r)) 15 (120 + l) (nI k)) 15 (120 + r) (nI k)) 9 (120 + e) (nI k)) 0 35 (nI (e + 1)))) rfl ?_
  refine am_top (v' := nI lev) h24 ?_
  refine am_ialdN (n := 13) (v := nI k) rfl rfl rfl (by omega) (by rw [am_wr_ne _ (by omega), am_wr_ne _ (by omega), am_wr_ne _ (by omega), am_wr_ne _ (by omega), am_wr_ne _ (by omega), am_wr_ne _ (by omega)]; exact hb) (by decide) ?_
  refine am_iastN (n := 13) rfl rfl rfl (by omega) (by decide) ?_
  refine am_run 4 (pc' := 70) (ls' := [some (.ref 0)]) (st' := [.int (σ.1 0 24), .ref 24]) (σ' := (am_wr (am_wr (am_wr (am_wr (am_wr (am_wr (am_wr σ 7 (120 + k) (nI l)) 8 (120 + k) (nI r)) 15 (120 + l) (nI k)) 15 (120 + r) (nI k)) 9 (120 + e) (nI k)) 0 35 (nI (e + 1))) 23 lev (nI k))) rfl ?_
  refine am_top (v' := nI lev) h24 ?_
  refine am_run 1 (pc' := 71) (ls' := [some (.ref 0)]) (st' := [.int (-1), .int (nI lev), .ref 24]) (σ' := (am_wr (am_wr (am_wr (am_wr (am_wr (am_wr (am_wr σ 7 (120 + k) (nI l)) 8 (120 + k) (nI r)) 15 (120 + l) (nI k)) 15 (120 + r) (nI k)) 9 (120 + e) (nI k)) 0 35 (nI (e + 1))) 23 lev (nI k))) rfl ?_
  refine am_iastN (n := 13) rfl rfl rfl (by omega) (by decide) ?_
  refine am_run 1 (pc' := 93) (ls' := [some (.ref 0)]) (st' := []) (σ' := (am_wr (am_wr (am_wr (am_wr (am_wr (am_wr (am_wr (am_wr σ 7 (120 + k) (nI l)) 8 (120 + k) (nI r)) 15 (120 + l) (nI k)) 15 (120 + r) (nI k)) 9 (120 + e) (nI k)) 0 35 (nI (e + 1))) 23 lev (nI k)) 24 lev (-1))) rfl ?_
  refine am_retv rfl rfl ?_
  exact hq
set_option maxRecDepth 10000 in
set_option maxHeartbeats 2000000 in
theorem c_m_begins {d : Nat} (hd : 1 ≤ d) {σ : am_M} {lev : Nat} (h24 : σ.1 0 24 = nI lev) (hlev : lev ≤ 12) {Q : am_Q} (hq : Q none (am_wr (am_wr (am_wr (am_wr σ 24 lev (-1)) 26 lev (-1)) 23 lev (-1)) 25 lev (-1))) : am_C d 166 [.ref 0] σ Q := by
  refine am_enter' (M := M_X10_begins) rfl rfl rfl (by omega) (ls := [some (.ref 0)]) rfl (fun d' hd' => ?_)
  refine am_run 4 (pc' := 8) (ls' := [some (.ref 0)]) (st' := [.int (σ.1 0 24), .ref 24]) (σ' := σ) rfl ?_
  refine am_top (v' := nI lev) h24 ?_
  refine am_run 1 (pc' := 9) (ls' := [some (.ref 0)]) (st' := [.int (-1), .int (nI lev), .ref 24]) (σ' := σ) rfl ?_
  refine am_iastN (n := 13) rfl rfl rfl (by omega) (by decide) ?_
  refine am_run 4 (pc' := 18) (ls' := [some (.ref 0)]) (st' := [.int (σ.1 0 24), .ref 26]) (σ' := (am_wr σ 24 lev (-1))) rfl ?_
  refine am_top (v' := nI lev) h24 ?_
  refine am_run 1 (pc' := 19) (ls' := [some (.ref 0)]) (st' := [.int (-1), .int (nI lev), .ref 26]) (σ' := (am_wr σ 24 lev (-1))) rfl ?_
  refine am_iastN (n := 13) rfl rfl rfl (by omega) (by decide) ?_
  refine am_run 4 (pc' := 28) (ls' := [some (.ref 0)]) (st' := [.int (σ.1 0 24), .ref 23]) (σ' := (am_wr (am_wr σ 24 lev (-1)) 26 lev (-1))) rfl ?_
  refine am_top (v' := nI lev) h24 ?_
  refine am_run 1 (pc' := 29) (ls' := [some (.ref 0)]) (st' := [.int (-1), .int (nI lev), .ref 23]) (σ' := (am_wr (am_wr σ 24 lev (-1)) 26 lev (-1))) rfl ?_
  refine am_iastN (n := 13) rfl rfl rfl (by omega) (by decide) ?_
  refine am_run 4 (pc' := 38) (ls' := [some (.ref 0)]) (st' := [.int (σ.1 0 24), .ref 25]) (σ' := (am_wr (am_wr (am_wr σ 24 lev (-1)) 26 lev (-1)) 23 lev (-1))) rfl ?_
  refine am_top (v' := nI lev) h24 ?_
  refine am_run 1 (pc' := 39) (ls' := [some (.ref 0)]) (st' := [.int (-1), .int (nI lev), .ref 25]) (σ' := (am_wr (am_wr (am_wr σ 24 lev (-1)) 26 lev (-1)) 23 lev (-1))) rfl ?_
  refine am_iastN (n := 13) rfl rfl rfl (by omega) (by decide) ?_
  refine am_retv rfl rfl ?_
  exact hq
set_option maxRecDepth 10000 in
set_option maxHeartbeats 2000000 in
theorem c_m_opens {d : Nat} (hd : 2 ≤ d) {σ : am_M} {st sc lev : Nat} {nd : Int32} (h24 : σ.1 0 24 = nI lev) (hlev : lev < 12) {Q : am_Q} (hq : Q none (am_wr (am_wr (am_wr (am_wr (am_wr (am_wr (am_wr (am_wr (am_wr σ 0 24 (nI (lev + 1))) 24 (lev + 1) (-1)) 26 (lev + 1) (-1)) 23 (lev + 1) (-1)) 25 (lev + 1) (-1)) 20 (lev + 1) (nI st)) 21 (lev + 1) nd) 22 (lev + 1) (nI sc)) 0 22 (nI 0))) : am_C d 165 [.ref 0, .int (nI st), .int nd, .int (nI sc)] σ Q := by
  refine am_enter' (M := M_X10_opens) rfl rfl rfl (by omega) (ls := [some (.ref 0), some (.int (nI st)), some (.int nd), some (.int (nI sc))]) rfl (fun d' hd' => ?_)
  refine am_run 3 (pc' := 5) (ls' := [some (.ref 0), some (.int (nI st)), some (.int nd), some (.int (nI sc))]) (st' := [.int (σ.1 0 24), .ref 0]) (σ' := σ) rfl ?_
  refine am_top (v' := nI lev) h24 ?_
  refine am_run 2 (pc' := 7) (ls' := [some (.ref 0), some (.int (nI st)), some (.int nd), some (.int (nI sc))]) (st' := [.int (nI lev + nI 1), .ref 0]) (σ' := σ) rfl ?_
  refine am_top (v' := nI (lev + 1)) (nI_add _ _) ?_
  refine am_run 2 (pc' := 11) (ls' := [some (.ref 0), some (.int (nI st)), some (.int nd), some (.int (nI sc))]) (st' := [.ref 0]) (σ' := (am_wr σ 0 24 (nI (lev + 1)))) rfl ?_
  refine am_invv (y := 166) (b := 0) (as := []) (rest := []) rfl rfl rfl rfl rfl rfl rfl (Nat.le_of_ble_eq_true rfl) ?_
  refine c_m_begins (lev := lev + 1) (by omega) (by rw [am_same]) (by omega) ?_
  show am_G _ M_X10_opens _ 14 [some (.ref 0), some (.int (nI st)), some (.int nd), some (.int (nI sc))] [] (am_wr (am_wr (am_wr (am_wr (am_wr σ 0 24 (nI (lev + 1))) 24 (lev + 1) (-1)) 26 (lev + 1) (-1)) 23 (lev + 1) (-1)) 25 (lev + 1) (-1))
  refine am_run 5 (pc' := 23) (ls' := [some (.ref 0), some (.int (nI st)), some (.int nd), some (.int (nI sc))]) (st' := [.int (nI st), .int (nI (lev + 1)), .ref 20]) (σ' := (am_wr (am_wr (am_wr (am_wr (am_wr σ 0 24 (nI (lev + 1))) 24 (lev + 1) (-1)) 26 (lev + 1) (-1)) 23 (lev + 1) (-1)) 25 (lev + 1) (-1))) rfl ?_
  refine am_iastN (n := 13) rfl rfl rfl (by omega) (by decide) ?_
  refine am_run 5 (pc' := 33) (ls' := [some (.ref 0), some (.int (nI st)), some (.int nd), some (.int (nI sc))]) (st' := [.int nd, .int (nI (lev + 1)), .ref 21]) (σ' := (am_wr (am_wr (am_wr (am_wr (am_wr (am_wr σ 0 24 (nI (lev + 1))) 24 (lev + 1) (-1)) 26 (lev + 1) (-1)) 23 (lev + 1) (-1)) 25 (lev + 1) (-1)) 20 (lev + 1) (nI st))) rfl ?_
  refine am_iastN (n := 13) rfl rfl rfl (by omega) (by decide) ?_
  refine am_run 5 (pc' := 43) (ls' := [some (.ref 0), some (.int (nI st)), some (.int nd), some (.int (nI sc))]) (st' := [.int (nI sc), .int (nI (lev + 1)), .ref 22]) (σ' := (am_wr (am_wr (am_wr (am_wr (am_wr (am_wr (am_wr σ 0 24 (nI (lev + 1))) 24 (lev + 1) (-1)) 26 (lev + 1) (-1)) 23 (lev + 1) (-1)) 25 (lev + 1) (-1)) 20 (lev + 1) (nI st)) 21 (lev + 1) nd)) rfl ?_
  refine am_iastN (n := 13) rfl rfl rfl (by omega) (by decide) ?_
  refine am_run 3 (pc' := 49) (ls' := [some (.ref 0), some (.int (nI st)), some (.int nd), some (.int (nI sc))]) (st' := []) (σ' := (am_wr (am_wr (am_wr (am_wr (am_wr (am_wr (am_wr (am_wr (am_wr σ 0 24 (nI (lev + 1))) 24 (lev + 1) (-1)) 26 (lev + 1) (-1)) 23 (lev + 1) (-1)) 25 (lev + 1) (-1)) 20 (lev + 1) (nI st)) 21 (lev + 1) nd) 22 (lev + 1) (nI sc)) 0 22 (nI 0))) rfl ?_
  refine am_retv rfl rfl ?_
  exact hq
set_option maxRecDepth 10000 in
set_option maxHeartbeats 2000000 in
theorem c_m_newNode_46 {d : Nat} (hd : 2 ≤ d) {σ : am_M} {n kk nw : Nat} {o0 o1 o2 : Int32} (h2 : σ.1 2 2 = nI n) (h3 : σ.1 3 2 = nI kk) (h33 : σ.1 0 33 = nI nw) (hn : n < 60) (q0 : σ.1 27 0 = o0) (q1 : σ.1 27 1 = o1) (q2 : σ.1 27 2 = o2) {Q : am_Q} (hq : Q (some (.int (nI n))) (am_wr (am_wr (am_wr (am_wr (am_wr (am_wr (am_wr (am_wr (am_wr (am_wr (am_wr (am_wr (am_wr σ 2 2 (nI (n + 1))) 5 (120 + n) (nI 46)) 6 (120 + n) (-1)) 7 (120 + n) (-1)) 8 (120 + n) (-1)) 15 (120 + n) (-1)) 12 (120 + n) (-1)) 10 (120 + n) (nI nw)) 11 (3 * (120 + n) + 0) o0) 11 (3 * (120 + n) + 1) o1) 11 (3 * (120 + n) + 2) o2) 12 (120 + n) (nI kk)) 3 2 (nI (kk + 1)))) : am_C d 159 [.ref 0, .int (nI 46)] σ Q := by
  refine am_enter' (M := M_X10_newNode) rfl rfl rfl (by omega) (ls := [some (.ref 0), some (.int (nI 46)), none, none, none]) rfl (fun d' hd' => ?_)
  refine am_run 3 (pc' := 5) (ls' := [some (.ref 0), some (.int (nI 46)), none, none, none]) (st' := [.int (nI 2), .ref 2]) (σ' := σ) rfl ?_
  refine am_ialdN (n := 3) (v := nI n) rfl rfl rfl (by omega) (h2) (by decide) ?_
  refine am_run 3 (pc' := 9) (ls' := [some (.ref 0), some (.int (nI 46)), some (.int (nI n)), none, none]) (st' := [.int (nI n), .int (nI 2)]) (σ' := σ) rfl ?_
  refine am_invs (y := 158) (as := [.int (nI 2), .int (nI n)]) (rest := []) rfl rfl rfl rfl rfl rfl (Nat.le_of_ble_eq_true rfl) ?_
  refine c_m_placeOf (by omega) (j := 2) ?_
  show am_G _ M_X10_newNode _ 12 [some (.ref 0), some (.int (nI 46)), some (.int (nI n)), none, none] [.int (nI (120 + n))] σ
  refine am_run 5 (pc' := 19) (ls' := [some (.ref 0), some (.int (nI 46)), some (.int (nI n)), some (.int (nI (120 + n))), none]) (st' := [.int (nI 2), .ref 2, .int (nI 2), .ref 2]) (σ' := σ) rfl ?_
  refine am_ialdN (n := 3) (v := nI n) rfl rfl rfl (by omega) (h2) (by decide) ?_
  refine am_run 2 (pc' := 22) (ls' := [some (.ref 0), some (.int (nI 46)), some (.int (nI n)), some (.int (nI (120 + n))), none]) (st' := [.int (nI n + nI 1), .int (nI 2), .ref 2]) (σ' := σ) rfl ?_
  refine am_top (v' := nI (n + 1)) (nI_add _ _) ?_
  refine am_iastN (n := 3) rfl rfl rfl (by omega) (by decide) ?_
  refine am_run 4 (pc' := 29) (ls' := [some (.ref 0), some (.int (nI 46)), some (.int (nI n)), some (.int (nI (120 + n))), none]) (st' := [.int (nI 46), .int (nI (120 + n)), .ref 5]) (σ' := (am_wr σ 2 2 (nI (n + 1)))) rfl ?_
  refine am_iastN (n := 180) rfl rfl rfl (by omega) (by decide) ?_
  refine am_run 4 (pc' := 36) (ls' := [some (.ref 0), some (.int (nI 46)), some (.int (nI n)), some (.int (nI (120 + n))), none]) (st' := [.int (-1), .int (nI (120 + n)), .ref 6]) (σ' := (am_wr (am_wr σ 2 2 (nI (n + 1))) 5 (120 + n) (nI 46))) rfl ?_
  refine am_iastN (n := 180) rfl rfl rfl (by omega) (by decide) ?_
  refine am_run 4 (pc' := 43) (ls' := [some (.ref 0), some (.int (nI 46)), some (.int (nI n)), some (.int (nI (120 + n))), none]) (st' := [.int (-1), .int (nI (120 + n)), .ref 7]) (σ' := (am_wr (am_wr (am_wr σ 2 2 (nI (n + 1))) 5 (120 + n) (nI 46)) 6 (120 + n) (-1))) rfl ?_
  refine am_iastN (n := 180) rfl rfl rfl (by omega) (by decide) ?_
  refine am_run 4 (pc' := 50) (ls' := [some (.ref 0), some (.int (nI 46)), some (.int (nI n)), some (.int (nI (120 + n))), none]) (st' := [.int (-1), .int (nI (120 + n)), .ref 8]) (σ' := (am_wr (am_wr (am_wr (am_wr σ 2 2 (nI (n + 1))) 5 (120 + n) (nI 46)) 6 (120 + n) (-1)) 7 (120 + n) (-1))) rfl ?_
  refine am_iastN (n := 180) rfl rfl rfl (by omega) (by decide) ?_
  refine am_run 4 (pc' := 57) (ls' := [some (.ref 0), some (.int (nI 46)), some (.int (nI n)), some (.int (nI (120 + n))), none]) (st' := [.int (-1), .int (nI (120 + n)), .ref 15]) (σ' := (am_wr (am_wr (am_wr (am_wr (am_wr σ 2 2 (nI (n + 1))) 5 (120 + n) (nI 46)) 6 (120 + n) (-1)) 7 (120 + n) (-1)) 8 (120 + n) (-1))) rfl ?_
  refine am_iastN (n := 180) rfl rfl rfl (by omega) (by decide) ?_
  refine am_run 4 (pc' := 64) (ls' := [some (.ref 0), some (.int (nI 46)), some (.int (nI n)), some (.int (nI (120 + n))), none]) (st' := [.int (-1), .int (nI (120 + n)), .ref 12]) (σ' := (am_wr (am_wr (am_wr (am_wr (am_wr (am_wr σ 2 2 (nI (n + 1))) 5 (120 + n) (nI 46)) 6 (120 + n) (-1)) 7 (120 + n) (-1)) 8 (120 + n) (-1)) 15 (120 + n) (-1))) rfl ?_
  refine am_iastN (n := 180) rfl rfl rfl (by omega) (by decide) ?_
  refine am_run 5 (pc' := 74) (ls' := [some (.ref 0), some (.int (nI 46)), some (.int (nI n)), some (.int (nI (120 + n))), none]) (st' := [.int (σ.1 0 33), .int (nI (120 + n)), .ref 10]) (σ' := (am_wr (am_wr (am_wr (am_wr (am_wr (am_wr (am_wr σ 2 2 (nI (n + 1))) 5 (120 + n) (nI 46)) 6 (120 + n) (-1)) 7 (120 + n) (-1)) 8 (120 + n) (-1)) 15 (120 + n) (-1)) 12 (120 + n) (-1))) rfl ?_
  refine am_top (v' := nI nw) h33 ?_
  refine am_iastN (n := 180) rfl rfl rfl (by omega) (by decide) ?_
  refine am_run 4 (pc' := 81) (ls' := [some (.ref 0), some (.int (nI 46)), some (.int (nI n)), some (.int (nI (120 + n))), some (.int (nI 0))]) (st' := [.int (nI 3), .int (nI 0)]) (σ' := (am_wr (am_wr (am_wr (am_wr (am_wr (am_wr (am_wr (am_wr σ 2 2 (nI (n + 1))) 5 (120 + n) (nI 46)) 6 (120 + n) (-1)) 7 (120 + n) (-1)) 8 (120 + n) (-1)) 15 (120 + n) (-1)) 12 (120 + n) (-1)) 10 (120 + n) (nI nw))) rfl ?_
  refine am_ic (ty := 84) (tn := 108) rfl (by decide) rfl rfl (fun (h_1 : nI 0 < nI 3) => ?_) (fun (h_1 : ¬ (nI 0 < nI 3)) => ?_)
  rotate_left
  · exact absurd (by decide) h_1
  refine am_run 5 (pc' := 91) (ls' := [some (.ref 0), some (.int (nI 46)), some (.int (nI n)), some (.int (nI (120 + n))), some (.int (nI 0))]) (st' := [.int (nI 3 * nI (120 + n)), .ref 11]) (σ' := (am_wr (am_wr (am_wr (am_wr (am_wr (am_wr (am_wr (am_wr σ 2 2 (nI (n + 1))) 5 (120 + n) (nI 46)) 6 (120 + n) (-1)) 7 (120 + n) (-1)) 8 (120 + n) (-1)) 15 (120 + n) (-1)) 12 (120 + n) (-1)) 10 (120 + n) (nI nw))) rfl ?_
  refine am_top (v' := nI (3 * (120 + n))) (am_nmul _ _) ?_
  refine am_run 2 (pc' := 94) (ls' := [some (.ref 0), some (.int (nI 46)), some (.int (nI n)), some (.int (nI (120 + n))), some (.int (nI 0))]) (st' := [.int (nI (3 * (120 + n)) + nI 0), .ref 11]) (σ' := (am_wr (am_wr (am_wr (am_wr (am_wr (am_wr (am_wr (am_wr σ 2 2 (nI (n + 1))) 5 (120 + n) (nI 46)) 6 (120 + n) (-1)) 7 (120 + n) (-1)) 8 (120 + n) (-1)) 15 (120 + n) (-1)) 12 (120 + n) (-1)) 10 (120 + n) (nI nw))) rfl ?_
  refine am_top (v' := nI (3 * (120 + n) + 0)) (nI_add _ _) ?_
  refine am_run 3 (pc' := 100) (ls' := [some (.ref 0), some (.int (nI 46)), some (.int (nI n)), some (.int (nI (120 + n))), some (.int (nI 0))]) (st' := [.int (nI 0), .ref 27, .int (nI (3 * (120 + n) + 0)), .ref 11]) (σ' := (am_wr (am_wr (am_wr (am_wr (am_wr (am_wr (am_wr (am_wr σ 2 2 (nI (n + 1))) 5 (120 + n) (nI 46)) 6 (120 + n) (-1)) 7 (120 + n) (-1)) 8 (120 + n) (-1)) 15 (120 + n) (-1)) 12 (120 + n) (-1)) 10 (120 + n) (nI nw))) rfl ?_
  refine am_ialdN (n := 4) (v := o0) rfl rfl rfl (by omega) (by rw [am_wr_ne _ (by omega), am_wr_ne _ (by omega), am_wr_ne _ (by omega), am_wr_ne _ (by omega), am_wr_ne _ (by omega), am_wr_ne _ (by omega), am_wr_ne _ (by omega), am_wr_ne _ (by omega)]; exact q0) (by decide) ?_
  refine am_iastN (n := 540) rfl rfl rfl (by omega) (by decide) ?_
  refine am_run 1 (pc' := 105) (ls' := [some (.ref 0), some (.int (nI 46)), some (.int (nI n)), some (.int (nI (120 + n))), some (.int (nI 0 + nI 1))]) (st' := []) (σ' := (am_wr (am_wr (am_wr (am_wr (am_wr (am_wr (am_wr (am_wr (am_wr σ 2 2 (nI (n + 1))) 5 (120 + n) (nI 46)) 6 (120 + n) (-1)) 7 (120 + n) (-1)) 8 (120 + n) (-1)) 15 (120 + n) (-1)) 12 (120 + n) (-1)) 10 (120 + n) (nI nw)) 11 (3 * (120 + n) + 0) o0)) rfl ?_
  refine am_ls (ls' := [some (.ref 0), some (.int (nI 46)), some (.int (nI n)), some (.int (nI (120 + n))), some (.int (nI 1))]) (by rw [nI_add]) ?_
  refine am_run 3 (pc' := 81) (ls' := [some (.ref 0), some (.int (nI 46)), some (.int (nI n)), some (.int (nI (120 + n))), some (.int (nI 1))]) (st' := [.int (nI 3), .int (nI 1)]) (σ' := (am_wr (am_wr (am_wr (am_wr (am_wr (am_wr (am_wr (am_wr (am_wr σ 2 2 (nI (n + 1))) 5 (120 + n) (nI 46)) 6 (120 + n) (-1)) 7 (120 + n) (-1)) 8 (120 + n) (-1)) 15 (120 + n) (-1)) 12 (120 + n) (-1)) 10 (120 + n) (nI nw)) 11 (3 * (120 + n) + 0) o0)) rfl ?_
  refine am_ic (ty := 84) (tn := 108) rfl (by decide) rfl rfl (fun (h_2 : nI 1 < nI 3) => ?_) (fun (h_2 : ¬ (nI 1 < nI 3)) => ?_)
  rotate_left
  · exact absurd (by decide) h_2
  refine am_run 5 (pc' := 91) (ls' := [some (.ref 0), some (.int (nI 46)), some (.int (nI n)), some (.int (nI (120 + n))), some (.int (nI 1))]) (st' := [.int (nI 3 * nI (120 + n)), .ref 11]) (σ' := (am_wr (am_wr (am_wr (am_wr (am_wr (am_wr (am_wr (am_wr (am_wr σ 2 2 (nI (n + 1))) 5 (120 + n) (nI 46)) 6 (120 + n) (-1)) 7 (120 + n) (-1)) 8 (120 + n) (-1)) 15 (120 + n) (-1)) 12 (120 + n) (-1)) 10 (120 + n) (nI nw)) 11 (3 * (120 + n) + 0) o0)) rfl ?_
  refine am_top (v' := nI (3 * (120 + n))) (am_nmul _ _) ?_
  refine am_run 2 (pc' := 94) (ls' := [some (.ref 0), some (.int (nI 46)), some (.int (nI n)), some (.int (nI (120 + n))), some (.int (nI 1))]) (st' := [.int (nI (3 * (120 + n)) + nI 1), .ref 11]) (σ' := (am_wr (am_wr (am_wr (am_wr (am_wr (am_wr (am_wr (am_wr (am_wr σ 2 2 (nI (n + 1))) 5 (120 + n) (nI 46)) 6 (120 + n) (-1)) 7 (120 + n) (-1)) 8 (120 + n) (-1)) 15 (120 + n) (-1)) 12 (120 + n) (-1)) 10 (120 + n) (nI nw)) 11 (3 * (120 + n) + 0) o0)) rfl ?_
  refine am_top (v' := nI (3 * (120 + n) + 1)) (nI_add _ _) ?_
  refine am_run 3 (pc' := 100) (ls' := [some (.ref 0), some (.int (nI 46)), some (.int (nI n)), some (.int (nI (120 + n))), some (.int (nI 1))]) (st' := [.int (nI 1), .ref 27, .int (nI (3 * (120 + n) + 1)), .ref 11]) (σ' := (am_wr (am_wr (am_wr (am_wr (am_wr (am_wr (am_wr (am_wr (am_wr σ 2 2 (nI (n + 1))) 5 (120 + n) (nI 46)) 6 (120 + n) (-1)) 7 (120 + n) (-1)) 8 (120 + n) (-1)) 15 (120 + n) (-1)) 12 (120 + n) (-1)) 10 (120 + n) (nI nw)) 11 (3 * (120 + n) + 0) o0)) rfl ?_
  refine am_ialdN (n := 4) (v := o1) rfl rfl rfl (by omega) (by rw [am_wr_ne _ (by omega), am_wr_ne _ (by omega), am_wr_ne _ (by omega), am_wr_ne _ (by omega), am_wr_ne _ (by omega), am_wr_ne _ (by omega), am_wr_ne _ (by omega), am_wr_ne _ (by omega), am_wr_ne _ (by omega)]; exact q1) (by decide) ?_
  refine am_iastN (n := 540) rfl rfl rfl (by omega) (by decide) ?_
  refine am_run 1 (pc' := 105) (ls' := [some (.ref 0), some (.int (nI 46)), some (.int (nI n)), some (.int (nI (120 + n))), some (.int (nI 1 + nI 1))]) (st' := []) (σ' := (am_wr (am_wr (am_wr (am_wr (am_wr (am_wr (am_wr (am_wr (am_wr (am_wr σ 2 2 (nI (n + 1))) 5 (120 + n) (nI 46)) 6 (120 + n) (-1)) 7 (120 + n) (-1)) 8 (120 + n) (-1)) 15 (120 + n) (-1)) 12 (120 + n) (-1)) 10 (120 + n) (nI nw)) 11 (3 * (120 + n) + 0) o0) 11 (3 * (120 + n) + 1) o1)) rfl ?_
  refine am_ls (ls' := [some (.ref 0), some (.int (nI 46)), some (.int (nI n)), some (.int (nI (120 + n))), some (.int (nI 2))]) (by rw [nI_add]) ?_
  refine am_run 3 (pc' := 81) (ls' := [some (.ref 0), some (.int (nI 46)), some (.int (nI n)), some (.int (nI (120 + n))), some (.int (nI 2))]) (st' := [.int (nI 3), .int (nI 2)]) (σ' := (am_wr (am_wr (am_wr (am_wr (am_wr (am_wr (am_wr (am_wr (am_wr (am_wr σ 2 2 (nI (n + 1))) 5 (120 + n) (nI 46)) 6 (120 + n) (-1)) 7 (120 + n) (-1)) 8 (120 + n) (-1)) 15 (120 + n) (-1)) 12 (120 + n) (-1)) 10 (120 + n) (nI nw)) 11 (3 * (120 + n) + 0) o0) 11 (3 * (120 + n) + 1) o1)) rfl ?_
  refine am_ic (ty := 84) (tn := 108) rfl (by decide) rfl rfl (fun (h_3 : nI 2 < nI 3) => ?_) (fun (h_3 : ¬ (nI 2 < nI 3)) => ?_)
  rotate_left
  · exact absurd (by decide) h_3
  refine am_run 5 (pc' := 91) (ls' := [some (.ref 0), some (.int (nI 46)), some (.int (nI n)), some (.int (nI (120 + n))), some (.int (nI 2))]) (st' := [.int (nI 3 * nI (120 + n)), .ref 11]) (σ' := (am_wr (am_wr (am_wr (am_wr (am_wr (am_wr (am_wr (am_wr (am_wr (am_wr σ 2 2 (nI (n + 1))) 5 (120 + n) (nI 46)) 6 (120 + n) (-1)) 7 (120 + n) (-1)) 8 (120 + n) (-1)) 15 (120 + n) (-1)) 12 (120 + n) (-1)) 10 (120 + n) (nI nw)) 11 (3 * (120 + n) + 0) o0) 11 (3 * (120 + n) + 1) o1)) rfl ?_
  refine am_top (v' := nI (3 * (120 + n))) (am_nmul _ _) ?_
  refine am_run 2 (pc' := 94) (ls' := [some (.ref 0), some (.int (nI 46)), some (.int (nI n)), some (.int (nI (120 + n))), some (.int (nI 2))]) (st' := [.int (nI (3 * (120 + n)) + nI 2), .ref 11]) (σ' := (am_wr (am_wr (am_wr (am_wr (am_wr (am_wr (am_wr (am_wr (am_wr (am_wr σ 2 2 (nI (n + 1))) 5 (120 + n) (nI 46)) 6 (120 + n) (-1)) 7 (120 + n) (-1)) 8 (120 + n) (-1)) 15 (120 + n) (-1)) 12 (120 + n) (-1)) 10 (120 + n) (nI nw)) 11 (3 * (120 + n) + 0) o0) 11 (3 * (120 + n) + 1) o1)) rfl ?_
  refine am_top (v' := nI (3 * (120 + n) + 2)) (nI_add _ _) ?_
  refine am_run 3 (pc' := 100) (ls' := [some (.ref 0), some (.int (nI 46)), some (.int (nI n)), some (.int (nI (120 + n))), some (.int (nI 2))]) (st' := [.int (nI 2), .ref 27, .int (nI (3 * (120 + n) + 2)), .ref 11]) (σ' := (am_wr (am_wr (am_wr (am_wr (am_wr (am_wr (am_wr (am_wr (am_wr (am_wr σ 2 2 (nI (n + 1))) 5 (120 + n) (nI 46)) 6 (120 + n) (-1)) 7 (120 + n) (-1)) 8 (120 + n) (-1)) 15 (120 + n) (-1)) 12 (120 + n) (-1)) 10 (120 + n) (nI nw)) 11 (3 * (120 + n) + 0) o0) 11 (3 * (120 + n) + 1) o1)) rfl ?_
  refine am_ialdN (n := 4) (v := o2) rfl rfl rfl (by omega) (by rw [am_wr_ne _ (by omega), am_wr_ne _ (by omega), am_wr_ne _ (by omega), am_wr_ne _ (by omega), am_wr_ne _ (by omega), am_wr_ne _ (by omega), am_wr_ne _ (by omega), am_wr_ne _ (by omega), am_wr_ne _ (by omega), am_wr_ne _ (by omega)]; exact q2) (by decide) ?_
  refine am_iastN (n := 540) rfl rfl rfl (by omega) (by decide) ?_
  refine am_run 1 (pc' := 105) (ls' := [some (.ref 0), some (.int (nI 46)), some (.int (nI n)), some (.int (nI (120 + n))), some (.int (nI 2 + nI 1))]) (st' := []) (σ' := (am_wr (am_wr (am_wr (am_wr (am_wr (am_wr (am_wr (am_wr (am_wr (am_wr (am_wr σ 2 2 (nI (n + 1))) 5 (120 + n) (nI 46)) 6 (120 + n) (-1)) 7 (120 + n) (-1)) 8 (120 + n) (-1)) 15 (120 + n) (-1)) 12 (120 + n) (-1)) 10 (120 + n) (nI nw)) 11 (3 * (120 + n) + 0) o0) 11 (3 * (120 + n) + 1) o1) 11 (3 * (120 + n) + 2) o2)) rfl ?_
  refine am_ls (ls' := [some (.ref 0), some (.int (nI 46)), some (.int (nI n)), some (.int (nI (120 + n))), some (.int (nI 3))]) (by rw [nI_add]) ?_
  refine am_run 3 (pc' := 81) (ls' := [some (.ref 0), some (.int (nI 46)), some (.int (nI n)), some (.int (nI (120 + n))), some (.int (nI 3))]) (st' := [.int (nI 3), .int (nI 3)]) (σ' := (am_wr (am_wr (am_wr (am_wr (am_wr (am_wr (am_wr (am_wr (am_wr (am_wr (am_wr σ 2 2 (nI (n + 1))) 5 (120 + n) (nI 46)) 6 (120 + n) (-1)) 7 (120 + n) (-1)) 8 (120 + n) (-1)) 15 (120 + n) (-1)) 12 (120 + n) (-1)) 10 (120 + n) (nI nw)) 11 (3 * (120 + n) + 0) o0) 11 (3 * (120 + n) + 1) o1) 11 (3 * (120 + n) + 2) o2)) rfl ?_
  refine am_ic (ty := 84) (tn := 108) rfl (by decide) rfl rfl (fun (h_4 : nI 3 < nI 3) => ?_) (fun (h_4 : ¬ (nI 3 < nI 3)) => ?_)
  · exact absurd h_4 (by decide)
  refine am_run 2 (pc' := 111) (ls' := [some (.ref 0), some (.int (nI 46)), some (.int (nI n)), some (.int (nI (120 + n))), some (.int (nI 3))]) (st' := [.int (nI 46), .int (nI 46)]) (σ' := (am_wr (am_wr (am_wr (am_wr (am_wr (am_wr (am_wr (am_wr (am_wr (am_wr (am_wr σ 2 2 (nI (n + 1))) 5 (120 + n) (nI 46)) 6 (120 + n) (-1)) 7 (120 + n) (-1)) 8 (120 + n) (-1)) 15 (120 + n) (-1)) 12 (120 + n) (-1)) 10 (120 + n) (nI nw)) 11 (3 * (120 + n) + 0) o0) 11 (3 * (120 + n) + 1) o1) 11 (3 * (120 + n) + 2) o2)) rfl ?_
  refine am_ic (ty := 120) (tn := 114) rfl (by decide) rfl rfl (fun (h_5 : nI 46 = nI 46) => ?_) (fun (h_5 : ¬ (nI 46 = nI 46)) => ?_)
  rotate_left
  · exact absurd (by decide) h_5
  refine am_run 6 (pc' := 130) (ls' := [some (.ref 0), some (.int (nI 46)), some (.int (nI n)), some (.int (nI (120 + n))), some (.int (nI 3))]) (st' := [.int (nI 2), .ref 3, .int (nI (120 + n)), .ref 12]) (σ' := (am_wr (am_wr (am_wr (am_wr (am_wr (am_wr (am_wr (am_wr (am_wr (am_wr (am_wr σ 2 2 (nI (n + 1))) 5 (120 + n) (nI 46)) 6 (120 + n) (-1)) 7 (120 + n) (-1)) 8 (120 + n) (-1)) 15 (120 + n) (-1)) 12 (120 + n) (-1)) 10 (120 + n) (nI nw)) 11 (3 * (120 + n) + 0) o0) 11 (3 * (120 + n) + 1) o1) 11 (3 * (120 + n) + 2) o2)) rfl ?_
  refine am_ialdN (n := 3) (v := nI kk) rfl rfl rfl (by omega) (by rw [am_wr_ne _ (by omega), am_wr_ne _ (by omega), am_wr_ne _ (by omega), am_wr_ne _ (by omega), am_wr_ne _ (by omega), am_wr_ne _ (by omega), am_wr_ne _ (by omega), am_wr_ne _ (by omega), am_wr_ne _ (by omega), am_wr_ne _ (by omega), am_wr_ne _ (by omega)]; exact h3) (by decide) ?_
  refine am_iastN (n := 180) rfl rfl rfl (by omega) (by decide) ?_
  refine am_run 4 (pc' := 138) (ls' := [some (.ref 0), some (.int (nI 46)), some (.int (nI n)), some (.int (nI (120 + n))), some (.int (nI 3))]) (st' := [.int (nI 2), .ref 3, .int (nI 2), .ref 3]) (σ' := (am_wr (am_wr (am_wr (am_wr (am_wr (am_wr (am_wr (am_wr (am_wr (am_wr (am_wr (am_wr σ 2 2 (nI (n + 1))) 5 (120 + n) (nI 46)) 6 (120 + n) (-1)) 7 (120 + n) (-1)) 8 (120 + n) (-1)) 15 (120 + n) (-1)) 12 (120 + n) (-1)) 10 (120 + n) (nI nw)) 11 (3 * (120 + n) + 0) o0) 11 (3 * (120 + n) + 1) o1) 11 (3 * (120 + n) + 2) o2) 12 (120 + n) (nI kk))) rfl ?_
  refine am_ialdN (n := 3) (v := nI kk) rfl rfl rfl (by omega) (by rw [am_wr_ne _ (by omega), am_wr_ne _ (by omega), am_wr_ne _ (by omega), am_wr_ne _ (by omega), am_wr_ne _ (by omega), am_wr_ne _ (by omega), am_wr_ne _ (by omega), am_wr_ne _ (by omega), am_wr_ne _ (by omega), am_wr_ne _ (by omega), am_wr_ne _ (by omega), am_wr_ne _ (by omega)]; exact h3) (by decide) ?_
  refine am_run 2 (pc' := 141) (ls' := [some (.ref 0), some (.int (nI 46)), some (.int (nI n)), some (.int (nI (120 + n))), some (.int (nI 3))]) (st' := [.int (nI kk + nI 1), .int (nI 2), .ref 3]) (σ' := (am_wr (am_wr (am_wr (am_wr (am_wr (am_wr (am_wr (am_wr (am_wr (am_wr (am_wr (am_wr σ 2 2 (nI (n + 1))) 5 (120 + n) (nI 46)) 6 (120 + n) (-1)) 7 (120 + n) (-1)) 8 (120 + n) (-1)) 15 (120 + n) (-1)) 12 (120 + n) (-1)) 10 (120 + n) (nI nw)) 11 (3 * (120 + n) + 0) o0) 11 (3 * (120 + n) + 1) o1) 11 (3 * (120 + n) + 2) o2) 12 (120 + n) (nI kk))) rfl ?_
  refine am_top (v' := nI (kk + 1)) (nI_add _ _) ?_
  refine am_iastN (n := 3) rfl rfl rfl (by omega) (by decide) ?_
  refine am_run 1 (pc' := 143) (ls' := [some (.ref 0), some (.int (nI 46)), some (.int (nI n)), some (.int (nI (120 + n))), some (.int (nI 3))]) (st' := [.int (nI n)]) (σ' := (am_wr (am_wr (am_wr (am_wr (am_wr (am_wr (am_wr (am_wr (am_wr (am_wr (am_wr (am_wr (am_wr σ 2 2 (nI (n + 1))) 5 (120 + n) (nI 46)) 6 (120 + n) (-1)) 7 (120 + n) (-1)) 8 (120 + n) (-1)) 15 (120 + n) (-1)) 12 (120 + n) (-1)) 10 (120 + n) (nI nw)) 11 (3 * (120 + n) + 0) o0) 11 (3 * (120 + n) + 1) o1) 11 (3 * (120 + n) + 2) o2) 12 (120 + n) (nI kk)) 3 2 (nI (kk + 1)))) rfl ?_
  refine am_reti rfl rfl ?_
  exact hq
set_option maxRecDepth 10000 in
set_option maxHeartbeats 2000000 in
theorem c_m_newNode_38 {d : Nat} (hd : 2 ≤ d) {σ : am_M} {n kk nw : Nat} {o0 o1 o2 : Int32} (h2 : σ.1 2 2 = nI n) (h3 : σ.1 3 2 = nI kk) (h33 : σ.1 0 33 = nI nw) (hn : n < 60) (q0 : σ.1 27 0 = o0) (q1 : σ.1 27 1 = o1) (q2 : σ.1 27 2 = o2) {Q : am_Q} (hq : Q (some (.int (nI n))) (am_wr (am_wr (am_wr (am_wr (am_wr (am_wr (am_wr (am_wr (am_wr (am_wr (am_wr (am_wr (am_wr σ 2 2 (nI (n + 1))) 5 (120 + n) (nI 38)) 6 (120 + n) (-1)) 7 (120 + n) (-1)) 8 (120 + n) (-1)) 15 (120 + n) (-1)) 12 (120 + n) (-1)) 10 (120 + n) (nI nw)) 11 (3 * (120 + n) + 0) o0) 11 (3 * (120 + n) + 1) o1) 11 (3 * (120 + n) + 2) o2) 12 (120 + n) (nI kk)) 3 2 (nI (kk + 1)))) : am_C d 159 [.ref 0, .int (nI 38)] σ Q := by
  refine am_enter' (M := M_X10_newNode) rfl rfl rfl (by omega) (ls := [some (.ref 0), some (.int (nI 38)), none, none, none]) rfl (fun d' hd' => ?_)
  refine am_run 3 (pc' := 5) (ls' := [some (.ref 0), some (.int (nI 38)), none, none, none]) (st' := [.int (nI 2), .ref 2]) (σ' := σ) rfl ?_
  refine am_ialdN (n := 3) (v := nI n) rfl rfl rfl (by omega) (h2) (by decide) ?_
  refine am_run 3 (pc' := 9) (ls' := [some (.ref 0), some (.int (nI 38)), some (.int (nI n)), none, none]) (st' := [.int (nI n), .int (nI 2)]) (σ' := σ) rfl ?_
  refine am_invs (y := 158) (as := [.int (nI 2), .int (nI n)]) (rest := []) rfl rfl rfl rfl rfl rfl (Nat.le_of_ble_eq_true rfl) ?_
  refine c_m_placeOf (by omega) (j := 2) ?_
  show am_G _ M_X10_newNode _ 12 [some (.ref 0), some (.int (nI 38)), some (.int (nI n)), none, none] [.int (nI (120 + n))] σ
  refine am_run 5 (pc' := 19) (ls' := [some (.ref 0), some (.int (nI 38)), some (.int (nI n)), some (.int (nI (120 + n))), none]) (st' := [.int (nI 2), .ref 2, .int (nI 2), .ref 2]) (σ' := σ) rfl ?_
  refine am_ialdN (n := 3) (v := nI n) rfl rfl rfl (by omega) (h2) (by decide) ?_
  refine am_run 2 (pc' := 22) (ls' := [some (.ref 0), some (.int (nI 38)), some (.int (nI n)), some (.int (nI (120 + n))), none]) (st' := [.int (nI n + nI 1), .int (nI 2), .ref 2]) (σ' := σ) rfl ?_
  refine am_top (v' := nI (n + 1)) (nI_add _ _) ?_
  refine am_iastN (n := 3) rfl rfl rfl (by omega) (by decide) ?_
  refine am_run 4 (pc' := 29) (ls' := [some (.ref 0), some (.int (nI 38)), some (.int (nI n)), some (.int (nI (120 + n))), none]) (st' := [.int (nI 38), .int (nI (120 + n)), .ref 5]) (σ' := (am_wr σ 2 2 (nI (n + 1)))) rfl ?_
  refine am_iastN (n := 180) rfl rfl rfl (by omega) (by decide) ?_
  refine am_run 4 (pc' := 36) (ls' := [some (.ref 0), some (.int (nI 38)), some (.int (nI n)), some (.int (nI (120 + n))), none]) (st' := [.int (-1), .int (nI (120 + n)), .ref 6]) (σ' := (am_wr (am_wr σ 2 2 (nI (n + 1))) 5 (120 + n) (nI 38))) rfl ?_
  refine am_iastN (n := 180) rfl rfl rfl (by omega) (by decide) ?_
  refine am_run 4 (pc' := 43) (ls' := [some (.ref 0), some (.int (nI 38)), some (.int (nI n)), some (.int (nI (120 + n))), none]) (st' := [.int (-1), .int (nI (120 + n)), .ref 7]) (σ' := (am_wr (am_wr (am_wr σ 2 2 (nI (n + 1))) 5 (120 + n) (nI 38)) 6 (120 + n) (-1))) rfl ?_
  refine am_iastN (n := 180) rfl rfl rfl (by omega) (by decide) ?_
  refine am_run 4 (pc' := 50) (ls' := [some (.ref 0), some (.int (nI 38)), some (.int (nI n)), some (.int (nI (120 + n))), none]) (st' := [.int (-1), .int (nI (120 + n)), .ref 8]) (σ' := (am_wr (am_wr (am_wr (am_wr σ 2 2 (nI (n + 1))) 5 (120 + n) (nI 38)) 6 (120 + n) (-1)) 7 (120 + n) (-1))) rfl ?_
  refine am_iastN (n := 180) rfl rfl rfl (by omega) (by decide) ?_
  refine am_run 4 (pc' := 57) (ls' := [some (.ref 0), some (.int (nI 38)), some (.int (nI n)), some (.int (nI (120 + n))), none]) (st' := [.int (-1), .int (nI (120 + n)), .ref 15]) (σ' := (am_wr (am_wr (am_wr (am_wr (am_wr σ 2 2 (nI (n + 1))) 5 (120 + n) (nI 38)) 6 (120 + n) (-1)) 7 (120 + n) (-1)) 8 (120 + n) (-1))) rfl ?_
  refine am_iastN (n := 180) rfl rfl rfl (by omega) (by decide) ?_
  refine am_run 4 (pc' := 64) (ls' := [some (.ref 0), some (.int (nI 38)), some (.int (nI n)), some (.int (nI (120 + n))), none]) (st' := [.int (-1), .int (nI (120 + n)), .ref 12]) (σ' := (am_wr (am_wr (am_wr (am_wr (am_wr (am_wr σ 2 2 (nI (n + 1))) 5 (120 + n) (nI 38)) 6 (120 + n) (-1)) 7 (120 + n) (-1)) 8 (120 + n) (-1)) 15 (120 + n) (-1))) rfl ?_
  refine am_iastN (n := 180) rfl rfl rfl (by omega) (by decide) ?_
  refine am_run 5 (pc' := 74) (ls' := [some (.ref 0), some (.int (nI 38)), some (.int (nI n)), some (.int (nI (120 + n))), none]) (st' := [.int (σ.1 0 33), .int (nI (120 + n)), .ref 10]) (σ' := (am_wr (am_wr (am_wr (am_wr (am_wr (am_wr (am_wr σ 2 2 (nI (n + 1))) 5 (120 + n) (nI 38)) 6 (120 + n) (-1)) 7 (120 + n) (-1)) 8 (120 + n) (-1)) 15 (120 + n) (-1)) 12 (120 + n) (-1))) rfl ?_
  refine am_top (v' := nI nw) h33 ?_
  refine am_iastN (n := 180) rfl rfl rfl (by omega) (by decide) ?_
  refine am_run 4 (pc' := 81) (ls' := [some (.ref 0), some (.int (nI 38)), some (.int (nI n)), some (.int (nI (120 + n))), some (.int (nI 0))]) (st' := [.int (nI 3), .int (nI 0)]) (σ' := (am_wr (am_wr (am_wr (am_wr (am_wr (am_wr (am_wr (am_wr σ 2 2 (nI (n + 1))) 5 (120 + n) (nI 38)) 6 (120 + n) (-1)) 7 (120 + n) (-1)) 8 (120 + n) (-1)) 15 (120 + n) (-1)) 12 (120 + n) (-1)) 10 (120 + n) (nI nw))) rfl ?_
  refine am_ic (ty := 84) (tn := 108) rfl (by decide) rfl rfl (fun (h_1 : nI 0 < nI 3) => ?_) (fun (h_1 : ¬ (nI 0 < nI 3)) => ?_)
  rotate_left
  · exact absurd (by decide) h_1
  refine am_run 5 (pc' := 91) (ls' := [some (.ref 0), some (.int (nI 38)), some (.int (nI n)), some (.int (nI (120 + n))), some (.int (nI 0))]) (st' := [.int (nI 3 * nI (120 + n)), .ref 11]) (σ' := (am_wr (am_wr (am_wr (am_wr (am_wr (am_wr (am_wr (am_wr σ 2 2 (nI (n + 1))) 5 (120 + n) (nI 38)) 6 (120 + n) (-1)) 7 (120 + n) (-1)) 8 (120 + n) (-1)) 15 (120 + n) (-1)) 12 (120 + n) (-1)) 10 (120 + n) (nI nw))) rfl ?_
  refine am_top (v' := nI (3 * (120 + n))) (am_nmul _ _) ?_
  refine am_run 2 (pc' := 94) (ls' := [some (.ref 0), some (.int (nI 38)), some (.int (nI n)), some (.int (nI (120 + n))), some (.int (nI 0))]) (st' := [.int (nI (3 * (120 + n)) + nI 0), .ref 11]) (σ' := (am_wr (am_wr (am_wr (am_wr (am_wr (am_wr (am_wr (am_wr σ 2 2 (nI (n + 1))) 5 (120 + n) (nI 38)) 6 (120 + n) (-1)) 7 (120 + n) (-1)) 8 (120 + n) (-1)) 15 (120 + n) (-1)) 12 (120 + n) (-1)) 10 (120 + n) (nI nw))) rfl ?_
  refine am_top (v' := nI (3 * (120 + n) + 0)) (nI_add _ _) ?_
  refine am_run 3 (pc' := 100) (ls' := [some (.ref 0), some (.int (nI 38)), some (.int (nI n)), some (.int (nI (120 + n))), some (.int (nI 0))]) (st' := [.int (nI 0), .ref 27, .int (nI (3 * (120 + n) + 0)), .ref 11]) (σ' := (am_wr (am_wr (am_wr (am_wr (am_wr (am_wr (am_wr (am_wr σ 2 2 (nI (n + 1))) 5 (120 + n) (nI 38)) 6 (120 + n) (-1)) 7 (120 + n) (-1)) 8 (120 + n) (-1)) 15 (120 + n) (-1)) 12 (120 + n) (-1)) 10 (120 + n) (nI nw))) rfl ?_
  refine am_ialdN (n := 4) (v := o0) rfl rfl rfl (by omega) (by rw [am_wr_ne _ (by omega), am_wr_ne _ (by omega), am_wr_ne _ (by omega), am_wr_ne _ (by omega), am_wr_ne _ (by omega), am_wr_ne _ (by omega), am_wr_ne _ (by omega), am_wr_ne _ (by omega)]; exact q0) (by decide) ?_
  refine am_iastN (n := 540) rfl rfl rfl (by omega) (by decide) ?_
  refine am_run 1 (pc' := 105) (ls' := [some (.ref 0), some (.int (nI 38)), some (.int (nI n)), some (.int (nI (120 + n))), some (.int (nI 0 + nI 1))]) (st' := []) (σ' := (am_wr (am_wr (am_wr (am_wr (am_wr (am_wr (am_wr (am_wr (am_wr σ 2 2 (nI (n + 1))) 5 (120 + n) (nI 38)) 6 (120 + n) (-1)) 7 (120 + n) (-1)) 8 (120 + n) (-1)) 15 (120 + n) (-1)) 12 (120 + n) (-1)) 10 (120 + n) (nI nw)) 11 (3 * (120 + n) + 0) o0)) rfl ?_
  refine am_ls (ls' := [some (.ref 0), some (.int (nI 38)), some (.int (nI n)), some (.int (nI (120 + n))), some (.int (nI 1))]) (by rw [nI_add]) ?_
  refine am_run 3 (pc' := 81) (ls' := [some (.ref 0), some (.int (nI 38)), some (.int (nI n)), some (.int (nI (120 + n))), some (.int (nI 1))]) (st' := [.int (nI 3), .int (nI 1)]) (σ' := (am_wr (am_wr (am_wr (am_wr (am_wr (am_wr (am_wr (am_wr (am_wr σ 2 2 (nI (n + 1))) 5 (120 + n) (nI 38)) 6 (120 + n) (-1)) 7 (120 + n) (-1)) 8 (120 + n) (-1)) 15 (120 + n) (-1)) 12 (120 + n) (-1)) 10 (120 + n) (nI nw)) 11 (3 * (120 + n) + 0) o0)) rfl ?_
  refine am_ic (ty := 84) (tn := 108) rfl (by decide) rfl rfl (fun (h_2 : nI 1 < nI 3) => ?_) (fun (h_2 : ¬ (nI 1 < nI 3)) => ?_)
  rotate_left
  · exact absurd (by decide) h_2
  refine am_run 5 (pc' := 91) (ls' := [some (.ref 0), some (.int (nI 38)), some (.int (nI n)), some (.int (nI (120 + n))), some (.int (nI 1))]) (st' := [.int (nI 3 * nI (120 + n)), .ref 11]) (σ' := (am_wr (am_wr (am_wr (am_wr (am_wr (am_wr (am_wr (am_wr (am_wr σ 2 2 (nI (n + 1))) 5 (120 + n) (nI 38)) 6 (120 + n) (-1)) 7 (120 + n) (-1)) 8 (120 + n) (-1)) 15 (120 + n) (-1)) 12 (120 + n) (-1)) 10 (120 + n) (nI nw)) 11 (3 * (120 + n) + 0) o0)) rfl ?_
  refine am_top (v' := nI (3 * (120 + n))) (am_nmul _ _) ?_
  refine am_run 2 (pc' := 94) (ls' := [some (.ref 0), some (.int (nI 38)), some (.int (nI n)), some (.int (nI (120 + n))), some (.int (nI 1))]) (st' := [.int (nI (3 * (120 + n)) + nI 1), .ref 11]) (σ' := (am_wr (am_wr (am_wr (am_wr (am_wr (am_wr (am_wr (am_wr (am_wr σ 2 2 (nI (n + 1))) 5 (120 + n) (nI 38)) 6 (120 + n) (-1)) 7 (120 + n) (-1)) 8 (120 + n) (-1)) 15 (120 + n) (-1)) 12 (120 + n) (-1)) 10 (120 + n) (nI nw)) 11 (3 * (120 + n) + 0) o0)) rfl ?_
  refine am_top (v' := nI (3 * (120 + n) + 1)) (nI_add _ _) ?_
  refine am_run 3 (pc' := 100) (ls' := [some (.ref 0), some (.int (nI 38)), some (.int (nI n)), some (.int (nI (120 + n))), some (.int (nI 1))]) (st' := [.int (nI 1), .ref 27, .int (nI (3 * (120 + n) + 1)), .ref 11]) (σ' := (am_wr (am_wr (am_wr (am_wr (am_wr (am_wr (am_wr (am_wr (am_wr σ 2 2 (nI (n + 1))) 5 (120 + n) (nI 38)) 6 (120 + n) (-1)) 7 (120 + n) (-1)) 8 (120 + n) (-1)) 15 (120 + n) (-1)) 12 (120 + n) (-1)) 10 (120 + n) (nI nw)) 11 (3 * (120 + n) + 0) o0)) rfl ?_
  refine am_ialdN (n := 4) (v := o1) rfl rfl rfl (by omega) (by rw [am_wr_ne _ (by omega), am_wr_ne _ (by omega), am_wr_ne _ (by omega), am_wr_ne _ (by omega), am_wr_ne _ (by omega), am_wr_ne _ (by omega), am_wr_ne _ (by omega), am_wr_ne _ (by omega), am_wr_ne _ (by omega)]; exact q1) (by decide) ?_
  refine am_iastN (n := 540) rfl rfl rfl (by omega) (by decide) ?_
  refine am_run 1 (pc' := 105) (ls' := [some (.ref 0), some (.int (nI 38)), some (.int (nI n)), some (.int (nI (120 + n))), some (.int (nI 1 + nI 1))]) (st' := []) (σ' := (am_wr (am_wr (am_wr (am_wr (am_wr (am_wr (am_wr (am_wr (am_wr (am_wr σ 2 2 (nI (n + 1))) 5 (120 + n) (nI 38)) 6 (120 + n) (-1)) 7 (120 + n) (-1)) 8 (120 + n) (-1)) 15 (120 + n) (-1)) 12 (120 + n) (-1)) 10 (120 + n) (nI nw)) 11 (3 * (120 + n) + 0) o0) 11 (3 * (120 + n) + 1) o1)) rfl ?_
  refine am_ls (ls' := [some (.ref 0), some (.int (nI 38)), some (.int (nI n)), some (.int (nI (120 + n))), some (.int (nI 2))]) (by rw [nI_add]) ?_
  refine am_run 3 (pc' := 81) (ls' := [some (.ref 0), some (.int (nI 38)), some (.int (nI n)), some (.int (nI (120 + n))), some (.int (nI 2))]) (st' := [.int (nI 3), .int (nI 2)]) (σ' := (am_wr (am_wr (am_wr (am_wr (am_wr (am_wr (am_wr (am_wr (am_wr (am_wr σ 2 2 (nI (n + 1))) 5 (120 + n) (nI 38)) 6 (120 + n) (-1)) 7 (120 + n) (-1)) 8 (120 + n) (-1)) 15 (120 + n) (-1)) 12 (120 + n) (-1)) 10 (120 + n) (nI nw)) 11 (3 * (120 + n) + 0) o0) 11 (3 * (120 + n) + 1) o1)) rfl ?_
  refine am_ic (ty := 84) (tn := 108) rfl (by decide) rfl rfl (fun (h_3 : nI 2 < nI 3) => ?_) (fun (h_3 : ¬ (nI 2 < nI 3)) => ?_)
  rotate_left
  · exact absurd (by decide) h_3
  refine am_run 5 (pc' := 91) (ls' := [some (.ref 0), some (.int (nI 38)), some (.int (nI n)), some (.int (nI (120 + n))), some (.int (nI 2))]) (st' := [.int (nI 3 * nI (120 + n)), .ref 11]) (σ' := (am_wr (am_wr (am_wr (am_wr (am_wr (am_wr (am_wr (am_wr (am_wr (am_wr σ 2 2 (nI (n + 1))) 5 (120 + n) (nI 38)) 6 (120 + n) (-1)) 7 (120 + n) (-1)) 8 (120 + n) (-1)) 15 (120 + n) (-1)) 12 (120 + n) (-1)) 10 (120 + n) (nI nw)) 11 (3 * (120 + n) + 0) o0) 11 (3 * (120 + n) + 1) o1)) rfl ?_
  refine am_top (v' := nI (3 * (120 + n))) (am_nmul _ _) ?_
  refine am_run 2 (pc' := 94) (ls' := [some (.ref 0), some (.int (nI 38)), some (.int (nI n)), some (.int (nI (120 + n))), some (.int (nI 2))]) (st' := [.int (nI (3 * (120 + n)) + nI 2), .ref 11]) (σ' := (am_wr (am_wr (am_wr (am_wr (am_wr (am_wr (am_wr (am_wr (am_wr (am_wr σ 2 2 (nI (n + 1))) 5 (120 + n) (nI 38)) 6 (120 + n) (-1)) 7 (120 + n) (-1)) 8 (120 + n) (-1)) 15 (120 + n) (-1)) 12 (120 + n) (-1)) 10 (120 + n) (nI nw)) 11 (3 * (120 + n) + 0) o0) 11 (3 * (120 + n) + 1) o1)) rfl ?_
  refine am_top (v' := nI (3 * (120 + n) + 2)) (nI_add _ _) ?_
  refine am_run 3 (pc' := 100) (ls' := [some (.ref 0), some (.int (nI 38)), some (.int (nI n)), some (.int (nI (120 + n))), some (.int (nI 2))]) (st' := [.int (nI 2), .ref 27, .int (nI (3 * (120 + n) + 2)), .ref 11]) (σ' := (am_wr (am_wr (am_wr (am_wr (am_wr (am_wr (am_wr (am_wr (am_wr (am_wr σ 2 2 (nI (n + 1))) 5 (120 + n) (nI 38)) 6 (120 + n) (-1)) 7 (120 + n) (-1)) 8 (120 + n) (-1)) 15 (120 + n) (-1)) 12 (120 + n) (-1)) 10 (120 + n) (nI nw)) 11 (3 * (120 + n) + 0) o0) 11 (3 * (120 + n) + 1) o1)) rfl ?_
  refine am_ialdN (n := 4) (v := o2) rfl rfl rfl (by omega) (by rw [am_wr_ne _ (by omega), am_wr_ne _ (by omega), am_wr_ne _ (by omega), am_wr_ne _ (by omega), am_wr_ne _ (by omega), am_wr_ne _ (by omega), am_wr_ne _ (by omega), am_wr_ne _ (by omega), am_wr_ne _ (by omega), am_wr_ne _ (by omega)]; exact q2) (by decide) ?_
  refine am_iastN (n := 540) rfl rfl rfl (by omega) (by decide) ?_
  refine am_run 1 (pc' := 105) (ls' := [some (.ref 0), some (.int (nI 38)), some (.int (nI n)), some (.int (nI (120 + n))), some (.int (nI 2 + nI 1))]) (st' := []) (σ' := (am_wr (am_wr (am_wr (am_wr (am_wr (am_wr (am_wr (am_wr (am_wr (am_wr (am_wr σ 2 2 (nI (n + 1))) 5 (120 + n) (nI 38)) 6 (120 + n) (-1)) 7 (120 + n) (-1)) 8 (120 + n) (-1)) 15 (120 + n) (-1)) 12 (120 + n) (-1)) 10 (120 + n) (nI nw)) 11 (3 * (120 + n) + 0) o0) 11 (3 * (120 + n) + 1) o1) 11 (3 * (120 + n) + 2) o2)) rfl ?_
  refine am_ls (ls' := [some (.ref 0), some (.int (nI 38)), some (.int (nI n)), some (.int (nI (120 + n))), some (.int (nI 3))]) (by rw [nI_add]) ?_
  refine am_run 3 (pc' := 81) (ls' := [some (.ref 0), some (.int (nI 38)), some (.int (nI n)), some (.int (nI (120 + n))), some (.int (nI 3))]) (st' := [.int (nI 3), .int (nI 3)]) (σ' := (am_wr (am_wr (am_wr (am_wr (am_wr (am_wr (am_wr (am_wr (am_wr (am_wr (am_wr σ 2 2 (nI (n + 1))) 5 (120 + n) (nI 38)) 6 (120 + n) (-1)) 7 (120 + n) (-1)) 8 (120 + n) (-1)) 15 (120 + n) (-1)) 12 (120 + n) (-1)) 10 (120 + n) (nI nw)) 11 (3 * (120 + n) + 0) o0) 11 (3 * (120 + n) + 1) o1) 11 (3 * (120 + n) + 2) o2)) rfl ?_
  refine am_ic (ty := 84) (tn := 108) rfl (by decide) rfl rfl (fun (h_4 : nI 3 < nI 3) => ?_) (fun (h_4 : ¬ (nI 3 < nI 3)) => ?_)
  · exact absurd h_4 (by decide)
  refine am_run 2 (pc' := 111) (ls' := [some (.ref 0), some (.int (nI 38)), some (.int (nI n)), some (.int (nI (120 + n))), some (.int (nI 3))]) (st' := [.int (nI 46), .int (nI 38)]) (σ' := (am_wr (am_wr (am_wr (am_wr (am_wr (am_wr (am_wr (am_wr (am_wr (am_wr (am_wr σ 2 2 (nI (n + 1))) 5 (120 + n) (nI 38)) 6 (120 + n) (-1)) 7 (120 + n) (-1)) 8 (120 + n) (-1)) 15 (120 + n) (-1)) 12 (120 + n) (-1)) 10 (120 + n) (nI nw)) 11 (3 * (120 + n) + 0) o0) 11 (3 * (120 + n) + 1) o1) 11 (3 * (120 + n) + 2) o2)) rfl ?_
  refine am_ic (ty := 120) (tn := 114) rfl (by decide) rfl rfl (fun (h_5 : nI 38 = nI 46) => ?_) (fun (h_5 : ¬ (nI 38 = nI 46)) => ?_)
  · exact absurd h_5 (by decide)
  refine am_run 2 (pc' := 117) (ls' := [some (.ref 0), some (.int (nI 38)), some (.int (nI n)), some (.int (nI (120 + n))), some (.int (nI 3))]) (st' := [.int (nI 38), .int (nI 38)]) (σ' := (am_wr (am_wr (am_wr (am_wr (am_wr (am_wr (am_wr (am_wr (am_wr (am_wr (am_wr σ 2 2 (nI (n + 1))) 5 (120 + n) (nI 38)) 6 (120 + n) (-1)) 7 (120 + n) (-1)) 8 (120 + n) (-1)) 15 (120 + n) (-1)) 12 (120 + n) (-1)) 10 (120 + n) (nI nw)) 11 (3 * (120 + n) + 0) o0) 11 (3 * (120 + n) + 1) o1) 11 (3 * (120 + n) + 2) o2)) rfl ?_
  refine am_ic (ty := 120) (tn := 142) rfl (by decide) rfl rfl (fun (h_6 : nI 38 = nI 38) => ?_) (fun (h_6 : ¬ (nI 38 = nI 38)) => ?_)
  rotate_left
  · exact absurd (by decide) h_6
  refine am_run 6 (pc' := 130) (ls' := [some (.ref 0), some (.int (nI 38)), some (.int (nI n)), some (.int (nI (120 + n))), some (.int (nI 3))]) (st' := [.int (nI 2), .ref 3, .int (nI (120 + n)), .ref 12]) (σ' := (am_wr (am_wr (am_wr (am_wr (am_wr (am_wr (am_wr (am_wr (am_wr (am_wr (am_wr σ 2 2 (nI (n + 1))) 5 (120 + n) (nI 38)) 6 (120 + n) (-1)) 7 (120 + n) (-1)) 8 (120 + n) (-1)) 15 (120 + n) (-1)) 12 (120 + n) (-1)) 10 (120 + n) (nI nw)) 11 (3 * (120 + n) + 0) o0) 11 (3 * (120 + n) + 1) o1) 11 (3 * (120 + n) + 2) o2)) rfl ?_
  refine am_ialdN (n := 3) (v := nI kk) rfl rfl rfl (by omega) (by rw [am_wr_ne _ (by omega), am_wr_ne _ (by omega), am_wr_ne _ (by omega), am_wr_ne _ (by omega), am_wr_ne _ (by omega), am_wr_ne _ (by omega), am_wr_ne _ (by omega), am_wr_ne _ (by omega), am_wr_ne _ (by omega), am_wr_ne _ (by omega), am_wr_ne _ (by omega)]; exact h3) (by decide) ?_
  refine am_iastN (n := 180) rfl rfl rfl (by omega) (by decide) ?_
  refine am_run 4 (pc' := 138) (ls' := [some (.ref 0), some (.int (nI 38)), some (.int (nI n)), some (.int (nI (120 + n))), some (.int (nI 3))]) (st' := [.int (nI 2), .ref 3, .int (nI 2), .ref 3]) (σ' := (am_wr (am_wr (am_wr (am_wr (am_wr (am_wr (am_wr (am_wr (am_wr (am_wr (am_wr (am_wr σ 2 2 (nI (n + 1))) 5 (120 + n) (nI 38)) 6 (120 + n) (-1)) 7 (120 + n) (-1)) 8 (120 + n) (-1)) 15 (120 + n) (-1)) 12 (120 + n) (-1)) 10 (120 + n) (nI nw)) 11 (3 * (120 + n) + 0) o0) 11 (3 * (120 + n) + 1) o1) 11 (3 * (120 + n) + 2) o2) 12 (120 + n) (nI kk))) rfl ?_
  refine am_ialdN (n := 3) (v := nI kk) rfl rfl rfl (by omega) (by rw [am_wr_ne _ (by omega), am_wr_ne _ (by omega), am_wr_ne _ (by omega), am_wr_ne _ (by omega), am_wr_ne _ (by omega), am_wr_ne _ (by omega), am_wr_ne _ (by omega), am_wr_ne _ (by omega), am_wr_ne _ (by omega), am_wr_ne _ (by omega), am_wr_ne _ (by omega), am_wr_ne _ (by omega)]; exact h3) (by decide) ?_
  refine am_run 2 (pc' := 141) (ls' := [some (.ref 0), some (.int (nI 38)), some (.int (nI n)), some (.int (nI (120 + n))), some (.int (nI 3))]) (st' := [.int (nI kk + nI 1), .int (nI 2), .ref 3]) (σ' := (am_wr (am_wr (am_wr (am_wr (am_wr (am_wr (am_wr (am_wr (am_wr (am_wr (am_wr (am_wr σ 2 2 (nI (n + 1))) 5 (120 + n) (nI 38)) 6 (120 + n) (-1)) 7 (120 + n) (-1)) 8 (120 + n) (-1)) 15 (120 + n) (-1)) 12 (120 + n) (-1)) 10 (120 + n) (nI nw)) 11 (3 * (120 + n) + 0) o0) 11 (3 * (120 + n) + 1) o1) 11 (3 * (120 + n) + 2) o2) 12 (120 + n) (nI kk))) rfl ?_
  refine am_top (v' := nI (kk + 1)) (nI_add _ _) ?_
  refine am_iastN (n := 3) rfl rfl rfl (by omega) (by decide) ?_
  refine am_run 1 (pc' := 143) (ls' := [some (.ref 0), some (.int (nI 38)), some (.int (nI n)), some (.int (nI (120 + n))), some (.int (nI 3))]) (st' := [.int (nI n)]) (σ' := (am_wr (am_wr (am_wr (am_wr (am_wr (am_wr (am_wr (am_wr (am_wr (am_wr (am_wr (am_wr (am_wr σ 2 2 (nI (n + 1))) 5 (120 + n) (nI 38)) 6 (120 + n) (-1)) 7 (120 + n) (-1)) 8 (120 + n) (-1)) 15 (120 + n) (-1)) 12 (120 + n) (-1)) 10 (120 + n) (nI nw)) 11 (3 * (120 + n) + 0) o0) 11 (3 * (120 + n) + 1) o1) 11 (3 * (120 + n) + 2) o2) 12 (120 + n) (nI kk)) 3 2 (nI (kk + 1)))) rfl ?_
  refine am_reti rfl rfl ?_
  exact hq
set_option maxRecDepth 10000 in
set_option maxHeartbeats 2000000 in
theorem c_m_newNode_48 {d : Nat} (hd : 2 ≤ d) {σ : am_M} {n kk nw : Nat} {o0 o1 o2 : Int32} (h2 : σ.1 2 2 = nI n) (h3 : σ.1 3 2 = nI kk) (h33 : σ.1 0 33 = nI nw) (hn : n < 60) (q0 : σ.1 27 0 = o0) (q1 : σ.1 27 1 = o1) (q2 : σ.1 27 2 = o2) {Q : am_Q} (hq : Q (some (.int (nI n))) (am_wr (am_wr (am_wr (am_wr (am_wr (am_wr (am_wr (am_wr (am_wr (am_wr (am_wr σ 2 2 (nI (n + 1))) 5 (120 + n) (nI 48)) 6 (120 + n) (-1)) 7 (120 + n) (-1)) 8 (120 + n) (-1)) 15 (120 + n) (-1)) 12 (120 + n) (-1)) 10 (120 + n) (nI nw)) 11 (3 * (120 + n) + 0) o0) 11 (3 * (120 + n) + 1) o1) 11 (3 * (120 + n) + 2) o2)) : am_C d 159 [.ref 0, .int (nI 48)] σ Q := by
  refine am_enter' (M := M_X10_newNode) rfl rfl rfl (by omega) (ls := [some (.ref 0), some (.int (nI 48)), none, none, none]) rfl (fun d' hd' => ?_)
  refine am_run 3 (pc' := 5) (ls' := [some (.ref 0), some (.int (nI 48)), none, none, none]) (st' := [.int (nI 2), .ref 2]) (σ' := σ) rfl ?_
  refine am_ialdN (n := 3) (v := nI n) rfl rfl rfl (by omega) (h2) (by decide) ?_
  refine am_run 3 (pc' := 9) (ls' := [some (.ref 0), some (.int (nI 48)), some (.int (nI n)), none, none]) (st' := [.int (nI n), .int (nI 2)]) (σ' := σ) rfl ?_
  refine am_invs (y := 158) (as := [.int (nI 2), .int (nI n)]) (rest := []) rfl rfl rfl rfl rfl rfl (Nat.le_of_ble_eq_true rfl) ?_
  refine c_m_placeOf (by omega) (j := 2) ?_
  show am_G _ M_X10_newNode _ 12 [some (.ref 0), some (.int (nI 48)), some (.int (nI n)), none, none] [.int (nI (120 + n))] σ
  refine am_run 5 (pc' := 19) (ls' := [some (.ref 0), some (.int (nI 48)), some (.int (nI n)), some (.int (nI (120 + n))), none]) (st' := [.int (nI 2), .ref 2, .int (nI 2), .ref 2]) (σ' := σ) rfl ?_
  refine am_ialdN (n := 3) (v := nI n) rfl rfl rfl (by omega) (h2) (by decide) ?_
  refine am_run 2 (pc' := 22) (ls' := [some (.ref 0), some (.int (nI 48)), some (.int (nI n)), some (.int (nI (120 + n))), none]) (st' := [.int (nI n + nI 1), .int (nI 2), .ref 2]) (σ' := σ) rfl ?_
  refine am_top (v' := nI (n + 1)) (nI_add _ _) ?_
  refine am_iastN (n := 3) rfl rfl rfl (by omega) (by decide) ?_
  refine am_run 4 (pc' := 29) (ls' := [some (.ref 0), some (.int (nI 48)), some (.int (nI n)), some (.int (nI (120 + n))), none]) (st' := [.int (nI 48), .int (nI (120 + n)), .ref 5]) (σ' := (am_wr σ 2 2 (nI (n + 1)))) rfl ?_
  refine am_iastN (n := 180) rfl rfl rfl (by omega) (by decide) ?_
  refine am_run 4 (pc' := 36) (ls' := [some (.ref 0), some (.int (nI 48)), some (.int (nI n)), some (.int (nI (120 + n))), none]) (st' := [.int (-1), .int (nI (120 + n)), .ref 6]) (σ' := (am_wr (am_wr σ 2 2 (nI (n + 1))) 5 (120 + n) (nI 48))) rfl ?_
  refine am_iastN (n := 180) rfl rfl rfl (by omega) (by decide) ?_
  refine am_run 4 (pc' := 43) (ls' := [some (.ref 0), some (.int (nI 48)), some (.int (nI n)), some (.int (nI (120 + n))), none]) (st' := [.int (-1), .int (nI (120 + n)), .ref 7]) (σ' := (am_wr (am_wr (am_wr σ 2 2 (nI (n + 1))) 5 (120 + n) (nI 48)) 6 (120 + n) (-1))) rfl ?_
  refine am_iastN (n := 180) rfl rfl rfl (by omega) (by decide) ?_
  refine am_run 4 (pc' := 50) (ls' := [some (.ref 0), some (.int (nI 48)), some (.int (nI n)), some (.int (nI (120 + n))), none]) (st' := [.int (-1), .int (nI (120 + n)), .ref 8]) (σ' := (am_wr (am_wr (am_wr (am_wr σ 2 2 (nI (n + 1))) 5 (120 + n) (nI 48)) 6 (120 + n) (-1)) 7 (120 + n) (-1))) rfl ?_
  refine am_iastN (n := 180) rfl rfl rfl (by omega) (by decide) ?_
  refine am_run 4 (pc' := 57) (ls' := [some (.ref 0), some (.int (nI 48)), some (.int (nI n)), some (.int (nI (120 + n))), none]) (st' := [.int (-1), .int (nI (120 + n)), .ref 15]) (σ' := (am_wr (am_wr (am_wr (am_wr (am_wr σ 2 2 (nI (n + 1))) 5 (120 + n) (nI 48)) 6 (120 + n) (-1)) 7 (120 + n) (-1)) 8 (120 + n) (-1))) rfl ?_
  refine am_iastN (n := 180) rfl rfl rfl (by omega) (by decide) ?_
  refine am_run 4 (pc' := 64) (ls' := [some (.ref 0), some (.int (nI 48)), some (.int (nI n)), some (.int (nI (120 + n))), none]) (st' := [.int (-1), .int (nI (120 + n)), .ref 12]) (σ' := (am_wr (am_wr (am_wr (am_wr (am_wr (am_wr σ 2 2 (nI (n + 1))) 5 (120 + n) (nI 48)) 6 (120 + n) (-1)) 7 (120 + n) (-1)) 8 (120 + n) (-1)) 15 (120 + n) (-1))) rfl ?_
  refine am_iastN (n := 180) rfl rfl rfl (by omega) (by decide) ?_
  refine am_run 5 (pc' := 74) (ls' := [some (.ref 0), some (.int (nI 48)), some (.int (nI n)), some (.int (nI (120 + n))), none]) (st' := [.int (σ.1 0 33), .int (nI (120 + n)), .ref 10]) (σ' := (am_wr (am_wr (am_wr (am_wr (am_wr (am_wr (am_wr σ 2 2 (nI (n + 1))) 5 (120 + n) (nI 48)) 6 (120 + n) (-1)) 7 (120 + n) (-1)) 8 (120 + n) (-1)) 15 (120 + n) (-1)) 12 (120 + n) (-1))) rfl ?_
  refine am_top (v' := nI nw) h33 ?_
  refine am_iastN (n := 180) rfl rfl rfl (by omega) (by decide) ?_
  refine am_run 4 (pc' := 81) (ls' := [some (.ref 0), some (.int (nI 48)), some (.int (nI n)), some (.int (nI (120 + n))), some (.int (nI 0))]) (st' := [.int (nI 3), .int (nI 0)]) (σ' := (am_wr (am_wr (am_wr (am_wr (am_wr (am_wr (am_wr (am_wr σ 2 2 (nI (n + 1))) 5 (120 + n) (nI 48)) 6 (120 + n) (-1)) 7 (120 + n) (-1)) 8 (120 + n) (-1)) 15 (120 + n) (-1)) 12 (120 + n) (-1)) 10 (120 + n) (nI nw))) rfl ?_
  refine am_ic (ty := 84) (tn := 108) rfl (by decide) rfl rfl (fun (h_1 : nI 0 < nI 3) => ?_) (fun (h_1 : ¬ (nI 0 < nI 3)) => ?_)
  rotate_left
  · exact absurd (by decide) h_1
  refine am_run 5 (pc' := 91) (ls' := [some (.ref 0), some (.int (nI 48)), some (.int (nI n)), some (.int (nI (120 + n))), some (.int (nI 0))]) (st' := [.int (nI 3 * nI (120 + n)), .ref 11]) (σ' := (am_wr (am_wr (am_wr (am_wr (am_wr (am_wr (am_wr (am_wr σ 2 2 (nI (n + 1))) 5 (120 + n) (nI 48)) 6 (120 + n) (-1)) 7 (120 + n) (-1)) 8 (120 + n) (-1)) 15 (120 + n) (-1)) 12 (120 + n) (-1)) 10 (120 + n) (nI nw))) rfl ?_
  refine am_top (v' := nI (3 * (120 + n))) (am_nmul _ _) ?_
  refine am_run 2 (pc' := 94) (ls' := [some (.ref 0), some (.int (nI 48)), some (.int (nI n)), some (.int (nI (120 + n))), some (.int (nI 0))]) (st' := [.int (nI (3 * (120 + n)) + nI 0), .ref 11]) (σ' := (am_wr (am_wr (am_wr (am_wr (am_wr (am_wr (am_wr (am_wr σ 2 2 (nI (n + 1))) 5 (120 + n) (nI 48)) 6 (120 + n) (-1)) 7 (120 + n) (-1)) 8 (120 + n) (-1)) 15 (120 + n) (-1)) 12 (120 + n) (-1)) 10 (120 + n) (nI nw))) rfl ?_
  refine am_top (v' := nI (3 * (120 + n) + 0)) (nI_add _ _) ?_
  refine am_run 3 (pc' := 100) (ls' := [some (.ref 0), some (.int (nI 48)), some (.int (nI n)), some (.int (nI (120 + n))), some (.int (nI 0))]) (st' := [.int (nI 0), .ref 27, .int (nI (3 * (120 + n) + 0)), .ref 11]) (σ' := (am_wr (am_wr (am_wr (am_wr (am_wr (am_wr (am_wr (am_wr σ 2 2 (nI (n + 1))) 5 (120 + n) (nI 48)) 6 (120 + n) (-1)) 7 (120 + n) (-1)) 8 (120 + n) (-1)) 15 (120 + n) (-1)) 12 (120 + n) (-1)) 10 (120 + n) (nI nw))) rfl ?_
  refine am_ialdN (n := 4) (v := o0) rfl rfl rfl (by omega) (by rw [am_wr_ne _ (by omega), am_wr_ne _ (by omega), am_wr_ne _ (by omega), am_wr_ne _ (by omega), am_wr_ne _ (by omega), am_wr_ne _ (by omega), am_wr_ne _ (by omega), am_wr_ne _ (by omega)]; exact q0) (by decide) ?_
  refine am_iastN (n := 540) rfl rfl rfl (by omega) (by decide) ?_
  refine am_run 1 (pc' := 105) (ls' := [some (.ref 0), some (.int (nI 48)), some (.int (nI n)), some (.int (nI (120 + n))), some (.int (nI 0 + nI 1))]) (st' := []) (σ' := (am_wr (am_wr (am_wr (am_wr (am_wr (am_wr (am_wr (am_wr (am_wr σ 2 2 (nI (n + 1))) 5 (120 + n) (nI 48)) 6 (120 + n) (-1)) 7 (120 + n) (-1)) 8 (120 + n) (-1)) 15 (120 + n) (-1)) 12 (120 + n) (-1)) 10 (120 + n) (nI nw)) 11 (3 * (120 + n) + 0) o0)) rfl ?_
  refine am_ls (ls' := [some (.ref 0), some (.int (nI 48)), some (.int (nI n)), some (.int (nI (120 + n))), some (.int (nI 1))]) (by rw [nI_add]) ?_
  refine am_run 3 (pc' := 81) (ls' := [some (.ref 0), some (.int (nI 48)), some (.int (nI n)), some (.int (nI (120 + n))), some (.int (nI 1))]) (st' := [.int (nI 3), .int (nI 1)]) (σ' := (am_wr (am_wr (am_wr (am_wr (am_wr (am_wr (am_wr (am_wr (am_wr σ 2 2 (nI (n + 1))) 5 (120 + n) (nI 48)) 6 (120 + n) (-1)) 7 (120 + n) (-1)) 8 (120 + n) (-1)) 15 (120 + n) (-1)) 12 (120 + n) (-1)) 10 (120 + n) (nI nw)) 11 (3 * (120 + n) + 0) o0)) rfl ?_
  refine am_ic (ty := 84) (tn := 108) rfl (by decide) rfl rfl (fun (h_2 : nI 1 < nI 3) => ?_) (fun (h_2 : ¬ (nI 1 < nI 3)) => ?_)
  rotate_left
  · exact absurd (by decide) h_2
  refine am_run 5 (pc' := 91) (ls' := [some (.ref 0), some (.int (nI 48)), some (.int (nI n)), some (.int (nI (120 + n))), some (.int (nI 1))]) (st' := [.int (nI 3 * nI (120 + n)), .ref 11]) (σ' := (am_wr (am_wr (am_wr (am_wr (am_wr (am_wr (am_wr (am_wr (am_wr σ 2 2 (nI (n + 1))) 5 (120 + n) (nI 48)) 6 (120 + n) (-1)) 7 (120 + n) (-1)) 8 (120 + n) (-1)) 15 (120 + n) (-1)) 12 (120 + n) (-1)) 10 (120 + n) (nI nw)) 11 (3 * (120 + n) + 0) o0)) rfl ?_
  refine am_top (v' := nI (3 * (120 + n))) (am_nmul _ _) ?_
  refine am_run 2 (pc' := 94) (ls' := [some (.ref 0), some (.int (nI 48)), some (.int (nI n)), some (.int (nI (120 + n))), some (.int (nI 1))]) (st' := [.int (nI (3 * (120 + n)) + nI 1), .ref 11]) (σ' := (am_wr (am_wr (am_wr (am_wr (am_wr (am_wr (am_wr (am_wr (am_wr σ 2 2 (nI (n + 1))) 5 (120 + n) (nI 48)) 6 (120 + n) (-1)) 7 (120 + n) (-1)) 8 (120 + n) (-1)) 15 (120 + n) (-1)) 12 (120 + n) (-1)) 10 (120 + n) (nI nw)) 11 (3 * (120 + n) + 0) o0)) rfl ?_
  refine am_top (v' := nI (3 * (120 + n) + 1)) (nI_add _ _) ?_
  refine am_run 3 (pc' := 100) (ls' := [some (.ref 0), some (.int (nI 48)), some (.int (nI n)), some (.int (nI (120 + n))), some (.int (nI 1))]) (st' := [.int (nI 1), .ref 27, .int (nI (3 * (120 + n) + 1)), .ref 11]) (σ' := (am_wr (am_wr (am_wr (am_wr (am_wr (am_wr (am_wr (am_wr (am_wr σ 2 2 (nI (n + 1))) 5 (120 + n) (nI 48)) 6 (120 + n) (-1)) 7 (120 + n) (-1)) 8 (120 + n) (-1)) 15 (120 + n) (-1)) 12 (120 + n) (-1)) 10 (120 + n) (nI nw)) 11 (3 * (120 + n) + 0) o0)) rfl ?_
  refine am_ialdN (n := 4) (v := o1) rfl rfl rfl (by omega) (by rw [am_wr_ne _ (by omega), am_wr_ne _ (by omega), am_wr_ne _ (by omega), am_wr_ne _ (by omega), am_wr_ne _ (by omega), am_wr_ne _ (by omega), am_wr_ne _ (by omega), am_wr_ne _ (by omega), am_wr_ne _ (by omega)]; exact q1) (by decide) ?_
  refine am_iastN (n := 540) rfl rfl rfl (by omega) (by decide) ?_
  refine am_run 1 (pc' := 105) (ls' := [some (.ref 0), some (.int (nI 48)), some (.int (nI n)), some (.int (nI (120 + n))), some (.int (nI 1 + nI 1))]) (st' := []) (σ' := (am_wr (am_wr (am_wr (am_wr (am_wr (am_wr (am_wr (am_wr (am_wr (am_wr σ 2 2 (nI (n + 1))) 5 (120 + n) (nI 48)) 6 (120 + n) (-1)) 7 (120 + n) (-1)) 8 (120 + n) (-1)) 15 (120 + n) (-1)) 12 (120 + n) (-1)) 10 (120 + n) (nI nw)) 11 (3 * (120 + n) + 0) o0) 11 (3 * (120 + n) + 1) o1)) rfl ?_
  refine am_ls (ls' := [some (.ref 0), some (.int (nI 48)), some (.int (nI n)), some (.int (nI (120 + n))), some (.int (nI 2))]) (by rw [nI_add]) ?_
  refine am_run 3 (pc' := 81) (ls' := [some (.ref 0), some (.int (nI 48)), some (.int (nI n)), some (.int (nI (120 + n))), some (.int (nI 2))]) (st' := [.int (nI 3), .int (nI 2)]) (σ' := (am_wr (am_wr (am_wr (am_wr (am_wr (am_wr (am_wr (am_wr (am_wr (am_wr σ 2 2 (nI (n + 1))) 5 (120 + n) (nI 48)) 6 (120 + n) (-1)) 7 (120 + n) (-1)) 8 (120 + n) (-1)) 15 (120 + n) (-1)) 12 (120 + n) (-1)) 10 (120 + n) (nI nw)) 11 (3 * (120 + n) + 0) o0) 11 (3 * (120 + n) + 1) o1)) rfl ?_
  refine am_ic (ty := 84) (tn := 108) rfl (by decide) rfl rfl (fun (h_3 : nI 2 < nI 3) => ?_) (fun (h_3 : ¬ (nI 2 < nI 3)) => ?_)
  rotate_left
  · exact absurd (by decide) h_3
  refine am_run 5 (pc' := 91) (ls' := [some (.ref 0), some (.int (nI 48)), some (.int (nI n)), some (.int (nI (120 + n))), some (.int (nI 2))]) (st' := [.int (nI 3 * nI (120 + n)), .ref 11]) (σ' := (am_wr (am_wr (am_wr (am_wr (am_wr (am_wr (am_wr (am_wr (am_wr (am_wr σ 2 2 (nI (n + 1))) 5 (120 + n) (nI 48)) 6 (120 + n) (-1)) 7 (120 + n) (-1)) 8 (120 + n) (-1)) 15 (120 + n) (-1)) 12 (120 + n) (-1)) 10 (120 + n) (nI nw)) 11 (3 * (120 + n) + 0) o0) 11 (3 * (120 + n) + 1) o1)) rfl ?_
  refine am_top (v' := nI (3 * (120 + n))) (am_nmul _ _) ?_
  refine am_run 2 (pc' := 94) (ls' := [some (.ref 0), some (.int (nI 48)), some (.int (nI n)), some (.int (nI (120 + n))), some (.int (nI 2))]) (st' := [.int (nI (3 * (120 + n)) + nI 2), .ref 11]) (σ' := (am_wr (am_wr (am_wr (am_wr (am_wr (am_wr (am_wr (am_wr (am_wr (am_wr σ 2 2 (nI (n + 1))) 5 (120 + n) (nI 48)) 6 (120 + n) (-1)) 7 (120 + n) (-1)) 8 (120 + n) (-1)) 15 (120 + n) (-1)) 12 (120 + n) (-1)) 10 (120 + n) (nI nw)) 11 (3 * (120 + n) + 0) o0) 11 (3 * (120 + n) + 1) o1)) rfl ?_
  refine am_top (v' := nI (3 * (120 + n) + 2)) (nI_add _ _) ?_
  refine am_run 3 (pc' := 100) (ls' := [some (.ref 0), some (.int (nI 48)), some (.int (nI n)), some (.int (nI (120 + n))), some (.int (nI 2))]) (st' := [.int (nI 2), .ref 27, .int (nI (3 * (120 + n) + 2)), .ref 11]) (σ' := (am_wr (am_wr (am_wr (am_wr (am_wr (am_wr (am_wr (am_wr (am_wr (am_wr σ 2 2 (nI (n + 1))) 5 (120 + n) (nI 48)) 6 (120 + n) (-1)) 7 (120 + n) (-1)) 8 (120 + n) (-1)) 15 (120 + n) (-1)) 12 (120 + n) (-1)) 10 (120 + n) (nI nw)) 11 (3 * (120 + n) + 0) o0) 11 (3 * (120 + n) + 1) o1)) rfl ?_
  refine am_ialdN (n := 4) (v := o2) rfl rfl rfl (by omega) (by rw [am_wr_ne _ (by omega), am_wr_ne _ (by omega), am_wr_ne _ (by omega), am_wr_ne _ (by omega), am_wr_ne _ (by omega), am_wr_ne _ (by omega), am_wr_ne _ (by omega), am_wr_ne _ (by omega), am_wr_ne _ (by omega), am_wr_ne _ (by omega)]; exact q2) (by decide) ?_
  refine am_iastN (n := 540) rfl rfl rfl (by omega) (by decide) ?_
  refine am_run 1 (pc' := 105) (ls' := [some (.ref 0), some (.int (nI 48)), some (.int (nI n)), some (.int (nI (120 + n))), some (.int (nI 2 + nI 1))]) (st' := []) (σ' := (am_wr (am_wr (am_wr (am_wr (am_wr (am_wr (am_wr (am_wr (am_wr (am_wr (am_wr σ 2 2 (nI (n + 1))) 5 (120 + n) (nI 48)) 6 (120 + n) (-1)) 7 (120 + n) (-1)) 8 (120 + n) (-1)) 15 (120 + n) (-1)) 12 (120 + n) (-1)) 10 (120 + n) (nI nw)) 11 (3 * (120 + n) + 0) o0) 11 (3 * (120 + n) + 1) o1) 11 (3 * (120 + n) + 2) o2)) rfl ?_
  refine am_ls (ls' := [some (.ref 0), some (.int (nI 48)), some (.int (nI n)), some (.int (nI (120 + n))), some (.int (nI 3))]) (by rw [nI_add]) ?_
  refine am_run 3 (pc' := 81) (ls' := [some (.ref 0), some (.int (nI 48)), some (.int (nI n)), some (.int (nI (120 + n))), some (.int (nI 3))]) (st' := [.int (nI 3), .int (nI 3)]) (σ' := (am_wr (am_wr (am_wr (am_wr (am_wr (am_wr (am_wr (am_wr (am_wr (am_wr (am_wr σ 2 2 (nI (n + 1))) 5 (120 + n) (nI 48)) 6 (120 + n) (-1)) 7 (120 + n) (-1)) 8 (120 + n) (-1)) 15 (120 + n) (-1)) 12 (120 + n) (-1)) 10 (120 + n) (nI nw)) 11 (3 * (120 + n) + 0) o0) 11 (3 * (120 + n) + 1) o1) 11 (3 * (120 + n) + 2) o2)) rfl ?_
  refine am_ic (ty := 84) (tn := 108) rfl (by decide) rfl rfl (fun (h_4 : nI 3 < nI 3) => ?_) (fun (h_4 : ¬ (nI 3 < nI 3)) => ?_)
  · exact absurd h_4 (by decide)
  refine am_run 2 (pc' := 111) (ls' := [some (.ref 0), some (.int (nI 48)), some (.int (nI n)), some (.int (nI (120 + n))), some (.int (nI 3))]) (st' := [.int (nI 46), .int (nI 48)]) (σ' := (am_wr (am_wr (am_wr (am_wr (am_wr (am_wr (am_wr (am_wr (am_wr (am_wr (am_wr σ 2 2 (nI (n + 1))) 5 (120 + n) (nI 48)) 6 (120 + n) (-1)) 7 (120 + n) (-1)) 8 (120 + n) (-1)) 15 (120 + n) (-1)) 12 (120 + n) (-1)) 10 (120 + n) (nI nw)) 11 (3 * (120 + n) + 0) o0) 11 (3 * (120 + n) + 1) o1) 11 (3 * (120 + n) + 2) o2)) rfl ?_
  refine am_ic (ty := 120) (tn := 114) rfl (by decide) rfl rfl (fun (h_5 : nI 48 = nI 46) => ?_) (fun (h_5 : ¬ (nI 48 = nI 46)) => ?_)
  · exact absurd h_5 (by decide)
  refine am_run 2 (pc' := 117) (ls' := [some (.ref 0), some (.int (nI 48)), some (.int (nI n)), some (.int (nI (120 + n))), some (.int (nI 3))]) (st' := [.int (nI 38), .int (nI 48)]) (σ' := (am_wr (am_wr (am_wr (am_wr (am_wr (am_wr (am_wr (am_wr (am_wr (am_wr (am_wr σ 2 2 (nI (n + 1))) 5 (120 + n) (nI 48)) 6 (120 + n) (-1)) 7 (120 + n) (-1)) 8 (120 + n) (-1)) 15 (120 + n) (-1)) 12 (120 + n) (-1)) 10 (120 + n) (nI nw)) 11 (3 * (120 + n) + 0) o0) 11 (3 * (120 + n) + 1) o1) 11 (3 * (120 + n) + 2) o2)) rfl ?_
  refine am_ic (ty := 120) (tn := 142) rfl (by decide) rfl rfl (fun (h_6 : nI 48 = nI 38) => ?_) (fun (h_6 : ¬ (nI 48 = nI 38)) => ?_)
  · exact absurd h_6 (by decide)
  refine am_run 1 (pc' := 143) (ls' := [some (.ref 0), some (.int (nI 48)), some (.int (nI n)), some (.int (nI (120 + n))), some (.int (nI 3))]) (st' := [.int (nI n)]) (σ' := (am_wr (am_wr (am_wr (am_wr (am_wr (am_wr (am_wr (am_wr (am_wr (am_wr (am_wr σ 2 2 (nI (n + 1))) 5 (120 + n) (nI 48)) 6 (120 + n) (-1)) 7 (120 + n) (-1)) 8 (120 + n) (-1)) 15 (120 + n) (-1)) 12 (120 + n) (-1)) 10 (120 + n) (nI nw)) 11 (3 * (120 + n) + 0) o0) 11 (3 * (120 + n) + 1) o1) 11 (3 * (120 + n) + 2) o2)) rfl ?_
  refine am_reti rfl rfl ?_
  exact hq
set_option maxRecDepth 10000 in
set_option maxHeartbeats 2000000 in
theorem c_m_newNode_120 {d : Nat} (hd : 2 ≤ d) {σ : am_M} {n kk nw : Nat} {o0 o1 o2 : Int32} (h2 : σ.1 2 2 = nI n) (h3 : σ.1 3 2 = nI kk) (h33 : σ.1 0 33 = nI nw) (hn : n < 60) (q0 : σ.1 27 0 = o0) (q1 : σ.1 27 1 = o1) (q2 : σ.1 27 2 = o2) {Q : am_Q} (hq : Q (some (.int (nI n))) (am_wr (am_wr (am_wr (am_wr (am_wr (am_wr (am_wr (am_wr (am_wr (am_wr (am_wr σ 2 2 (nI (n + 1))) 5 (120 + n) (nI 120)) 6 (120 + n) (-1)) 7 (120 + n) (-1)) 8 (120 + n) (-1)) 15 (120 + n) (-1)) 12 (120 + n) (-1)) 10 (120 + n) (nI nw)) 11 (3 * (120 + n) + 0) o0) 11 (3 * (120 + n) + 1) o1) 11 (3 * (120 + n) + 2) o2)) : am_C d 159 [.ref 0, .int (nI 120)] σ Q := by
  refine am_enter' (M := M_X10_newNode) rfl rfl rfl (by omega) (ls := [some (.ref 0), some (.int (nI 120)), none, none, none]) rfl (fun d' hd' => ?_)
  refine am_run 3 (pc' := 5) (ls' := [some (.ref 0), some (.int (nI 120)), none, none, none]) (st' := [.int (nI 2), .ref 2]) (σ' := σ) rfl ?_
  refine am_ialdN (n := 3) (v := nI n) rfl rfl rfl (by omega) (h2) (by decide) ?_
  refine am_run 3 (pc' := 9) (ls' := [some (.ref 0), some (.int (nI 120)), some (.int (nI n)), none, none]) (st' := [.int (nI n), .int (nI 2)]) (σ' := σ) rfl ?_
  refine am_invs (y := 158) (as := [.int (nI 2), .int (nI n)]) (rest := []) rfl rfl rfl rfl rfl rfl (Nat.le_of_ble_eq_true rfl) ?_
  refine c_m_placeOf (by omega) (j := 2) ?_
  show am_G _ M_X10_newNode _ 12 [some (.ref 0), some (.int (nI 120)), some (.int (nI n)), none, none] [.int (nI (120 + n))] σ
  refine am_run 5 (pc' := 19) (ls' := [some (.ref 0), some (.int (nI 120)), some (.int (nI n)), some (.int (nI (120 + n))), none]) (st' := [.int (nI 2), .ref 2, .int (nI 2), .ref 2]) (σ' := σ) rfl ?_
  refine am_ialdN (n := 3) (v := nI n) rfl rfl rfl (by omega) (h2) (by decide) ?_
  refine am_run 2 (pc' := 22) (ls' := [some (.ref 0), some (.int (nI 120)), some (.int (nI n)), some (.int (nI (120 + n))), none]) (st' := [.int (nI n + nI 1), .int (nI 2), .ref 2]) (σ' := σ) rfl ?_
  refine am_top (v' := nI (n + 1)) (nI_add _ _) ?_
  refine am_iastN (n := 3) rfl rfl rfl (by omega) (by decide) ?_
  refine am_run 4 (pc' := 29) (ls' := [some (.ref 0), some (.int (nI 120)), some (.int (nI n)), some (.int (nI (120 + n))), none]) (st' := [.int (nI 120), .int (nI (120 + n)), .ref 5]) (σ' := (am_wr σ 2 2 (nI (n + 1)))) rfl ?_
  refine am_iastN (n := 180) rfl rfl rfl (by omega) (by decide) ?_
  refine am_run 4 (pc' := 36) (ls' := [some (.ref 0), some (.int (nI 120)), some (.int (nI n)), some (.int (nI (120 + n))), none]) (st' := [.int (-1), .int (nI (120 + n)), .ref 6]) (σ' := (am_wr (am_wr σ 2 2 (nI (n + 1))) 5 (120 + n) (nI 120))) rfl ?_
  refine am_iastN (n := 180) rfl rfl rfl (by omega) (by decide) ?_
  refine am_run 4 (pc' := 43) (ls' := [some (.ref 0), some (.int (nI 120)), some (.int (nI n)), some (.int (nI (120 + n))), none]) (st' := [.int (-1), .int (nI (120 + n)), .ref 7]) (σ' := (am_wr (am_wr (am_wr σ 2 2 (nI (n + 1))) 5 (120 + n) (nI 120)) 6 (120 + n) (-1))) rfl ?_
  refine am_iastN (n := 180) rfl rfl rfl (by omega) (by decide) ?_
  refine am_run 4 (pc' := 50) (ls' := [some (.ref 0), some (.int (nI 120)), some (.int (nI n)), some (.int (nI (120 + n))), none]) (st' := [.int (-1), .int (nI (120 + n)), .ref 8]) (σ' := (am_wr (am_wr (am_wr (am_wr σ 2 2 (nI (n + 1))) 5 (120 + n) (nI 120)) 6 (120 + n) (-1)) 7 (120 + n) (-1))) rfl ?_
  refine am_iastN (n := 180) rfl rfl rfl (by omega) (by decide) ?_
  refine am_run 4 (pc' := 57) (ls' := [some (.ref 0), some (.int (nI 120)), some (.int (nI n)), some (.int (nI (120 + n))), none]) (st' := [.int (-1), .int (nI (120 + n)), .ref 15]) (σ' := (am_wr (am_wr (am_wr (am_wr (am_wr σ 2 2 (nI (n + 1))) 5 (120 + n) (nI 120)) 6 (120 + n) (-1)) 7 (120 + n) (-1)) 8 (120 + n) (-1))) rfl ?_
  refine am_iastN (n := 180) rfl rfl rfl (by omega) (by decide) ?_
  refine am_run 4 (pc' := 64) (ls' := [some (.ref 0), some (.int (nI 120)), some (.int (nI n)), some (.int (nI (120 + n))), none]) (st' := [.int (-1), .int (nI (120 + n)), .ref 12]) (σ' := (am_wr (am_wr (am_wr (am_wr (am_wr (am_wr σ 2 2 (nI (n + 1))) 5 (120 + n) (nI 120)) 6 (120 + n) (-1)) 7 (120 + n) (-1)) 8 (120 + n) (-1)) 15 (120 + n) (-1))) rfl ?_
  refine am_iastN (n := 180) rfl rfl rfl (by omega) (by decide) ?_
  refine am_run 5 (pc' := 74) (ls' := [some (.ref 0), some (.int (nI 120)), some (.int (nI n)), some (.int (nI (120 + n))), none]) (st' := [.int (σ.1 0 33), .int (nI (120 + n)), .ref 10]) (σ' := (am_wr (am_wr (am_wr (am_wr (am_wr (am_wr (am_wr σ 2 2 (nI (n + 1))) 5 (120 + n) (nI 120)) 6 (120 + n) (-1)) 7 (120 + n) (-1)) 8 (120 + n) (-1)) 15 (120 + n) (-1)) 12 (120 + n) (-1))) rfl ?_
  refine am_top (v' := nI nw) h33 ?_
  refine am_iastN (n := 180) rfl rfl rfl (by omega) (by decide) ?_
  refine am_run 4 (pc' := 81) (ls' := [some (.ref 0), some (.int (nI 120)), some (.int (nI n)), some (.int (nI (120 + n))), some (.int (nI 0))]) (st' := [.int (nI 3), .int (nI 0)]) (σ' := (am_wr (am_wr (am_wr (am_wr (am_wr (am_wr (am_wr (am_wr σ 2 2 (nI (n + 1))) 5 (120 + n) (nI 120)) 6 (120 + n) (-1)) 7 (120 + n) (-1)) 8 (120 + n) (-1)) 15 (120 + n) (-1)) 12 (120 + n) (-1)) 10 (120 + n) (nI nw))) rfl ?_
  refine am_ic (ty := 84) (tn := 108) rfl (by decide) rfl rfl (fun (h_1 : nI 0 < nI 3) => ?_) (fun (h_1 : ¬ (nI 0 < nI 3)) => ?_)
  rotate_left
  · exact absurd (by decide) h_1
  refine am_run 5 (pc' := 91) (ls' := [some (.ref 0), some (.int (nI 120)), some (.int (nI n)), some (.int (nI (120 + n))), some (.int (nI 0))]) (st' := [.int (nI 3 * nI (120 + n)), .ref 11]) (σ' := (am_wr (am_wr (am_wr (am_wr (am_wr (am_wr (am_wr (am_wr σ 2 2 (nI (n + 1))) 5 (120 + n) (nI 120)) 6 (120 + n) (-1)) 7 (120 + n) (-1)) 8 (120 + n) (-1)) 15 (120 + n) (-1)) 12 (120 + n) (-1)) 10 (120 + n) (nI nw))) rfl ?_
  refine am_top (v' := nI (3 * (120 + n))) (am_nmul _ _) ?_
  refine am_run 2 (pc' := 94) (ls' := [some (.ref 0), some (.int (nI 120)), some (.int (nI n)), some (.int (nI (120 + n))), some (.int (nI 0))]) (st' := [.int (nI (3 * (120 + n)) + nI 0), .ref 11]) (σ' := (am_wr (am_wr (am_wr (am_wr (am_wr (am_wr (am_wr (am_wr σ 2 2 (nI (n + 1))) 5 (120 + n) (nI 120)) 6 (120 + n) (-1)) 7 (120 + n) (-1)) 8 (120 + n) (-1)) 15 (120 + n) (-1)) 12 (120 + n) (-1)) 10 (120 + n) (nI nw))) rfl ?_
  refine am_top (v' := nI (3 * (120 + n) + 0)) (nI_add _ _) ?_
  refine am_run 3 (pc' := 100) (ls' := [some (.ref 0), some (.int (nI 120)), some (.int (nI n)), some (.int (nI (120 + n))), some (.int (nI 0))]) (st' := [.int (nI 0), .ref 27, .int (nI (3 * (120 + n) + 0)), .ref 11]) (σ' := (am_wr (am_wr (am_wr (am_wr (am_wr (am_wr (am_wr (am_wr σ 2 2 (nI (n + 1))) 5 (120 + n) (nI 120)) 6 (120 + n) (-1)) 7 (120 + n) (-1)) 8 (120 + n) (-1)) 15 (120 + n) (-1)) 12 (120 + n) (-1)) 10 (120 + n) (nI nw))) rfl ?_
  refine am_ialdN (n := 4) (v := o0) rfl rfl rfl (by omega) (by rw [am_wr_ne _ (by omega), am_wr_ne _ (by omega), am_wr_ne _ (by omega), am_wr_ne _ (by omega), am_wr_ne _ (by omega), am_wr_ne _ (by omega), am_wr_ne _ (by omega), am_wr_ne _ (by omega)]; exact q0) (by decide) ?_
  refine am_iastN (n := 540) rfl rfl rfl (by omega) (by decide) ?_
  refine am_run 1 (pc' := 105) (ls' := [some (.ref 0), some (.int (nI 120)), some (.int (nI n)), some (.int (nI (120 + n))), some (.int (nI 0 + nI 1))]) (st' := []) (σ' := (am_wr (am_wr (am_wr (am_wr (am_wr (am_wr (am_wr (am_wr (am_wr σ 2 2 (nI (n + 1))) 5 (120 + n) (nI 120)) 6 (120 + n) (-1)) 7 (120 + n) (-1)) 8 (120 + n) (-1)) 15 (120 + n) (-1)) 12 (120 + n) (-1)) 10 (120 + n) (nI nw)) 11 (3 * (120 + n) + 0) o0)) rfl ?_
  refine am_ls (ls' := [some (.ref 0), some (.int (nI 120)), some (.int (nI n)), some (.int (nI (120 + n))), some (.int (nI 1))]) (by rw [nI_add]) ?_
  refine am_run 3 (pc' := 81) (ls' := [some (.ref 0), some (.int (nI 120)), some (.int (nI n)), some (.int (nI (120 + n))), some (.int (nI 1))]) (st' := [.int (nI 3), .int (nI 1)]) (σ' := (am_wr (am_wr (am_wr (am_wr (am_wr (am_wr (am_wr (am_wr (am_wr σ 2 2 (nI (n + 1))) 5 (120 + n) (nI 120)) 6 (120 + n) (-1)) 7 (120 + n) (-1)) 8 (120 + n) (-1)) 15 (120 + n) (-1)) 12 (120 + n) (-1)) 10 (120 + n) (nI nw)) 11 (3 * (120 + n) + 0) o0)) rfl ?_
  refine am_ic (ty := 84) (tn := 108) rfl (by decide) rfl rfl (fun (h_2 : nI 1 < nI 3) => ?_) (fun (h_2 : ¬ (nI 1 < nI 3)) => ?_)
  rotate_left
  · exact absurd (by decide) h_2
  refine am_run 5 (pc' := 91) (ls' := [some (.ref 0), some (.int (nI 120)), some (.int (nI n)), some (.int (nI (120 + n))), some (.int (nI 1))]) (st' := [.int (nI 3 * nI (120 + n)), .ref 11]) (σ' := (am_wr (am_wr (am_wr (am_wr (am_wr (am_wr (am_wr (am_wr (am_wr σ 2 2 (nI (n + 1))) 5 (120 + n) (nI 120)) 6 (120 + n) (-1)) 7 (120 + n) (-1)) 8 (120 + n) (-1)) 15 (120 + n) (-1)) 12 (120 + n) (-1)) 10 (120 + n) (nI nw)) 11 (3 * (120 + n) + 0) o0)) rfl ?_
  refine am_top (v' := nI (3 * (120 + n))) (am_nmul _ _) ?_
  refine am_run 2 (pc' := 94) (ls' := [some (.ref 0), some (.int (nI 120)), some (.int (nI n)), some (.int (nI (120 + n))), some (.int (nI 1))]) (st' := [.int (nI (3 * (120 + n)) + nI 1), .ref 11]) (σ' := (am_wr (am_wr (am_wr (am_wr (am_wr (am_wr (am_wr (am_wr (am_wr σ 2 2 (nI (n + 1))) 5 (120 + n) (nI 120)) 6 (120 + n) (-1)) 7 (120 + n) (-1)) 8 (120 + n) (-1)) 15 (120 + n) (-1)) 12 (120 + n) (-1)) 10 (120 + n) (nI nw)) 11 (3 * (120 + n) + 0) o0)) rfl ?_
  refine am_top (v' := nI (3 * (120 + n) + 1)) (nI_add _ _) ?_
  refine am_run 3 (pc' := 100) (ls' := [some (.ref 0), some (.int (nI 120)), some (.int (nI n)), some (.int (nI (120 + n))), some (.int (nI 1))]) (st' := [.int (nI 1), .ref 27, .int (nI (3 * (120 + n) + 1)), .ref 11]) (σ' := (am_wr (am_wr (am_wr (am_wr (am_wr (am_wr (am_wr (am_wr (am_wr σ 2 2 (nI (n + 1))) 5 (120 + n) (nI 120)) 6 (120 + n) (-1)) 7 (120 + n) (-1)) 8 (120 + n) (-1)) 15 (120 + n) (-1)) 12 (120 + n) (-1)) 10 (120 + n) (nI nw)) 11 (3 * (120 + n) + 0) o0)) rfl ?_
  refine am_ialdN (n := 4) (v := o1) rfl rfl rfl (by omega) (by rw [am_wr_ne _ (by omega), am_wr_ne _ (by omega), am_wr_ne _ (by omega), am_wr_ne _ (by omega), am_wr_ne _ (by omega), am_wr_ne _ (by omega), am_wr_ne _ (by omega), am_wr_ne _ (by omega), am_wr_ne _ (by omega)]; exact q1) (by decide) ?_
  refine am_iastN (n := 540) rfl rfl rfl (by omega) (by decide) ?_
  refine am_run 1 (pc' := 105) (ls' := [some (.ref 0), some (.int (nI 120)), some (.int (nI n)), some (.int (nI (120 + n))), some (.int (nI 1 + nI 1))]) (st' := []) (σ' := (am_wr (am_wr (am_wr (am_wr (am_wr (am_wr (am_wr (am_wr (am_wr (am_wr σ 2 2 (nI (n + 1))) 5 (120 + n) (nI 120)) 6 (120 + n) (-1)) 7 (120 + n) (-1)) 8 (120 + n) (-1)) 15 (120 + n) (-1)) 12 (120 + n) (-1)) 10 (120 + n) (nI nw)) 11 (3 * (120 + n) + 0) o0) 11 (3 * (120 + n) + 1) o1)) rfl ?_
  refine am_ls (ls' := [some (.ref 0), some (.int (nI 120)), some (.int (nI n)), some (.int (nI (120 + n))), some (.int (nI 2))]) (by rw [nI_add]) ?_
  refine am_run 3 (pc' := 81) (ls' := [some (.ref 0), some (.int (nI 120)), some (.int (nI n)), some (.int (nI (120 + n))), some (.int (nI 2))]) (st' := [.int (nI 3), .int (nI 2)]) (σ' := (am_wr (am_wr (am_wr (am_wr (am_wr (am_wr (am_wr (am_wr (am_wr (am_wr σ 2 2 (nI (n + 1))) 5 (120 + n) (nI 120)) 6 (120 + n) (-1)) 7 (120 + n) (-1)) 8 (120 + n) (-1)) 15 (120 + n) (-1)) 12 (120 + n) (-1)) 10 (120 + n) (nI nw)) 11 (3 * (120 + n) + 0) o0) 11 (3 * (120 + n) + 1) o1)) rfl ?_
  refine am_ic (ty := 84) (tn := 108) rfl (by decide) rfl rfl (fun (h_3 : nI 2 < nI 3) => ?_) (fun (h_3 : ¬ (nI 2 < nI 3)) => ?_)
  rotate_left
  · exact absurd (by decide) h_3
  refine am_run 5 (pc' := 91) (ls' := [some (.ref 0), some (.int (nI 120)), some (.int (nI n)), some (.int (nI (120 + n))), some (.int (nI 2))]) (st' := [.int (nI 3 * nI (120 + n)), .ref 11]) (σ' := (am_wr (am_wr (am_wr (am_wr (am_wr (am_wr (am_wr (am_wr (am_wr (am_wr σ 2 2 (nI (n + 1))) 5 (120 + n) (nI 120)) 6 (120 + n) (-1)) 7 (120 + n) (-1)) 8 (120 + n) (-1)) 15 (120 + n) (-1)) 12 (120 + n) (-1)) 10 (120 + n) (nI nw)) 11 (3 * (120 + n) + 0) o0) 11 (3 * (120 + n) + 1) o1)) rfl ?_
  refine am_top (v' := nI (3 * (120 + n))) (am_nmul _ _) ?_
  refine am_run 2 (pc' := 94) (ls' := [some (.ref 0), some (.int (nI 120)), some (.int (nI n)), some (.int (nI (120 + n))), some (.int (nI 2))]) (st' := [.int (nI (3 * (120 + n)) + nI 2), .ref 11]) (σ' := (am_wr (am_wr (am_wr (am_wr (am_wr (am_wr (am_wr (am_wr (am_wr (am_wr σ 2 2 (nI (n + 1))) 5 (120 + n) (nI 120)) 6 (120 + n) (-1)) 7 (120 + n) (-1)) 8 (120 + n) (-1)) 15 (120 + n) (-1)) 12 (120 + n) (-1)) 10 (120 + n) (nI nw)) 11 (3 * (120 + n) + 0) o0) 11 (3 * (120 + n) + 1) o1)) rfl ?_
  refine am_top (v' := nI (3 * (120 + n) + 2)) (nI_add _ _) ?_
  refine am_run 3 (pc' := 100) (ls' := [some (.ref 0), some (.int (nI 120)), some (.int (nI n)), some (.int (nI (120 + n))), some (.int (nI 2))]) (st' := [.int (nI 2), .ref 27, .int (nI (3 * (120 + n) + 2)), .ref 11]) (σ' := (am_wr (am_wr (am_wr (am_wr (am_wr (am_wr (am_wr (am_wr (am_wr (am_wr σ 2 2 (nI (n + 1))) 5 (120 + n) (nI 120)) 6 (120 + n) (-1)) 7 (120 + n) (-1)) 8 (120 + n) (-1)) 15 (120 + n) (-1)) 12 (120 + n) (-1)) 10 (120 + n) (nI nw)) 11 (3 * (120 + n) + 0) o0) 11 (3 * (120 + n) + 1) o1)) rfl ?_
  refine am_ialdN (n := 4) (v := o2) rfl rfl rfl (by omega) (by rw [am_wr_ne _ (by omega), am_wr_ne _ (by omega), am_wr_ne _ (by omega), am_wr_ne _ (by omega), am_wr_ne _ (by omega), am_wr_ne _ (by omega), am_wr_ne _ (by omega), am_wr_ne _ (by omega), am_wr_ne _ (by omega), am_wr_ne _ (by omega)]; exact q2) (by decide) ?_
  refine am_iastN (n := 540) rfl rfl rfl (by omega) (by decide) ?_
  refine am_run 1 (pc' := 105) (ls' := [some (.ref 0), some (.int (nI 120)), some (.int (nI n)), some (.int (nI (120 + n))), some (.int (nI 2 + nI 1))]) (st' := []) (σ' := (am_wr (am_wr (am_wr (am_wr (am_wr (am_wr (am_wr (am_wr (am_wr (am_wr (am_wr σ 2 2 (nI (n + 1))) 5 (120 + n) (nI 120)) 6 (120 + n) (-1)) 7 (120 + n) (-1)) 8 (120 + n) (-1)) 15 (120 + n) (-1)) 12 (120 + n) (-1)) 10 (120 + n) (nI nw)) 11 (3 * (120 + n) + 0) o0) 11 (3 * (120 + n) + 1) o1) 11 (3 * (120 + n) + 2) o2)) rfl ?_
  refine am_ls (ls' := [some (.ref 0), some (.int (nI 120)), some (.int (nI n)), some (.int (nI (120 + n))), some (.int (nI 3))]) (by rw [nI_add]) ?_
  refine am_run 3 (pc' := 81) (ls' := [some (.ref 0), some (.int (nI 120)), some (.int (nI n)), some (.int (nI (120 + n))), some (.int (nI 3))]) (st' := [.int (nI 3), .int (nI 3)]) (σ' := (am_wr (am_wr (am_wr (am_wr (am_wr (am_wr (am_wr (am_wr (am_wr (am_wr (am_wr σ 2 2 (nI (n + 1))) 5 (120 + n) (nI 120)) 6 (120 + n) (-1)) 7 (120 + n) (-1)) 8 (120 + n) (-1)) 15 (120 + n) (-1)) 12 (120 + n) (-1)) 10 (120 + n) (nI nw)) 11 (3 * (120 + n) + 0) o0) 11 (3 * (120 + n) + 1) o1) 11 (3 * (120 + n) + 2) o2)) rfl ?_
  refine am_ic (ty := 84) (tn := 108) rfl (by decide) rfl rfl (fun (h_4 : nI 3 < nI 3) => ?_) (fun (h_4 : ¬ (nI 3 < nI 3)) => ?_)
  · exact absurd h_4 (by decide)
  refine am_run 2 (pc' := 111) (ls' := [some (.ref 0), some (.int (nI 120)), some (.int (nI n)), some (.int (nI (120 + n))), some (.int (nI 3))]) (st' := [.int (nI 46), .int (nI 120)]) (σ' := (am_wr (am_wr (am_wr (am_wr (am_wr (am_wr (am_wr (am_wr (am_wr (am_wr (am_wr σ 2 2 (nI (n + 1))) 5 (120 + n) (nI 120)) 6 (120 + n) (-1)) 7 (120 + n) (-1)) 8 (120 + n) (-1)) 15 (120 + n) (-1)) 12 (120 + n) (-1)) 10 (120 + n) (nI nw)) 11 (3 * (120 + n) + 0) o0) 11 (3 * (120 + n) + 1) o1) 11 (3 * (120 + n) + 2) o2)) rfl ?_
  refine am_ic (ty := 120) (tn := 114) rfl (by decide) rfl rfl (fun (h_5 : nI 120 = nI 46) => ?_) (fun (h_5 : ¬ (nI 120 = nI 46)) => ?_)
  · exact absurd h_5 (by decide)
  refine am_run 2 (pc' := 117) (ls' := [some (.ref 0), some (.int (nI 120)), some (.int (nI n)), some (.int (nI (120 + n))), some (.int (nI 3))]) (st' := [.int (nI 38), .int (nI 120)]) (σ' := (am_wr (am_wr (am_wr (am_wr (am_wr (am_wr (am_wr (am_wr (am_wr (am_wr (am_wr σ 2 2 (nI (n + 1))) 5 (120 + n) (nI 120)) 6 (120 + n) (-1)) 7 (120 + n) (-1)) 8 (120 + n) (-1)) 15 (120 + n) (-1)) 12 (120 + n) (-1)) 10 (120 + n) (nI nw)) 11 (3 * (120 + n) + 0) o0) 11 (3 * (120 + n) + 1) o1) 11 (3 * (120 + n) + 2) o2)) rfl ?_
  refine am_ic (ty := 120) (tn := 142) rfl (by decide) rfl rfl (fun (h_6 : nI 120 = nI 38) => ?_) (fun (h_6 : ¬ (nI 120 = nI 38)) => ?_)
  · exact absurd h_6 (by decide)
  refine am_run 1 (pc' := 143) (ls' := [some (.ref 0), some (.int (nI 120)), some (.int (nI n)), some (.int (nI (120 + n))), some (.int (nI 3))]) (st' := [.int (nI n)]) (σ' := (am_wr (am_wr (am_wr (am_wr (am_wr (am_wr (am_wr (am_wr (am_wr (am_wr (am_wr σ 2 2 (nI (n + 1))) 5 (120 + n) (nI 120)) 6 (120 + n) (-1)) 7 (120 + n) (-1)) 8 (120 + n) (-1)) 15 (120 + n) (-1)) 12 (120 + n) (-1)) 10 (120 + n) (nI nw)) 11 (3 * (120 + n) + 0) o0) 11 (3 * (120 + n) + 1) o1) 11 (3 * (120 + n) + 2) o2)) rfl ?_
  refine am_reti rfl rfl ?_
  exact hq
set_option maxRecDepth 10000 in
set_option maxHeartbeats 2000000 in
theorem c_m_newNode_33 {d : Nat} (hd : 2 ≤ d) {σ : am_M} {n kk nw : Nat} {o0 o1 o2 : Int32} (h2 : σ.1 2 2 = nI n) (h3 : σ.1 3 2 = nI kk) (h33 : σ.1 0 33 = nI nw) (hn : n < 60) (q0 : σ.1 27 0 = o0) (q1 : σ.1 27 1 = o1) (q2 : σ.1 27 2 = o2) {Q : am_Q} (hq : Q (some (.int (nI n))) (am_wr (am_wr (am_wr (am_wr (am_wr (am_wr (am_wr (am_wr (am_wr (am_wr (am_wr σ 2 2 (nI (n + 1))) 5 (120 + n) (nI 33)) 6 (120 + n) (-1)) 7 (120 + n) (-1)) 8 (120 + n) (-1)) 15 (120 + n) (-1)) 12 (120 + n) (-1)) 10 (120 + n) (nI nw)) 11 (3 * (120 + n) + 0) o0) 11 (3 * (120 + n) + 1) o1) 11 (3 * (120 + n) + 2) o2)) : am_C d 159 [.ref 0, .int (nI 33)] σ Q := by
  refine am_enter' (M := M_X10_newNode) rfl rfl rfl (by omega) (ls := [some (.ref 0), some (.int (nI 33)), none, none, none]) rfl (fun d' hd' => ?_)
  refine am_run 3 (pc' := 5) (ls' := [some (.ref 0), some (.int (nI 33)), none, none, none]) (st' := [.int (nI 2), .ref 2]) (σ' := σ) rfl ?_
  refine am_ialdN (n := 3) (v := nI n) rfl rfl rfl (by omega) (h2) (by decide) ?_
  refine am_run 3 (pc' := 9) (ls' := [some (.ref 0), some (.int (nI 33)), some (.int (nI n)), none, none]) (st' := [.int (nI n), .int (nI 2)]) (σ' := σ) rfl ?_
  refine am_invs (y := 158) (as := [.int (nI 2), .int (nI n)]) (rest := []) rfl rfl rfl rfl rfl rfl (Nat.le_of_ble_eq_true rfl) ?_
  refine c_m_placeOf (by omega) (j := 2) ?_
  show am_G _ M_X10_newNode _ 12 [some (.ref 0), some (.int (nI 33)), some (.int (nI n)), none, none] [.int (nI (120 + n))] σ
  refine am_run 5 (pc' := 19) (ls' := [some (.ref 0), some (.int (nI 33)), some (.int (nI n)), some (.int (nI (120 + n))), none]) (st' := [.int (nI 2), .ref 2, .int (nI 2), .ref 2]) (σ' := σ) rfl ?_
  refine am_ialdN (n := 3) (v := nI n) rfl rfl rfl (by omega) (h2) (by decide) ?_
  refine am_run 2 (pc' := 22) (ls' := [some (.ref 0), some (.int (nI 33)), some (.int (nI n)), some (.int (nI (120 + n))), none]) (st' := [.int (nI n + nI 1), .int (nI 2), .ref 2]) (σ' := σ) rfl ?_
  refine am_top (v' := nI (n + 1)) (nI_add _ _) ?_
  refine am_iastN (n := 3) rfl rfl rfl (by omega) (by decide) ?_
  refine am_run 4 (pc' := 29) (ls' := [some (.ref 0), some (.int (nI 33)), some (.int (nI n)), some (.int (nI (120 + n))), none]) (st' := [.int (nI 33), .int (nI (120 + n)), .ref 5]) (σ' := (am_wr σ 2 2 (nI (n + 1)))) rfl ?_
  refine am_iastN (n := 180) rfl rfl rfl (by omega) (by decide) ?_
  refine am_run 4 (pc' := 36) (ls' := [some (.ref 0), some (.int (nI 33)), some (.int (nI n)), some (.int (nI (120 + n))), none]) (st' := [.int (-1), .int (nI (120 + n)), .ref 6]) (σ' := (am_wr (am_wr σ 2 2 (nI (n + 1))) 5 (120 + n) (nI 33))) rfl ?_
  refine am_iastN (n := 180) rfl rfl rfl (by omega) (by decide) ?_
  refine am_run 4 (pc' := 43) (ls' := [some (.ref 0), some (.int (nI 33)), some (.int (nI n)), some (.int (nI (120 + n))), none]) (st' := [.int (-1), .int (nI (120 + n)), .ref 7]) (σ' := (am_wr (am_wr (am_wr σ 2 2 (nI (n + 1))) 5 (120 + n) (nI 33)) 6 (120 + n) (-1))) rfl ?_
  refine am_iastN (n := 180) rfl rfl rfl (by omega) (by decide) ?_
  refine am_run 4 (pc' := 50) (ls' := [some (.ref 0), some (.int (nI 33)), some (.int (nI n)), some (.int (nI (120 + n))), none]) (st' := [.int (-1), .int (nI (120 + n)), .ref 8]) (σ' := (am_wr (am_wr (am_wr (am_wr σ 2 2 (nI (n + 1))) 5 (120 + n) (nI 33)) 6 (120 + n) (-1)) 7 (120 + n) (-1))) rfl ?_
  refine am_iastN (n := 180) rfl rfl rfl (by omega) (by decide) ?_
  refine am_run 4 (pc' := 57) (ls' := [some (.ref 0), some (.int (nI 33)), some (.int (nI n)), some (.int (nI (120 + n))), none]) (st' := [.int (-1), .int (nI (120 + n)), .ref 15]) (σ' := (am_wr (am_wr (am_wr (am_wr (am_wr σ 2 2 (nI (n + 1))) 5 (120 + n) (nI 33)) 6 (120 + n) (-1)) 7 (120 + n) (-1)) 8 (120 + n) (-1))) rfl ?_
  refine am_iastN (n := 180) rfl rfl rfl (by omega) (by decide) ?_
  refine am_run 4 (pc' := 64) (ls' := [some (.ref 0), some (.int (nI 33)), some (.int (nI n)), some (.int (nI (120 + n))), none]) (st' := [.int (-1), .int (nI (120 + n)), .ref 12]) (σ' := (am_wr (am_wr (am_wr (am_wr (am_wr (am_wr σ 2 2 (nI (n + 1))) 5 (120 + n) (nI 33)) 6 (120 + n) (-1)) 7 (120 + n) (-1)) 8 (120 + n) (-1)) 15 (120 + n) (-1))) rfl ?_
  refine am_iastN (n := 180) rfl rfl rfl (by omega) (by decide) ?_
  refine am_run 5 (pc' := 74) (ls' := [some (.ref 0), some (.int (nI 33)), some (.int (nI n)), some (.int (nI (120 + n))), none]) (st' := [.int (σ.1 0 33), .int (nI (120 + n)), .ref 10]) (σ' := (am_wr (am_wr (am_wr (am_wr (am_wr (am_wr (am_wr σ 2 2 (nI (n + 1))) 5 (120 + n) (nI 33)) 6 (120 + n) (-1)) 7 (120 + n) (-1)) 8 (120 + n) (-1)) 15 (120 + n) (-1)) 12 (120 + n) (-1))) rfl ?_
  refine am_top (v' := nI nw) h33 ?_
  refine am_iastN (n := 180) rfl rfl rfl (by omega) (by decide) ?_
  refine am_run 4 (pc' := 81) (ls' := [some (.ref 0), some (.int (nI 33)), some (.int (nI n)), some (.int (nI (120 + n))), some (.int (nI 0))]) (st' := [.int (nI 3), .int (nI 0)]) (σ' := (am_wr (am_wr (am_wr (am_wr (am_wr (am_wr (am_wr (am_wr σ 2 2 (nI (n + 1))) 5 (120 + n) (nI 33)) 6 (120 + n) (-1)) 7 (120 + n) (-1)) 8 (120 + n) (-1)) 15 (120 + n) (-1)) 12 (120 + n) (-1)) 10 (120 + n) (nI nw))) rfl ?_
  refine am_ic (ty := 84) (tn := 108) rfl (by decide) rfl rfl (fun (h_1 : nI 0 < nI 3) => ?_) (fun (h_1 : ¬ (nI 0 < nI 3)) => ?_)
  rotate_left
  · exact absurd (by decide) h_1
  refine am_run 5 (pc' := 91) (ls' := [some (.ref 0), some (.int (nI 33)), some (.int (nI n)), some (.int (nI (120 + n))), some (.int (nI 0))]) (st' := [.int (nI 3 * nI (120 + n)), .ref 11]) (σ' := (am_wr (am_wr (am_wr (am_wr (am_wr (am_wr (am_wr (am_wr σ 2 2 (nI (n + 1))) 5 (120 + n) (nI 33)) 6 (120 + n) (-1)) 7 (120 + n) (-1)) 8 (120 + n) (-1)) 15 (120 + n) (-1)) 12 (120 + n) (-1)) 10 (120 + n) (nI nw))) rfl ?_
  refine am_top (v' := nI (3 * (120 + n))) (am_nmul _ _) ?_
  refine am_run 2 (pc' := 94) (ls' := [some (.ref 0), some (.int (nI 33)), some (.int (nI n)), some (.int (nI (120 + n))), some (.int (nI 0))]) (st' := [.int (nI (3 * (120 + n)) + nI 0), .ref 11]) (σ' := (am_wr (am_wr (am_wr (am_wr (am_wr (am_wr (am_wr (am_wr σ 2 2 (nI (n + 1))) 5 (120 + n) (nI 33)) 6 (120 + n) (-1)) 7 (120 + n) (-1)) 8 (120 + n) (-1)) 15 (120 + n) (-1)) 12 (120 + n) (-1)) 10 (120 + n) (nI nw))) rfl ?_
  refine am_top (v' := nI (3 * (120 + n) + 0)) (nI_add _ _) ?_
  refine am_run 3 (pc' := 100) (ls' := [some (.ref 0), some (.int (nI 33)), some (.int (nI n)), some (.int (nI (120 + n))), some (.int (nI 0))]) (st' := [.int (nI 0), .ref 27, .int (nI (3 * (120 + n) + 0)), .ref 11]) (σ' := (am_wr (am_wr (am_wr (am_wr (am_wr (am_wr (am_wr (am_wr σ 2 2 (nI (n + 1))) 5 (120 + n) (nI 33)) 6 (120 + n) (-1)) 7 (120 + n) (-1)) 8 (120 + n) (-1)) 15 (120 + n) (-1)) 12 (120 + n) (-1)) 10 (120 + n) (nI nw))) rfl ?_
  refine am_ialdN (n := 4) (v := o0) rfl rfl rfl (by omega) (by rw [am_wr_ne _ (by omega), am_wr_ne _ (by omega), am_wr_ne _ (by omega), am_wr_ne _ (by omega), am_wr_ne _ (by omega), am_wr_ne _ (by omega), am_wr_ne _ (by omega), am_wr_ne _ (by omega)]; exact q0) (by decide) ?_
  refine am_iastN (n := 540) rfl rfl rfl (by omega) (by decide) ?_
  refine am_run 1 (pc' := 105) (ls' := [some (.ref 0), some (.int (nI 33)), some (.int (nI n)), some (.int (nI (120 + n))), some (.int (nI 0 + nI 1))]) (st' := []) (σ' := (am_wr (am_wr (am_wr (am_wr (am_wr (am_wr (am_wr (am_wr (am_wr σ 2 2 (nI (n + 1))) 5 (120 + n) (nI 33)) 6 (120 + n) (-1)) 7 (120 + n) (-1)) 8 (120 + n) (-1)) 15 (120 + n) (-1)) 12 (120 + n) (-1)) 10 (120 + n) (nI nw)) 11 (3 * (120 + n) + 0) o0)) rfl ?_
  refine am_ls (ls' := [some (.ref 0), some (.int (nI 33)), some (.int (nI n)), some (.int (nI (120 + n))), some (.int (nI 1))]) (by rw [nI_add]) ?_
  refine am_run 3 (pc' := 81) (ls' := [some (.ref 0), some (.int (nI 33)), some (.int (nI n)), some (.int (nI (120 + n))), some (.int (nI 1))]) (st' := [.int (nI 3), .int (nI 1)]) (σ' := (am_wr (am_wr (am_wr (am_wr (am_wr (am_wr (am_wr (am_wr (am_wr σ 2 2 (nI (n + 1))) 5 (120 + n) (nI 33)) 6 (120 + n) (-1)) 7 (120 + n) (-1)) 8 (120 + n) (-1)) 15 (120 + n) (-1)) 12 (120 + n) (-1)) 10 (120 + n) (nI nw)) 11 (3 * (120 + n) + 0) o0)) rfl ?_
  refine am_ic (ty := 84) (tn := 108) rfl (by decide) rfl rfl (fun (h_2 : nI 1 < nI 3) => ?_) (fun (h_2 : ¬ (nI 1 < nI 3)) => ?_)
  rotate_left
  · exact absurd (by decide) h_2
  refine am_run 5 (pc' := 91) (ls' := [some (.ref 0), some (.int (nI 33)), some (.int (nI n)), some (.int (nI (120 + n))), some (.int (nI 1))]) (st' := [.int (nI 3 * nI (120 + n)), .ref 11]) (σ' := (am_wr (am_wr (am_wr (am_wr (am_wr (am_wr (am_wr (am_wr (am_wr σ 2 2 (nI (n + 1))) 5 (120 + n) (nI 33)) 6 (120 + n) (-1)) 7 (120 + n) (-1)) 8 (120 + n) (-1)) 15 (120 + n) (-1)) 12 (120 + n) (-1)) 10 (120 + n) (nI nw)) 11 (3 * (120 + n) + 0) o0)) rfl ?_
  refine am_top (v' := nI (3 * (120 + n))) (am_nmul _ _) ?_
  refine am_run 2 (pc' := 94) (ls' := [some (.ref 0), some (.int (nI 33)), some (.int (nI n)), some (.int (nI (120 + n))), some (.int (nI 1))]) (st' := [.int (nI (3 * (120 + n)) + nI 1), .ref 11]) (σ' := (am_wr (am_wr (am_wr (am_wr (am_wr (am_wr (am_wr (am_wr (am_wr σ 2 2 (nI (n + 1))) 5 (120 + n) (nI 33)) 6 (120 + n) (-1)) 7 (120 + n) (-1)) 8 (120 + n) (-1)) 15 (120 + n) (-1)) 12 (120 + n) (-1)) 10 (120 + n) (nI nw)) 11 (3 * (120 + n) + 0) o0)) rfl ?_
  refine am_top (v' := nI (3 * (120 + n) + 1)) (nI_add _ _) ?_
  refine am_run 3 (pc' := 100) (ls' := [some (.ref 0), some (.int (nI 33)), some (.int (nI n)), some (.int (nI (120 + n))), some (.int (nI 1))]) (st' := [.int (nI 1), .ref 27, .int (nI (3 * (120 + n) + 1)), .ref 11]) (σ' := (am_wr (am_wr (am_wr (am_wr (am_wr (am_wr (am_wr (am_wr (am_wr σ 2 2 (nI (n + 1))) 5 (120 + n) (nI 33)) 6 (120 + n) (-1)) 7 (120 + n) (-1)) 8 (120 + n) (-1)) 15 (120 + n) (-1)) 12 (120 + n) (-1)) 10 (120 + n) (nI nw)) 11 (3 * (120 + n) + 0) o0)) rfl ?_
  refine am_ialdN (n := 4) (v := o1) rfl rfl rfl (by omega) (by rw [am_wr_ne _ (by omega), am_wr_ne _ (by omega), am_wr_ne _ (by omega), am_wr_ne _ (by omega), am_wr_ne _ (by omega), am_wr_ne _ (by omega), am_wr_ne _ (by omega), am_wr_ne _ (by omega), am_wr_ne _ (by omega)]; exact q1) (by decide) ?_
  refine am_iastN (n := 540) rfl rfl rfl (by omega) (by decide) ?_
  refine am_run 1 (pc' := 105) (ls' := [some (.ref 0), some (.int (nI 33)), some (.int (nI n)), some (.int (nI (120 + n))), some (.int (nI 1 + nI 1))]) (st' := []) (σ' := (am_wr (am_wr (am_wr (am_wr (am_wr (am_wr (am_wr (am_wr (am_wr (am_wr σ 2 2 (nI (n + 1))) 5 (120 + n) (nI 33)) 6 (120 + n) (-1)) 7 (120 + n) (-1)) 8 (120 + n) (-1)) 15 (120 + n) (-1)) 12 (120 + n) (-1)) 10 (120 + n) (nI nw)) 11 (3 * (120 + n) + 0) o0) 11 (3 * (120 + n) + 1) o1)) rfl ?_
  refine am_ls (ls' := [some (.ref 0), some (.int (nI 33)), some (.int (nI n)), some (.int (nI (120 + n))), some (.int (nI 2))]) (by rw [nI_add]) ?_
  refine am_run 3 (pc' := 81) (ls' := [some (.ref 0), some (.int (nI 33)), some (.int (nI n)), some (.int (nI (120 + n))), some (.int (nI 2))]) (st' := [.int (nI 3), .int (nI 2)]) (σ' := (am_wr (am_wr (am_wr (am_wr (am_wr (am_wr (am_wr (am_wr (am_wr (am_wr σ 2 2 (nI (n + 1))) 5 (120 + n) (nI 33)) 6 (120 + n) (-1)) 7 (120 + n) (-1)) 8 (120 + n) (-1)) 15 (120 + n) (-1)) 12 (120 + n) (-1)) 10 (120 + n) (nI nw)) 11 (3 * (120 + n) + 0) o0) 11 (3 * (120 + n) + 1) o1)) rfl ?_
  refine am_ic (ty := 84) (tn := 108) rfl (by decide) rfl rfl (fun (h_3 : nI 2 < nI 3) => ?_) (fun (h_3 : ¬ (nI 2 < nI 3)) => ?_)
  rotate_left
  · exact absurd (by decide) h_3
  refine am_run 5 (pc' := 91) (ls' := [some (.ref 0), some (.int (nI 33)), some (.int (nI n)), some (.int (nI (120 + n))), some (.int (nI 2))]) (st' := [.int (nI 3 * nI (120 + n)), .ref 11]) (σ' := (am_wr (am_wr (am_wr (am_wr (am_wr (am_wr (am_wr (am_wr (am_wr (am_wr σ 2 2 (nI (n + 1))) 5 (120 + n) (nI 33)) 6 (120 + n) (-1)) 7 (120 + n) (-1)) 8 (120 + n) (-1)) 15 (120 + n) (-1)) 12 (120 + n) (-1)) 10 (120 + n) (nI nw)) 11 (3 * (120 + n) + 0) o0) 11 (3 * (120 + n) + 1) o1)) rfl ?_
  refine am_top (v' := nI (3 * (120 + n))) (am_nmul _ _) ?_
  refine am_run 2 (pc' := 94) (ls' := [some (.ref 0), some (.int (nI 33)), some (.int (nI n)), some (.int (nI (120 + n))), some (.int (nI 2))]) (st' := [.int (nI (3 * (120 + n)) + nI 2), .ref 11]) (σ' := (am_wr (am_wr (am_wr (am_wr (am_wr (am_wr (am_wr (am_wr (am_wr (am_wr σ 2 2 (nI (n + 1))) 5 (120 + n) (nI 33)) 6 (120 + n) (-1)) 7 (120 + n) (-1)) 8 (120 + n) (-1)) 15 (120 + n) (-1)) 12 (120 + n) (-1)) 10 (120 + n) (nI nw)) 11 (3 * (120 + n) + 0) o0) 11 (3 * (120 + n) + 1) o1)) rfl ?_
  refine am_top (v' := nI (3 * (120 + n) + 2)) (nI_add _ _) ?_
  refine am_run 3 (pc' := 100) (ls' := [some (.ref 0), some (.int (nI 33)), some (.int (nI n)), some (.int (nI (120 + n))), some (.int (nI 2))]) (st' := [.int (nI 2), .ref 27, .int (nI (3 * (120 + n) + 2)), .ref 11]) (σ' := (am_wr (am_wr (am_wr (am_wr (am_wr (am_wr (am_wr (am_wr (am_wr (am_wr σ 2 2 (nI (n + 1))) 5 (120 + n) (nI 33)) 6 (120 + n) (-1)) 7 (120 + n) (-1)) 8 (120 + n) (-1)) 15 (120 + n) (-1)) 12 (120 + n) (-1)) 10 (120 + n) (nI nw)) 11 (3 * (120 + n) + 0) o0) 11 (3 * (120 + n) + 1) o1)) rfl ?_
  refine am_ialdN (n := 4) (v := o2) rfl rfl rfl (by omega) (by rw [am_wr_ne _ (by omega), am_wr_ne _ (by omega), am_wr_ne _ (by omega), am_wr_ne _ (by omega), am_wr_ne _ (by omega), am_wr_ne _ (by omega), am_wr_ne _ (by omega), am_wr_ne _ (by omega), am_wr_ne _ (by omega), am_wr_ne _ (by omega)]; exact q2) (by decide) ?_
  refine am_iastN (n := 540) rfl rfl rfl (by omega) (by decide) ?_
  refine am_run 1 (pc' := 105) (ls' := [some (.ref 0), some (.int (nI 33)), some (.int (nI n)), some (.int (nI (120 + n))), some (.int (nI 2 + nI 1))]) (st' := []) (σ' := (am_wr (am_wr (am_wr (am_wr (am_wr (am_wr (am_wr (am_wr (am_wr (am_wr (am_wr σ 2 2 (nI (n + 1))) 5 (120 + n) (nI 33)) 6 (120 + n) (-1)) 7 (120 + n) (-1)) 8 (120 + n) (-1)) 15 (120 + n) (-1)) 12 (120 + n) (-1)) 10 (120 + n) (nI nw)) 11 (3 * (120 + n) + 0) o0) 11 (3 * (120 + n) + 1) o1) 11 (3 * (120 + n) + 2) o2)) rfl ?_
  refine am_ls (ls' := [some (.ref 0), some (.int (nI 33)), some (.int (nI n)), some (.int (nI (120 + n))), some (.int (nI 3))]) (by rw [nI_add]) ?_
  refine am_run 3 (pc' := 81) (ls' := [some (.ref 0), some (.int (nI 33)), some (.int (nI n)), some (.int (nI (120 + n))), some (.int (nI 3))]) (st' := [.int (nI 3), .int (nI 3)]) (σ' := (am_wr (am_wr (am_wr (am_wr (am_wr (am_wr (am_wr (am_wr (am_wr (am_wr (am_wr σ 2 2 (nI (n + 1))) 5 (120 + n) (nI 33)) 6 (120 + n) (-1)) 7 (120 + n) (-1)) 8 (120 + n) (-1)) 15 (120 + n) (-1)) 12 (120 + n) (-1)) 10 (120 + n) (nI nw)) 11 (3 * (120 + n) + 0) o0) 11 (3 * (120 + n) + 1) o1) 11 (3 * (120 + n) + 2) o2)) rfl ?_
  refine am_ic (ty := 84) (tn := 108) rfl (by decide) rfl rfl (fun (h_4 : nI 3 < nI 3) => ?_) (fun (h_4 : ¬ (nI 3 < nI 3)) => ?_)
  · exact absurd h_4 (by decide)
  refine am_run 2 (pc' := 111) (ls' := [some (.ref 0), some (.int (nI 33)), some (.int (nI n)), some (.int (nI (120 + n))), some (.int (nI 3))]) (st' := [.int (nI 46), .int (nI 33)]) (σ' := (am_wr (am_wr (am_wr (am_wr (am_wr (am_wr (am_wr (am_wr (am_wr (am_wr (am_wr σ 2 2 (nI (n + 1))) 5 (120 + n) (nI 33)) 6 (120 + n) (-1)) 7 (120 + n) (-1)) 8 (120 + n) (-1)) 15 (120 + n) (-1)) 12 (120 + n) (-1)) 10 (120 + n) (nI nw)) 11 (3 * (120 + n) + 0) o0) 11 (3 * (120 + n) + 1) o1) 11 (3 * (120 + n) + 2) o2)) rfl ?_
  refine am_ic (ty := 120) (tn := 114) rfl (by decide) rfl rfl (fun (h_5 : nI 33 = nI 46) => ?_) (fun (h_5 : ¬ (nI 33 = nI 46)) => ?_)
  · exact absurd h_5 (by decide)
  refine am_run 2 (pc' := 117) (ls' := [some (.ref 0), some (.int (nI 33)), some (.int (nI n)), some (.int (nI (120 + n))), some (.int (nI 3))]) (st' := [.int (nI 38), .int (nI 33)]) (σ' := (am_wr (am_wr (am_wr (am_wr (am_wr (am_wr (am_wr (am_wr (am_wr (am_wr (am_wr σ 2 2 (nI (n + 1))) 5 (120 + n) (nI 33)) 6 (120 + n) (-1)) 7 (120 + n) (-1)) 8 (120 + n) (-1)) 15 (120 + n) (-1)) 12 (120 + n) (-1)) 10 (120 + n) (nI nw)) 11 (3 * (120 + n) + 0) o0) 11 (3 * (120 + n) + 1) o1) 11 (3 * (120 + n) + 2) o2)) rfl ?_
  refine am_ic (ty := 120) (tn := 142) rfl (by decide) rfl rfl (fun (h_6 : nI 33 = nI 38) => ?_) (fun (h_6 : ¬ (nI 33 = nI 38)) => ?_)
  · exact absurd h_6 (by decide)
  refine am_run 1 (pc' := 143) (ls' := [some (.ref 0), some (.int (nI 33)), some (.int (nI n)), some (.int (nI (120 + n))), some (.int (nI 3))]) (st' := [.int (nI n)]) (σ' := (am_wr (am_wr (am_wr (am_wr (am_wr (am_wr (am_wr (am_wr (am_wr (am_wr (am_wr σ 2 2 (nI (n + 1))) 5 (120 + n) (nI 33)) 6 (120 + n) (-1)) 7 (120 + n) (-1)) 8 (120 + n) (-1)) 15 (120 + n) (-1)) 12 (120 + n) (-1)) 10 (120 + n) (nI nw)) 11 (3 * (120 + n) + 0) o0) 11 (3 * (120 + n) + 1) o1) 11 (3 * (120 + n) + 2) o2)) rfl ?_
  refine am_reti rfl rfl ?_
  exact hq
set_option maxRecDepth 10000 in
set_option maxHeartbeats 2000000 in
theorem c_m_newNode_63 {d : Nat} (hd : 2 ≤ d) {σ : am_M} {n kk nw : Nat} {o0 o1 o2 : Int32} (h2 : σ.1 2 2 = nI n) (h3 : σ.1 3 2 = nI kk) (h33 : σ.1 0 33 = nI nw) (hn : n < 60) (q0 : σ.1 27 0 = o0) (q1 : σ.1 27 1 = o1) (q2 : σ.1 27 2 = o2) {Q : am_Q} (hq : Q (some (.int (nI n))) (am_wr (am_wr (am_wr (am_wr (am_wr (am_wr (am_wr (am_wr (am_wr (am_wr (am_wr σ 2 2 (nI (n + 1))) 5 (120 + n) (nI 63)) 6 (120 + n) (-1)) 7 (120 + n) (-1)) 8 (120 + n) (-1)) 15 (120 + n) (-1)) 12 (120 + n) (-1)) 10 (120 + n) (nI nw)) 11 (3 * (120 + n) + 0) o0) 11 (3 * (120 + n) + 1) o1) 11 (3 * (120 + n) + 2) o2)) : am_C d 159 [.ref 0, .int (nI 63)] σ Q := by
  refine am_enter' (M := M_X10_newNode) rfl rfl rfl (by omega) (ls := [some (.ref 0), some (.int (nI 63)), none, none, none]) rfl (fun d' hd' => ?_)
  refine am_run 3 (pc' := 5) (ls' := [some (.ref 0), some (.int (nI 63)), none, none, none]) (st' := [.int (nI 2), .ref 2]) (σ' := σ) rfl ?_
  refine am_ialdN (n := 3) (v := nI n) rfl rfl rfl (by omega) (h2) (by decide) ?_
  refine am_run 3 (pc' := 9) (ls' := [some (.ref 0), some (.int (nI 63)), some (.int (nI n)), none, none]) (st' := [.int (nI n), .int (nI 2)]) (σ' := σ) rfl ?_
  refine am_invs (y := 158) (as := [.int (nI 2), .int (nI n)]) (rest := []) rfl rfl rfl rfl rfl rfl (Nat.le_of_ble_eq_true rfl) ?_
  refine c_m_placeOf (by omega) (j := 2) ?_
  show am_G _ M_X10_newNode _ 12 [some (.ref 0), some (.int (nI 63)), some (.int (nI n)), none, none] [.int (nI (120 + n))] σ
  refine am_run 5 (pc' := 19) (ls' := [some (.ref 0), some (.int (nI 63)), some (.int (nI n)), some (.int (nI (120 + n))), none]) (st' := [.int (nI 2), .ref 2, .int (nI 2), .ref 2]) (σ' := σ) rfl ?_
  refine am_ialdN (n := 3) (v := nI n) rfl rfl rfl (by omega) (h2) (by decide) ?_
  refine am_run 2 (pc' := 22) (ls' := [some (.ref 0), some (.int (nI 63)), some (.int (nI n)), some (.int (nI (120 + n))), none]) (st' := [.int (nI n + nI 1), .int (nI 2), .ref 2]) (σ' := σ) rfl ?_
  refine am_top (v' := nI (n + 1)) (nI_add _ _) ?_
  refine am_iastN (n := 3) rfl rfl rfl (by omega) (by decide) ?_
  refine am_run 4 (pc' := 29) (ls' := [some (.ref 0), some (.int (nI 63)), some (.int (nI n)), some (.int (nI (120 + n))), none]) (st' := [.int (nI 63), .int (nI (120 + n)), .ref 5]) (σ' := (am_wr σ 2 2 (nI (n + 1)))) rfl ?_
  refine am_iastN (n := 180) rfl rfl rfl (by omega) (by decide) ?_
  refine am_run 4 (pc' := 36) (ls' := [some (.ref 0), some (.int (nI 63)), some (.int (nI n)), some (.int (nI (120 + n))), none]) (st' := [.int (-1), .int (nI (120 + n)), .ref 6]) (σ' := (am_wr (am_wr σ 2 2 (nI (n + 1))) 5 (120 + n) (nI 63))) rfl ?_
  refine am_iastN (n := 180) rfl rfl rfl (by omega) (by decide) ?_
  refine am_run 4 (pc' := 43) (ls' := [some (.ref 0), some (.int (nI 63)), some (.int (nI n)), some (.int (nI (120 + n))), none]) (st' := [.int (-1), .int (nI (120 + n)), .ref 7]) (σ' := (am_wr (am_wr (am_wr σ 2 2 (nI (n + 1))) 5 (120 + n) (nI 63)) 6 (120 + n) (-1))) rfl ?_
  refine am_iastN (n := 180) rfl rfl rfl (by omega) (by decide) ?_
  refine am_run 4 (pc' := 50) (ls' := [some (.ref 0), some (.int (nI 63)), some (.int (nI n)), some (.int (nI (120 + n))), none]) (st' := [.int (-1), .int (nI (120 + n)), .ref 8]) (σ' := (am_wr (am_wr (am_wr (am_wr σ 2 2 (nI (n + 1))) 5 (120 + n) (nI 63)) 6 (120 + n) (-1)) 7 (120 + n) (-1))) rfl ?_
  refine am_iastN (n := 180) rfl rfl rfl (by omega) (by decide) ?_
  refine am_run 4 (pc' := 57) (ls' := [some (.ref 0), some (.int (nI 63)), some (.int (nI n)), some (.int (nI (120 + n))), none]) (st' := [.int (-1), .int (nI (120 + n)), .ref 15]) (σ' := (am_wr (am_wr (am_wr (am_wr (am_wr σ 2 2 (nI (n + 1))) 5 (120 + n) (nI 63)) 6 (120 + n) (-1)) 7 (120 + n) (-1)) 8 (120 + n) (-1))) rfl ?_
  refine am_iastN (n := 180) rfl rfl rfl (by omega) (by decide) ?_
  refine am_run 4 (pc' := 64) (ls' := [some (.ref 0), some (.int (nI 63)), some (.int (nI n)), some (.int (nI (120 + n))), none]) (st' := [.int (-1), .int (nI (120 + n)), .ref 12]) (σ' := (am_wr (am_wr (am_wr (am_wr (am_wr (am_wr σ 2 2 (nI (n + 1))) 5 (120 + n) (nI 63)) 6 (120 + n) (-1)) 7 (120 + n) (-1)) 8 (120 + n) (-1)) 15 (120 + n) (-1))) rfl ?_
  refine am_iastN (n := 180) rfl rfl rfl (by omega) (by decide) ?_
  refine am_run 5 (pc' := 74) (ls' := [some (.ref 0), some (.int (nI 63)), some (.int (nI n)), some (.int (nI (120 + n))), none]) (st' := [.int (σ.1 0 33), .int (nI (120 + n)), .ref 10]) (σ' := (am_wr (am_wr (am_wr (am_wr (am_wr (am_wr (am_wr σ 2 2 (nI (n + 1))) 5 (120 + n) (nI 63)) 6 (120 + n) (-1)) 7 (120 + n) (-1)) 8 (120 + n) (-1)) 15 (120 + n) (-1)) 12 (120 + n) (-1))) rfl ?_
  refine am_top (v' := nI nw) h33 ?_
  refine am_iastN (n := 180) rfl rfl rfl (by omega) (by decide) ?_
  refine am_run 4 (pc' := 81) (ls' := [some (.ref 0), some (.int (nI 63)), some (.int (nI n)), some (.int (nI (120 + n))), some (.int (nI 0))]) (st' := [.int (nI 3), .int (nI 0)]) (σ' := (am_wr (am_wr (am_wr (am_wr (am_wr (am_wr (am_wr (am_wr σ 2 2 (nI (n + 1))) 5 (120 + n) (nI 63)) 6 (120 + n) (-1)) 7 (120 + n) (-1)) 8 (120 + n) (-1)) 15 (120 + n) (-1)) 12 (120 + n) (-1)) 10 (120 + n) (nI nw))) rfl ?_
  refine am_ic (ty := 84) (tn := 108) rfl (by decide) rfl rfl (fun (h_1 : nI 0 < nI 3) => ?_) (fun (h_1 : ¬ (nI 0 < nI 3)) => ?_)
  rotate_left
  · exact absurd (by decide) h_1
  refine am_run 5 (pc' := 91) (ls' := [some (.ref 0), some (.int (nI 63)), some (.int (nI n)), some (.int (nI (120 + n))), some (.int (nI 0))]) (st' := [.int (nI 3 * nI (120 + n)), .ref 11]) (σ' := (am_wr (am_wr (am_wr (am_wr (am_wr (am_wr (am_wr (am_wr σ 2 2 (nI (n + 1))) 5 (120 + n) (nI 63)) 6 (120 + n) (-1)) 7 (120 + n) (-1)) 8 (120 + n) (-1)) 15 (120 + n) (-1)) 12 (120 + n) (-1)) 10 (120 + n) (nI nw))) rfl ?_
  refine am_top (v' := nI (3 * (120 + n))) (am_nmul _ _) ?_
  refine am_run 2 (pc' := 94) (ls' := [some (.ref 0), some (.int (nI 63)), some (.int (nI n)), some (.int (nI (120 + n))), some (.int (nI 0))]) (st' := [.int (nI (3 * (120 + n)) + nI 0), .ref 11]) (σ' := (am_wr (am_wr (am_wr (am_wr (am_wr (am_wr (am_wr (am_wr σ 2 2 (nI (n + 1))) 5 (120 + n) (nI 63)) 6 (120 + n) (-1)) 7 (120 + n) (-1)) 8 (120 + n) (-1)) 15 (120 + n) (-1)) 12 (120 + n) (-1)) 10 (120 + n) (nI nw))) rfl ?_
  refine am_top (v' := nI (3 * (120 + n) + 0)) (nI_add _ _) ?_
  refine am_run 3 (pc' := 100) (ls' := [some (.ref 0), some (.int (nI 63)), some (.int (nI n)), some (.int (nI (120 + n))), some (.int (nI 0))]) (st' := [.int (nI 0), .ref 27, .int (nI (3 * (120 + n) + 0)), .ref 11]) (σ' := (am_wr (am_wr (am_wr (am_wr (am_wr (am_wr (am_wr (am_wr σ 2 2 (nI (n + 1))) 5 (120 + n) (nI 63)) 6 (120 + n) (-1)) 7 (120 + n) (-1)) 8 (120 + n) (-1)) 15 (120 + n) (-1)) 12 (120 + n) (-1)) 10 (120 + n) (nI nw))) rfl ?_
  refine am_ialdN (n := 4) (v := o0) rfl rfl rfl (by omega) (by rw [am_wr_ne _ (by omega), am_wr_ne _ (by omega), am_wr_ne _ (by omega), am_wr_ne _ (by omega), am_wr_ne _ (by omega), am_wr_ne _ (by omega), am_wr_ne _ (by omega), am_wr_ne _ (by omega)]; exact q0) (by decide) ?_
  refine am_iastN (n := 540) rfl rfl rfl (by omega) (by decide) ?_
  refine am_run 1 (pc' := 105) (ls' := [some (.ref 0), some (.int (nI 63)), some (.int (nI n)), some (.int (nI (120 + n))), some (.int (nI 0 + nI 1))]) (st' := []) (σ' := (am_wr (am_wr (am_wr (am_wr (am_wr (am_wr (am_wr (am_wr (am_wr σ 2 2 (nI (n + 1))) 5 (120 + n) (nI 63)) 6 (120 + n) (-1)) 7 (120 + n) (-1)) 8 (120 + n) (-1)) 15 (120 + n) (-1)) 12 (120 + n) (-1)) 10 (120 + n) (nI nw)) 11 (3 * (120 + n) + 0) o0)) rfl ?_
  refine am_ls (ls' := [some (.ref 0), some (.int (nI 63)), some (.int (nI n)), some (.int (nI (120 + n))), some (.int (nI 1))]) (by rw [nI_add]) ?_
  refine am_run 3 (pc' := 81) (ls' := [some (.ref 0), some (.int (nI 63)), some (.int (nI n)), some (.int (nI (120 + n))), some (.int (nI 1))]) (st' := [.int (nI 3), .int (nI 1)]) (σ' := (am_wr (am_wr (am_wr (am_wr (am_wr (am_wr (am_wr (am_wr (am_wr σ 2 2 (nI (n + 1))) 5 (120 + n) (nI 63)) 6 (120 + n) (-1)) 7 (120 + n) (-1)) 8 (120 + n) (-1)) 15 (120 + n) (-1)) 12 (120 + n) (-1)) 10 (120 + n) (nI nw)) 11 (3 * (120 + n) + 0) o0)) rfl ?_
  refine am_ic (ty := 84) (tn := 108) rfl (by decide) rfl rfl (fun (h_2 : nI 1 < nI 3) => ?_) (fun (h_2 : ¬ (nI 1 < nI 3)) => ?_)
  rotate_left
  · exact absurd (by decide) h_2
  refine am_run 5 (pc' := 91) (ls' := [some (.ref 0), some (.int (nI 63)), some (.int (nI n)), some (.int (nI (120 + n))), some (.int (nI 1))]) (st' := [.int (nI 3 * nI (120 + n)), .ref 11]) (σ' := (am_wr (am_wr (am_wr (am_wr (am_wr (am_wr (am_wr (am_wr (am_wr σ 2 2 (nI (n + 1))) 5 (120 + n) (nI 63)) 6 (120 + n) (-1)) 7 (120 + n) (-1)) 8 (120 + n) (-1)) 15 (120 + n) (-1)) 12 (120 + n) (-1)) 10 (120 + n) (nI nw)) 11 (3 * (120 + n) + 0) o0)) rfl ?_
  refine am_top (v' := nI (3 * (120 + n))) (am_nmul _ _) ?_
  refine am_run 2 (pc' := 94) (ls' := [some (.ref 0), some (.int (nI 63)), some (.int (nI n)), some (.int (nI (120 + n))), some (.int (nI 1))]) (st' := [.int (nI (3 * (120 + n)) + nI 1), .ref 11]) (σ' := (am_wr (am_wr (am_wr (am_wr (am_wr (am_wr (am_wr (am_wr (am_wr σ 2 2 (nI (n + 1))) 5 (120 + n) (nI 63)) 6 (120 + n) (-1)) 7 (120 + n) (-1)) 8 (120 + n) (-1)) 15 (120 + n) (-1)) 12 (120 + n) (-1)) 10 (120 + n) (nI nw)) 11 (3 * (120 + n) + 0) o0)) rfl ?_
  refine am_top (v' := nI (3 * (120 + n) + 1)) (nI_add _ _) ?_
  refine am_run 3 (pc' := 100) (ls' := [some (.ref 0), some (.int (nI 63)), some (.int (nI n)), some (.int (nI (120 + n))), some (.int (nI 1))]) (st' := [.int (nI 1), .ref 27, .int (nI (3 * (120 + n) + 1)), .ref 11]) (σ' := (am_wr (am_wr (am_wr (am_wr (am_wr (am_wr (am_wr (am_wr (am_wr σ 2 2 (nI (n + 1))) 5 (120 + n) (nI 63)) 6 (120 + n) (-1)) 7 (120 + n) (-1)) 8 (120 + n) (-1)) 15 (120 + n) (-1)) 12 (120 + n) (-1)) 10 (120 + n) (nI nw)) 11 (3 * (120 + n) + 0) o0)) rfl ?_
  refine am_ialdN (n := 4) (v := o1) rfl rfl rfl (by omega) (by rw [am_wr_ne _ (by omega), am_wr_ne _ (by omega), am_wr_ne _ (by omega), am_wr_ne _ (by omega), am_wr_ne _ (by omega), am_wr_ne _ (by omega), am_wr_ne _ (by omega), am_wr_ne _ (by omega), am_wr_ne _ (by omega)]; exact q1) (by decide) ?_
  refine am_iastN (n := 540) rfl rfl rfl (by omega) (by decide) ?_
  refine am_run 1 (pc' := 105) (ls' := [some (.ref 0), some (.int (nI 63)), some (.int (nI n)), some (.int (nI (120 + n))), some (.int (nI 1 + nI 1))]) (st' := []) (σ' := (am_wr (am_wr (am_wr (am_wr (am_wr (am_wr (am_wr (am_wr (am_wr (am_wr σ 2 2 (nI (n + 1))) 5 (120 + n) (nI 63)) 6 (120 + n) (-1)) 7 (120 + n) (-1)) 8 (120 + n) (-1)) 15 (120 + n) (-1)) 12 (120 + n) (-1)) 10 (120 + n) (nI nw)) 11 (3 * (120 + n) + 0) o0) 11 (3 * (120 + n) + 1) o1)) rfl ?_
  refine am_ls (ls' := [some (.ref 0), some (.int (nI 63)), some (.int (nI n)), some (.int (nI (120 + n))), some (.int (nI 2))]) (by rw [nI_add]) ?_
  refine am_run 3 (pc' := 81) (ls' := [some (.ref 0), some (.int (nI 63)), some (.int (nI n)), some (.int (nI (120 + n))), some (.int (nI 2))]) (st' := [.int (nI 3), .int (nI 2)]) (σ' := (am_wr (am_wr (am_wr (am_wr (am_wr (am_wr (am_wr (am_wr (am_wr (am_wr σ 2 2 (nI (n + 1))) 5 (120 + n) (nI 63)) 6 (120 + n) (-1)) 7 (120 + n) (-1)) 8 (120 + n) (-1)) 15 (120 + n) (-1)) 12 (120 + n) (-1)) 10 (120 + n) (nI nw)) 11 (3 * (120 + n) + 0) o0) 11 (3 * (120 + n) + 1) o1)) rfl ?_
  refine am_ic (ty := 84) (tn := 108) rfl (by decide) rfl rfl (fun (h_3 : nI 2 < nI 3) => ?_) (fun (h_3 : ¬ (nI 2 < nI 3)) => ?_)
  rotate_left
  · exact absurd (by decide) h_3
  refine am_run 5 (pc' := 91) (ls' := [some (.ref 0), some (.int (nI 63)), some (.int (nI n)), some (.int (nI (120 + n))), some (.int (nI 2))]) (st' := [.int (nI 3 * nI (120 + n)), .ref 11]) (σ' := (am_wr (am_wr (am_wr (am_wr (am_wr (am_wr (am_wr (am_wr (am_wr (am_wr σ 2 2 (nI (n + 1))) 5 (120 + n) (nI 63)) 6 (120 + n) (-1)) 7 (120 + n) (-1)) 8 (120 + n) (-1)) 15 (120 + n) (-1)) 12 (120 + n) (-1)) 10 (120 + n) (nI nw)) 11 (3 * (120 + n) + 0) o0) 11 (3 * (120 + n) + 1) o1)) rfl ?_
  refine am_top (v' := nI (3 * (120 + n))) (am_nmul _ _) ?_
  refine am_run 2 (pc' := 94) (ls' := [some (.ref 0), some (.int (nI 63)), some (.int (nI n)), some (.int (nI (120 + n))), some (.int (nI 2))]) (st' := [.int (nI (3 * (120 + n)) + nI 2), .ref 11]) (σ' := (am_wr (am_wr (am_wr (am_wr (am_wr (am_wr (am_wr (am_wr (am_wr (am_wr σ 2 2 (nI (n + 1))) 5 (120 + n) (nI 63)) 6 (120 + n) (-1)) 7 (120 + n) (-1)) 8 (120 + n) (-1)) 15 (120 + n) (-1)) 12 (120 + n) (-1)) 10 (120 + n) (nI nw)) 11 (3 * (120 + n) + 0) o0) 11 (3 * (120 + n) + 1) o1)) rfl ?_
  refine am_top (v' := nI (3 * (120 + n) + 2)) (nI_add _ _) ?_
  refine am_run 3 (pc' := 100) (ls' := [some (.ref 0), some (.int (nI 63)), some (.int (nI n)), some (.int (nI (120 + n))), some (.int (nI 2))]) (st' := [.int (nI 2), .ref 27, .int (nI (3 * (120 + n) + 2)), .ref 11]) (σ' := (am_wr (am_wr (am_wr (am_wr (am_wr (am_wr (am_wr (am_wr (am_wr (am_wr σ 2 2 (nI (n + 1))) 5 (120 + n) (nI 63)) 6 (120 + n) (-1)) 7 (120 + n) (-1)) 8 (120 + n) (-1)) 15 (120 + n) (-1)) 12 (120 + n) (-1)) 10 (120 + n) (nI nw)) 11 (3 * (120 + n) + 0) o0) 11 (3 * (120 + n) + 1) o1)) rfl ?_
  refine am_ialdN (n := 4) (v := o2) rfl rfl rfl (by omega) (by rw [am_wr_ne _ (by omega), am_wr_ne _ (by omega), am_wr_ne _ (by omega), am_wr_ne _ (by omega), am_wr_ne _ (by omega), am_wr_ne _ (by omega), am_wr_ne _ (by omega), am_wr_ne _ (by omega), am_wr_ne _ (by omega), am_wr_ne _ (by omega)]; exact q2) (by decide) ?_
  refine am_iastN (n := 540) rfl rfl rfl (by omega) (by decide) ?_
  refine am_run 1 (pc' := 105) (ls' := [some (.ref 0), some (.int (nI 63)), some (.int (nI n)), some (.int (nI (120 + n))), some (.int (nI 2 + nI 1))]) (st' := []) (σ' := (am_wr (am_wr (am_wr (am_wr (am_wr (am_wr (am_wr (am_wr (am_wr (am_wr (am_wr σ 2 2 (nI (n + 1))) 5 (120 + n) (nI 63)) 6 (120 + n) (-1)) 7 (120 + n) (-1)) 8 (120 + n) (-1)) 15 (120 + n) (-1)) 12 (120 + n) (-1)) 10 (120 + n) (nI nw)) 11 (3 * (120 + n) + 0) o0) 11 (3 * (120 + n) + 1) o1) 11 (3 * (120 + n) + 2) o2)) rfl ?_
  refine am_ls (ls' := [some (.ref 0), some (.int (nI 63)), some (.int (nI n)), some (.int (nI (120 + n))), some (.int (nI 3))]) (by rw [nI_add]) ?_
  refine am_run 3 (pc' := 81) (ls' := [some (.ref 0), some (.int (nI 63)), some (.int (nI n)), some (.int (nI (120 + n))), some (.int (nI 3))]) (st' := [.int (nI 3), .int (nI 3)]) (σ' := (am_wr (am_wr (am_wr (am_wr (am_wr (am_wr (am_wr (am_wr (am_wr (am_wr (am_wr σ 2 2 (nI (n + 1))) 5 (120 + n) (nI 63)) 6 (120 + n) (-1)) 7 (120 + n) (-1)) 8 (120 + n) (-1)) 15 (120 + n) (-1)) 12 (120 + n) (-1)) 10 (120 + n) (nI nw)) 11 (3 * (120 + n) + 0) o0) 11 (3 * (120 + n) + 1) o1) 11 (3 * (120 + n) + 2) o2)) rfl ?_
  refine am_ic (ty := 84) (tn := 108) rfl (by decide) rfl rfl (fun (h_4 : nI 3 < nI 3) => ?_) (fun (h_4 : ¬ (nI 3 < nI 3)) => ?_)
  · exact absurd h_4 (by decide)
  refine am_run 2 (pc' := 111) (ls' := [some (.ref 0), some (.int (nI 63)), some (.int (nI n)), some (.int (nI (120 + n))), some (.int (nI 3))]) (st' := [.int (nI 46), .int (nI 63)]) (σ' := (am_wr (am_wr (am_wr (am_wr (am_wr (am_wr (am_wr (am_wr (am_wr (am_wr (am_wr σ 2 2 (nI (n + 1))) 5 (120 + n) (nI 63)) 6 (120 + n) (-1)) 7 (120 + n) (-1)) 8 (120 + n) (-1)) 15 (120 + n) (-1)) 12 (120 + n) (-1)) 10 (120 + n) (nI nw)) 11 (3 * (120 + n) + 0) o0) 11 (3 * (120 + n) + 1) o1) 11 (3 * (120 + n) + 2) o2)) rfl ?_
  refine am_ic (ty := 120) (tn := 114) rfl (by decide) rfl rfl (fun (h_5 : nI 63 = nI 46) => ?_) (fun (h_5 : ¬ (nI 63 = nI 46)) => ?_)
  · exact absurd h_5 (by decide)
  refine am_run 2 (pc' := 117) (ls' := [some (.ref 0), some (.int (nI 63)), some (.int (nI n)), some (.int (nI (120 + n))), some (.int (nI 3))]) (st' := [.int (nI 38), .int (nI 63)]) (σ' := (am_wr (am_wr (am_wr (am_wr (am_wr (am_wr (am_wr (am_wr (am_wr (am_wr (am_wr σ 2 2 (nI (n + 1))) 5 (120 + n) (nI 63)) 6 (120 + n) (-1)) 7 (120 + n) (-1)) 8 (120 + n) (-1)) 15 (120 + n) (-1)) 12 (120 + n) (-1)) 10 (120 + n) (nI nw)) 11 (3 * (120 + n) + 0) o0) 11 (3 * (120 + n) + 1) o1) 11 (3 * (120 + n) + 2) o2)) rfl ?_
  refine am_ic (ty := 120) (tn := 142) rfl (by decide) rfl rfl (fun (h_6 : nI 63 = nI 38) => ?_) (fun (h_6 : ¬ (nI 63 = nI 38)) => ?_)
  · exact absurd h_6 (by decide)
  refine am_run 1 (pc' := 143) (ls' := [some (.ref 0), some (.int (nI 63)), some (.int (nI n)), some (.int (nI (120 + n))), some (.int (nI 3))]) (st' := [.int (nI n)]) (σ' := (am_wr (am_wr (am_wr (am_wr (am_wr (am_wr (am_wr (am_wr (am_wr (am_wr (am_wr σ 2 2 (nI (n + 1))) 5 (120 + n) (nI 63)) 6 (120 + n) (-1)) 7 (120 + n) (-1)) 8 (120 + n) (-1)) 15 (120 + n) (-1)) 12 (120 + n) (-1)) 10 (120 + n) (nI nw)) 11 (3 * (120 + n) + 0) o0) 11 (3 * (120 + n) + 1) o1) 11 (3 * (120 + n) + 2) o2)) rfl ?_
  refine am_reti rfl rfl ?_
  exact hq
set_option maxRecDepth 10000 in
set_option maxHeartbeats 2000000 in
theorem c_m_newNode_42 {d : Nat} (hd : 2 ≤ d) {σ : am_M} {n kk nw : Nat} {o0 o1 o2 : Int32} (h2 : σ.1 2 2 = nI n) (h3 : σ.1 3 2 = nI kk) (h33 : σ.1 0 33 = nI nw) (hn : n < 60) (q0 : σ.1 27 0 = o0) (q1 : σ.1 27 1 = o1) (q2 : σ.1 27 2 = o2) {Q : am_Q} (hq : Q (some (.int (nI n))) (am_wr (am_wr (am_wr (am_wr (am_wr (am_wr (am_wr (am_wr (am_wr (am_wr (am_wr σ 2 2 (nI (n + 1))) 5 (120 + n) (nI 42)) 6 (120 + n) (-1)) 7 (120 + n) (-1)) 8 (120 + n) (-1)) 15 (120 + n) (-1)) 12 (120 + n) (-1)) 10 (120 + n) (nI nw)) 11 (3 * (120 + n) + 0) o0) 11 (3 * (120 + n) + 1) o1) 11 (3 * (120 + n) + 2) o2)) : am_C d 159 [.ref 0, .int (nI 42)] σ Q := by
  refine am_enter' (M := M_X10_newNode) rfl rfl rfl (by omega) (ls := [some (.ref 0), some (.int (nI 42)), none, none, none]) rfl (fun d' hd' => ?_)
  refine am_run 3 (pc' := 5) (ls' := [some (.ref 0), some (.int (nI 42)), none, none, none]) (st' := [.int (nI 2), .ref 2]) (σ' := σ) rfl ?_
  refine am_ialdN (n := 3) (v := nI n) rfl rfl rfl (by omega) (h2) (by decide) ?_
  refine am_run 3 (pc' := 9) (ls' := [some (.ref 0), some (.int (nI 42)), some (.int (nI n)), none, none]) (st' := [.int (nI n), .int (nI 2)]) (σ' := σ) rfl ?_
  refine am_invs (y := 158) (as := [.int (nI 2), .int (nI n)]) (rest := []) rfl rfl rfl rfl rfl rfl (Nat.le_of_ble_eq_true rfl) ?_
  refine c_m_placeOf (by omega) (j := 2) ?_
  show am_G _ M_X10_newNode _ 12 [some (.ref 0), some (.int (nI 42)), some (.int (nI n)), none, none] [.int (nI (120 + n))] σ
  refine am_run 5 (pc' := 19) (ls' := [some (.ref 0), some (.int (nI 42)), some (.int (nI n)), some (.int (nI (120 + n))), none]) (st' := [.int (nI 2), .ref 2, .int (nI 2), .ref 2]) (σ' := σ) rfl ?_
  refine am_ialdN (n := 3) (v := nI n) rfl rfl rfl (by omega) (h2) (by decide) ?_
  refine am_run 2 (pc' := 22) (ls' := [some (.ref 0), some (.int (nI 42)), some (.int (nI n)), some (.int (nI (120 + n))), none]) (st' := [.int (nI n + nI 1), .int (nI 2), .ref 2]) (σ' := σ) rfl ?_
  refine am_top (v' := nI (n + 1)) (nI_add _ _) ?_
  refine am_iastN (n := 3) rfl rfl rfl (by omega) (by decide) ?_
  refine am_run 4 (pc' := 29) (ls' := [some (.ref 0), some (.int (nI 42)), some (.int (nI n)), some (.int (nI (120 + n))), none]) (st' := [.int (nI 42), .int (nI (120 + n)), .ref 5]) (σ' := (am_wr σ 2 2 (nI (n + 1)))) rfl ?_
  refine am_iastN (n := 180) rfl rfl rfl (by omega) (by decide) ?_
  refine am_run 4 (pc' := 36) (ls' := [some (.ref 0), some (.int (nI 42)), some (.int (nI n)), some (.int (nI (120 + n))), none]) (st' := [.int (-1), .int (nI (120 + n)), .ref 6]) (σ' := (am_wr (am_wr σ 2 2 (nI (n + 1))) 5 (120 + n) (nI 42))) rfl ?_
  refine am_iastN (n := 180) rfl rfl rfl (by omega) (by decide) ?_
  refine am_run 4 (pc' := 43) (ls' := [some (.ref 0), some (.int (nI 42)), some (.int (nI n)), some (.int (nI (120 + n))), none]) (st' := [.int (-1), .int (nI (120 + n)), .ref 7]) (σ' := (am_wr (am_wr (am_wr σ 2 2 (nI (n + 1))) 5 (120 + n) (nI 42)) 6 (120 + n) (-1))) rfl ?_
  refine am_iastN (n := 180) rfl rfl rfl (by omega) (by decide) ?_
  refine am_run 4 (pc' := 50) (ls' := [some (.ref 0), some (.int (nI 42)), some (.int (nI n)), some (.int (nI (120 + n))), none]) (st' := [.int (-1), .int (nI (120 + n)), .ref 8]) (σ' := (am_wr (am_wr (am_wr (am_wr σ 2 2 (nI (n + 1))) 5 (120 + n) (nI 42)) 6 (120 + n) (-1)) 7 (120 + n) (-1))) rfl ?_
  refine am_iastN (n := 180) rfl rfl rfl (by omega) (by decide) ?_
  refine am_run 4 (pc' := 57) (ls' := [some (.ref 0), some (.int (nI 42)), some (.int (nI n)), some (.int (nI (120 + n))), none]) (st' := [.int (-1), .int (nI (120 + n)), .ref 15]) (σ' := (am_wr (am_wr (am_wr (am_wr (am_wr σ 2 2 (nI (n + 1))) 5 (120 + n) (nI 42)) 6 (120 + n) (-1)) 7 (120 + n) (-1)) 8 (120 + n) (-1))) rfl ?_
  refine am_iastN (n := 180) rfl rfl rfl (by omega) (by decide) ?_
  refine am_run 4 (pc' := 64) (ls' := [some (.ref 0), some (.int (nI 42)), some (.int (nI n)), some (.int (nI (120 + n))), none]) (st' := [.int (-1), .int (nI (120 + n)), .ref 12]) (σ' := (am_wr (am_wr (am_wr (am_wr (am_wr (am_wr σ 2 2 (nI (n + 1))) 5 (120 + n) (nI 42)) 6 (120 + n) (-1)) 7 (120 + n) (-1)) 8 (120 + n) (-1)) 15 (120 + n) (-1))) rfl ?_
  refine am_iastN (n := 180) rfl rfl rfl (by omega) (by decide) ?_
  refine am_run 5 (pc' := 74) (ls' := [some (.ref 0), some (.int (nI 42)), some (.int (nI n)), some (.int (nI (120 + n))), none]) (st' := [.int (σ.1 0 33), .int (nI (120 + n)), .ref 10]) (σ' := (am_wr (am_wr (am_wr (am_wr (am_wr (am_wr (am_wr σ 2 2 (nI (n + 1))) 5 (120 + n) (nI 42)) 6 (120 + n) (-1)) 7 (120 + n) (-1)) 8 (120 + n) (-1)) 15 (120 + n) (-1)) 12 (120 + n) (-1))) rfl ?_
  refine am_top (v' := nI nw) h33 ?_
  refine am_iastN (n := 180) rfl rfl rfl (by omega) (by decide) ?_
  refine am_run 4 (pc' := 81) (ls' := [some (.ref 0), some (.int (nI 42)), some (.int (nI n)), some (.int (nI (120 + n))), some (.int (nI 0))]) (st' := [.int (nI 3), .int (nI 0)]) (σ' := (am_wr (am_wr (am_wr (am_wr (am_wr (am_wr (am_wr (am_wr σ 2 2 (nI (n + 1))) 5 (120 + n) (nI 42)) 6 (120 + n) (-1)) 7 (120 + n) (-1)) 8 (120 + n) (-1)) 15 (120 + n) (-1)) 12 (120 + n) (-1)) 10 (120 + n) (nI nw))) rfl ?_
  refine am_ic (ty := 84) (tn := 108) rfl (by decide) rfl rfl (fun (h_1 : nI 0 < nI 3) => ?_) (fun (h_1 : ¬ (nI 0 < nI 3)) => ?_)
  rotate_left
  · exact absurd (by decide) h_1
  refine am_run 5 (pc' := 91) (ls' := [some (.ref 0), some (.int (nI 42)), some (.int (nI n)), some (.int (nI (120 + n))), some (.int (nI 0))]) (st' := [.int (nI 3 * nI (120 + n)), .ref 11]) (σ' := (am_wr (am_wr (am_wr (am_wr (am_wr (am_wr (am_wr (am_wr σ 2 2 (nI (n + 1))) 5 (120 + n) (nI 42)) 6 (120 + n) (-1)) 7 (120 + n) (-1)) 8 (120 + n) (-1)) 15 (120 + n) (-1)) 12 (120 + n) (-1)) 10 (120 + n) (nI nw))) rfl ?_
  refine am_top (v' := nI (3 * (120 + n))) (am_nmul _ _) ?_
  refine am_run 2 (pc' := 94) (ls' := [some (.ref 0), some (.int (nI 42)), some (.int (nI n)), some (.int (nI (120 + n))), some (.int (nI 0))]) (st' := [.int (nI (3 * (120 + n)) + nI 0), .ref 11]) (σ' := (am_wr (am_wr (am_wr (am_wr (am_wr (am_wr (am_wr (am_wr σ 2 2 (nI (n + 1))) 5 (120 + n) (nI 42)) 6 (120 + n) (-1)) 7 (120 + n) (-1)) 8 (120 + n) (-1)) 15 (120 + n) (-1)) 12 (120 + n) (-1)) 10 (120 + n) (nI nw))) rfl ?_
  refine am_top (v' := nI (3 * (120 + n) + 0)) (nI_add _ _) ?_
  refine am_run 3 (pc' := 100) (ls' := [some (.ref 0), some (.int (nI 42)), some (.int (nI n)), some (.int (nI (120 + n))), some (.int (nI 0))]) (st' := [.int (nI 0), .ref 27, .int (nI (3 * (120 + n) + 0)), .ref 11]) (σ' := (am_wr (am_wr (am_wr (am_wr (am_wr (am_wr (am_wr (am_wr σ 2 2 (nI (n + 1))) 5 (120 + n) (nI 42)) 6 (120 + n) (-1)) 7 (120 + n) (-1)) 8 (120 + n) (-1)) 15 (120 + n) (-1)) 12 (120 + n) (-1)) 10 (120 + n) (nI nw))) rfl ?_
  refine am_ialdN (n := 4) (v := o0) rfl rfl rfl (by omega) (by rw [am_wr_ne _ (by omega), am_wr_ne _ (by omega), am_wr_ne _ (by omega), am_wr_ne _ (by omega), am_wr_ne _ (by omega), am_wr_ne _ (by omega), am_wr_ne _ (by omega), am_wr_ne _ (by omega)]; exact q0) (by decide) ?_
  refine am_iastN (n := 540) rfl rfl rfl (by omega) (by decide) ?_
  refine am_run 1 (pc' := 105) (ls' := [some (.ref 0), some (.int (nI 42)), some (.int (nI n)), some (.int (nI (120 + n))), some (.int (nI 0 + nI 1))]) (st' := []) (σ' := (am_wr (am_wr (am_wr (am_wr (am_wr (am_wr (am_wr (am_wr (am_wr σ 2 2 (nI (n + 1))) 5 (120 + n) (nI 42)) 6 (120 + n) (-1)) 7 (120 + n) (-1)) 8 (120 + n) (-1)) 15 (120 + n) (-1)) 12 (120 + n) (-1)) 10 (120 + n) (nI nw)) 11 (3 * (120 + n) + 0) o0)) rfl ?_
  refine am_ls (ls' := [some (.ref 0), some (.int (nI 42)), some (.int (nI n)), some (.int (nI (120 + n))), some (.int (nI 1))]) (by rw [nI_add]) ?_
  refine am_run 3 (pc' := 81) (ls' := [some (.ref 0), some (.int (nI 42)), some (.int (nI n)), some (.int (nI (120 + n))), some (.int (nI 1))]) (st' := [.int (nI 3), .int (nI 1)]) (σ' := (am_wr (am_wr (am_wr (am_wr (am_wr (am_wr (am_wr (am_wr (am_wr σ 2 2 (nI (n + 1))) 5 (120 + n) (nI 42)) 6 (120 + n) (-1)) 7 (120 + n) (-1)) 8 (120 + n) (-1)) 15 (120 + n) (-1)) 12 (120 + n) (-1)) 10 (120 + n) (nI nw)) 11 (3 * (120 + n) + 0) o0)) rfl ?_
  refine am_ic (ty := 84) (tn := 108) rfl (by decide) rfl rfl (fun (h_2 : nI 1 < nI 3) => ?_) (fun (h_2 : ¬ (nI 1 < nI 3)) => ?_)
  rotate_left
  · exact absurd (by decide) h_2
  refine am_run 5 (pc' := 91) (ls' := [some (.ref 0), some (.int (nI 42)), some (.int (nI n)), some (.int (nI (120 + n))), some (.int (nI 1))]) (st' := [.int (nI 3 * nI (120 + n)), .ref 11]) (σ' := (am_wr (am_wr (am_wr (am_wr (am_wr (am_wr (am_wr (am_wr (am_wr σ 2 2 (nI (n + 1))) 5 (120 + n) (nI 42)) 6 (120 + n) (-1)) 7 (120 + n) (-1)) 8 (120 + n) (-1)) 15 (120 + n) (-1)) 12 (120 + n) (-1)) 10 (120 + n) (nI nw)) 11 (3 * (120 + n) + 0) o0)) rfl ?_
  refine am_top (v' := nI (3 * (120 + n))) (am_nmul _ _) ?_
  refine am_run 2 (pc' := 94) (ls' := [some (.ref 0), some (.int (nI 42)), some (.int (nI n)), some (.int (nI (120 + n))), some (.int (nI 1))]) (st' := [.int (nI (3 * (120 + n)) + nI 1), .ref 11]) (σ' := (am_wr (am_wr (am_wr (am_wr (am_wr (am_wr (am_wr (am_wr (am_wr σ 2 2 (nI (n + 1))) 5 (120 + n) (nI 42)) 6 (120 + n) (-1)) 7 (120 + n) (-1)) 8 (120 + n) (-1)) 15 (120 + n) (-1)) 12 (120 + n) (-1)) 10 (120 + n) (nI nw)) 11 (3 * (120 + n) + 0) o0)) rfl ?_
  refine am_top (v' := nI (3 * (120 + n) + 1)) (nI_add _ _) ?_
  refine am_run 3 (pc' := 100) (ls' := [some (.ref 0), some (.int (nI 42)), some (.int (nI n)), some (.int (nI (120 + n))), some (.int (nI 1))]) (st' := [.int (nI 1), .ref 27, .int (nI (3 * (120 + n) + 1)), .ref 11]) (σ' := (am_wr (am_wr (am_wr (am_wr (am_wr (am_wr (am_wr (am_wr (am_wr σ 2 2 (nI (n + 1))) 5 (120 + n) (nI 42)) 6 (120 + n) (-1)) 7 (120 + n) (-1)) 8 (120 + n) (-1)) 15 (120 + n) (-1)) 12 (120 + n) (-1)) 10 (120 + n) (nI nw)) 11 (3 * (120 + n) + 0) o0)) rfl ?_
  refine am_ialdN (n := 4) (v := o1) rfl rfl rfl (by omega) (by rw [am_wr_ne _ (by omega), am_wr_ne _ (by omega), am_wr_ne _ (by omega), am_wr_ne _ (by omega), am_wr_ne _ (by omega), am_wr_ne _ (by omega), am_wr_ne _ (by omega), am_wr_ne _ (by omega), am_wr_ne _ (by omega)]; exact q1) (by decide) ?_
  refine am_iastN (n := 540) rfl rfl rfl (by omega) (by decide) ?_
  refine am_run 1 (pc' := 105) (ls' := [some (.ref 0), some (.int (nI 42)), some (.int (nI n)), some (.int (nI (120 + n))), some (.int (nI 1 + nI 1))]) (st' := []) (σ' := (am_wr (am_wr (am_wr (am_wr (am_wr (am_wr (am_wr (am_wr (am_wr (am_wr σ 2 2 (nI (n + 1))) 5 (120 + n) (nI 42)) 6 (120 + n) (-1)) 7 (120 + n) (-1)) 8 (120 + n) (-1)) 15 (120 + n) (-1)) 12 (120 + n) (-1)) 10 (120 + n) (nI nw)) 11 (3 * (120 + n) + 0) o0) 11 (3 * (120 + n) + 1) o1)) rfl ?_
  refine am_ls (ls' := [some (.ref 0), some (.int (nI 42)), some (.int (nI n)), some (.int (nI (120 + n))), some (.int (nI 2))]) (by rw [nI_add]) ?_
  refine am_run 3 (pc' := 81) (ls' := [some (.ref 0), some (.int (nI 42)), some (.int (nI n)), some (.int (nI (120 + n))), some (.int (nI 2))]) (st' := [.int (nI 3), .int (nI 2)]) (σ' := (am_wr (am_wr (am_wr (am_wr (am_wr (am_wr (am_wr (am_wr (am_wr (am_wr σ 2 2 (nI (n + 1))) 5 (120 + n) (nI 42)) 6 (120 + n) (-1)) 7 (120 + n) (-1)) 8 (120 + n) (-1)) 15 (120 + n) (-1)) 12 (120 + n) (-1)) 10 (120 + n) (nI nw)) 11 (3 * (120 + n) + 0) o0) 11 (3 * (120 + n) + 1) o1)) rfl ?_
  refine am_ic (ty := 84) (tn := 108) rfl (by decide) rfl rfl (fun (h_3 : nI 2 < nI 3) => ?_) (fun (h_3 : ¬ (nI 2 < nI 3)) => ?_)
  rotate_left
  · exact absurd (by decide) h_3
  refine am_run 5 (pc' := 91) (ls' := [some (.ref 0), some (.int (nI 42)), some (.int (nI n)), some (.int (nI (120 + n))), some (.int (nI 2))]) (st' := [.int (nI 3 * nI (120 + n)), .ref 11]) (σ' := (am_wr (am_wr (am_wr (am_wr (am_wr (am_wr (am_wr (am_wr (am_wr (am_wr σ 2 2 (nI (n + 1))) 5 (120 + n) (nI 42)) 6 (120 + n) (-1)) 7 (120 + n) (-1)) 8 (120 + n) (-1)) 15 (120 + n) (-1)) 12 (120 + n) (-1)) 10 (120 + n) (nI nw)) 11 (3 * (120 + n) + 0) o0) 11 (3 * (120 + n) + 1) o1)) rfl ?_
  refine am_top (v' := nI (3 * (120 + n))) (am_nmul _ _) ?_
  refine am_run 2 (pc' := 94) (ls' := [some (.ref 0), some (.int (nI 42)), some (.int (nI n)), some (.int (nI (120 + n))), some (.int (nI 2))]) (st' := [.int (nI (3 * (120 + n)) + nI 2), .ref 11]) (σ' := (am_wr (am_wr (am_wr (am_wr (am_wr (am_wr (am_wr (am_wr (am_wr (am_wr σ 2 2 (nI (n + 1))) 5 (120 + n) (nI 42)) 6 (120 + n) (-1)) 7 (120 + n) (-1)) 8 (120 + n) (-1)) 15 (120 + n) (-1)) 12 (120 + n) (-1)) 10 (120 + n) (nI nw)) 11 (3 * (120 + n) + 0) o0) 11 (3 * (120 + n) + 1) o1)) rfl ?_
  refine am_top (v' := nI (3 * (120 + n) + 2)) (nI_add _ _) ?_
  refine am_run 3 (pc' := 100) (ls' := [some (.ref 0), some (.int (nI 42)), some (.int (nI n)), some (.int (nI (120 + n))), some (.int (nI 2))]) (st' := [.int (nI 2), .ref 27, .int (nI (3 * (120 + n) + 2)), .ref 11]) (σ' := (am_wr (am_wr (am_wr (am_wr (am_wr (am_wr (am_wr (am_wr (am_wr (am_wr σ 2 2 (nI (n + 1))) 5 (120 + n) (nI 42)) 6 (120 + n) (-1)) 7 (120 + n) (-1)) 8 (120 + n) (-1)) 15 (120 + n) (-1)) 12 (120 + n) (-1)) 10 (120 + n) (nI nw)) 11 (3 * (120 + n) + 0) o0) 11 (3 * (120 + n) + 1) o1)) rfl ?_
  refine am_ialdN (n := 4) (v := o2) rfl rfl rfl (by omega) (by rw [am_wr_ne _ (by omega), am_wr_ne _ (by omega), am_wr_ne _ (by omega), am_wr_ne _ (by omega), am_wr_ne _ (by omega), am_wr_ne _ (by omega), am_wr_ne _ (by omega), am_wr_ne _ (by omega), am_wr_ne _ (by omega), am_wr_ne _ (by omega)]; exact q2) (by decide) ?_
  refine am_iastN (n := 540) rfl rfl rfl (by omega) (by decide) ?_
  refine am_run 1 (pc' := 105) (ls' := [some (.ref 0), some (.int (nI 42)), some (.int (nI n)), some (.int (nI (120 + n))), some (.int (nI 2 + nI 1))]) (st' := []) (σ' := (am_wr (am_wr (am_wr (am_wr (am_wr (am_wr (am_wr (am_wr (am_wr (am_wr (am_wr σ 2 2 (nI (n + 1))) 5 (120 + n) (nI 42)) 6 (120 + n) (-1)) 7 (120 + n) (-1)) 8 (120 + n) (-1)) 15 (120 + n) (-1)) 12 (120 + n) (-1)) 10 (120 + n) (nI nw)) 11 (3 * (120 + n) + 0) o0) 11 (3 * (120 + n) + 1) o1) 11 (3 * (120 + n) + 2) o2)) rfl ?_
  refine am_ls (ls' := [some (.ref 0), some (.int (nI 42)), some (.int (nI n)), some (.int (nI (120 + n))), some (.int (nI 3))]) (by rw [nI_add]) ?_
  refine am_run 3 (pc' := 81) (ls' := [some (.ref 0), some (.int (nI 42)), some (.int (nI n)), some (.int (nI (120 + n))), some (.int (nI 3))]) (st' := [.int (nI 3), .int (nI 3)]) (σ' := (am_wr (am_wr (am_wr (am_wr (am_wr (am_wr (am_wr (am_wr (am_wr (am_wr (am_wr σ 2 2 (nI (n + 1))) 5 (120 + n) (nI 42)) 6 (120 + n) (-1)) 7 (120 + n) (-1)) 8 (120 + n) (-1)) 15 (120 + n) (-1)) 12 (120 + n) (-1)) 10 (120 + n) (nI nw)) 11 (3 * (120 + n) + 0) o0) 11 (3 * (120 + n) + 1) o1) 11 (3 * (120 + n) + 2) o2)) rfl ?_
  refine am_ic (ty := 84) (tn := 108) rfl (by decide) rfl rfl (fun (h_4 : nI 3 < nI 3) => ?_) (fun (h_4 : ¬ (nI 3 < nI 3)) => ?_)
  · exact absurd h_4 (by decide)
  refine am_run 2 (pc' := 111) (ls' := [some (.ref 0), some (.int (nI 42)), some (.int (nI n)), some (.int (nI (120 + n))), some (.int (nI 3))]) (st' := [.int (nI 46), .int (nI 42)]) (σ' := (am_wr (am_wr (am_wr (am_wr (am_wr (am_wr (am_wr (am_wr (am_wr (am_wr (am_wr σ 2 2 (nI (n + 1))) 5 (120 + n) (nI 42)) 6 (120 + n) (-1)) 7 (120 + n) (-1)) 8 (120 + n) (-1)) 15 (120 + n) (-1)) 12 (120 + n) (-1)) 10 (120 + n) (nI nw)) 11 (3 * (120 + n) + 0) o0) 11 (3 * (120 + n) + 1) o1) 11 (3 * (120 + n) + 2) o2)) rfl ?_
  refine am_ic (ty := 120) (tn := 114) rfl (by decide) rfl rfl (fun (h_5 : nI 42 = nI 46) => ?_) (fun (h_5 : ¬ (nI 42 = nI 46)) => ?_)
  · exact absurd h_5 (by decide)
  refine am_run 2 (pc' := 117) (ls' := [some (.ref 0), some (.int (nI 42)), some (.int (nI n)), some (.int (nI (120 + n))), some (.int (nI 3))]) (st' := [.int (nI 38), .int (nI 42)]) (σ' := (am_wr (am_wr (am_wr (am_wr (am_wr (am_wr (am_wr (am_wr (am_wr (am_wr (am_wr σ 2 2 (nI (n + 1))) 5 (120 + n) (nI 42)) 6 (120 + n) (-1)) 7 (120 + n) (-1)) 8 (120 + n) (-1)) 15 (120 + n) (-1)) 12 (120 + n) (-1)) 10 (120 + n) (nI nw)) 11 (3 * (120 + n) + 0) o0) 11 (3 * (120 + n) + 1) o1) 11 (3 * (120 + n) + 2) o2)) rfl ?_
  refine am_ic (ty := 120) (tn := 142) rfl (by decide) rfl rfl (fun (h_6 : nI 42 = nI 38) => ?_) (fun (h_6 : ¬ (nI 42 = nI 38)) => ?_)
  · exact absurd h_6 (by decide)
  refine am_run 1 (pc' := 143) (ls' := [some (.ref 0), some (.int (nI 42)), some (.int (nI n)), some (.int (nI (120 + n))), some (.int (nI 3))]) (st' := [.int (nI n)]) (σ' := (am_wr (am_wr (am_wr (am_wr (am_wr (am_wr (am_wr (am_wr (am_wr (am_wr (am_wr σ 2 2 (nI (n + 1))) 5 (120 + n) (nI 42)) 6 (120 + n) (-1)) 7 (120 + n) (-1)) 8 (120 + n) (-1)) 15 (120 + n) (-1)) 12 (120 + n) (-1)) 10 (120 + n) (nI nw)) 11 (3 * (120 + n) + 0) o0) 11 (3 * (120 + n) + 1) o1) 11 (3 * (120 + n) + 2) o2)) rfl ?_
  refine am_reti rfl rfl ?_
  exact hq
set_option maxRecDepth 10000 in
set_option maxHeartbeats 2000000 in
theorem c_m_newNode_94 {d : Nat} (hd : 2 ≤ d) {σ : am_M} {n kk nw : Nat} {o0 o1 o2 : Int32} (h2 : σ.1 2 2 = nI n) (h3 : σ.1 3 2 = nI kk) (h33 : σ.1 0 33 = nI nw) (hn : n < 60) (q0 : σ.1 27 0 = o0) (q1 : σ.1 27 1 = o1) (q2 : σ.1 27 2 = o2) {Q : am_Q} (hq : Q (some (.int (nI n))) (am_wr (am_wr (am_wr (am_wr (am_wr (am_wr (am_wr (am_wr (am_wr (am_wr (am_wr σ 2 2 (nI (n + 1))) 5 (120 + n) (nI 94)) 6 (120 + n) (-1)) 7 (120 + n) (-1)) 8 (120 + n) (-1)) 15 (120 + n) (-1)) 12 (120 + n) (-1)) 10 (120 + n) (nI nw)) 11 (3 * (120 + n) + 0) o0) 11 (3 * (120 + n) + 1) o1) 11 (3 * (120 + n) + 2) o2)) : am_C d 159 [.ref 0, .int (nI 94)] σ Q := by
  refine am_enter' (M := M_X10_newNode) rfl rfl rfl (by omega) (ls := [some (.ref 0), some (.int (nI 94)), none, none, none]) rfl (fun d' hd' => ?_)
  refine am_run 3 (pc' := 5) (ls' := [some (.ref 0), some (.int (nI 94)), none, none, none]) (st' := [.int (nI 2), .ref 2]) (σ' := σ) rfl ?_
  refine am_ialdN (n := 3) (v := nI n) rfl rfl rfl (by omega) (h2) (by decide) ?_
  refine am_run 3 (pc' := 9) (ls' := [some (.ref 0), some (.int (nI 94)), some (.int (nI n)), none, none]) (st' := [.int (nI n), .int (nI 2)]) (σ' := σ) rfl ?_
  refine am_invs (y := 158) (as := [.int (nI 2), .int (nI n)]) (rest := []) rfl rfl rfl rfl rfl rfl (Nat.le_of_ble_eq_true rfl) ?_
  refine c_m_placeOf (by omega) (j := 2) ?_
  show am_G _ M_X10_newNode _ 12 [some (.ref 0), some (.int (nI 94)), some (.int (nI n)), none, none] [.int (nI (120 + n))] σ
  refine am_run 5 (pc' := 19) (ls' := [some (.ref 0), some (.int (nI 94)), some (.int (nI n)), some (.int (nI (120 + n))), none]) (st' := [.int (nI 2), .ref 2, .int (nI 2), .ref 2]) (σ' := σ) rfl ?_
  refine am_ialdN (n := 3) (v := nI n) rfl rfl rfl (by omega) (h2) (by decide) ?_
  refine am_run 2 (pc' := 22) (ls' := [some (.ref 0), some (.int (nI 94)), some (.int (nI n)), some (.int (nI (120 + n))), none]) (st' := [.int (nI n + nI 1), .int (nI 2), .ref 2]) (σ' := σ) rfl ?_
  refine am_top (v' := nI (n + 1)) (nI_add _ _) ?_
  refine am_iastN (n := 3) rfl rfl rfl (by omega) (by decide) ?_
  refine am_run 4 (pc' := 29) (ls' := [some (.ref 0), some (.int (nI 94)), some (.int (nI n)), some (.int (nI (120 + n))), none]) (st' := [.int (nI 94), .int (nI (120 + n)), .ref 5]) (σ' := (am_wr σ 2 2 (nI (n + 1)))) rfl ?_
  refine am_iastN (n := 180) rfl rfl rfl (by omega) (by decide) ?_
  refine am_run 4 (pc' := 36) (ls' := [some (.ref 0), some (.int (nI 94)), some (.int (nI n)), some (.int (nI (120 + n))), none]) (st' := [.int (-1), .int (nI (120 + n)), .ref 6]) (σ' := (am_wr (am_wr σ 2 2 (nI (n + 1))) 5 (120 + n) (nI 94))) rfl ?_
  refine am_iastN (n := 180) rfl rfl rfl (by omega) (by decide) ?_
  refine am_run 4 (pc' := 43) (ls' := [some (.ref 0), some (.int (nI 94)), some (.int (nI n)), some (.int (nI (120 + n))), none]) (st' := [.int (-1), .int (nI (120 + n)), .ref 7]) (σ' := (am_wr (am_wr (am_wr σ 2 2 (nI (n + 1))) 5 (120 + n) (nI 94)) 6 (120 + n) (-1))) rfl ?_
  refine am_iastN (n := 180) rfl rfl rfl (by omega) (by decide) ?_
  refine am_run 4 (pc' := 50) (ls' := [some (.ref 0), some (.int (nI 94)), some (.int (nI n)), some (.int (nI (120 + n))), none]) (st' := [.int (-1), .int (nI (120 + n)), .ref 8]) (σ' := (am_wr (am_wr (am_wr (am_wr σ 2 2 (nI (n + 1))) 5 (120 + n) (nI 94)) 6 (120 + n) (-1)) 7 (120 + n) (-1))) rfl ?_
  refine am_iastN (n := 180) rfl rfl rfl (by omega) (by decide) ?_
  refine am_run 4 (pc' := 57) (ls' := [some (.ref 0), some (.int (nI 94)), some (.int (nI n)), some (.int (nI (120 + n))), none]) (st' := [.int (-1), .int (nI (120 + n)), .ref 15]) (σ' := (am_wr (am_wr (am_wr (am_wr (am_wr σ 2 2 (nI (n + 1))) 5 (120 + n) (nI 94)) 6 (120 + n) (-1)) 7 (120 + n) (-1)) 8 (120 + n) (-1))) rfl ?_
  refine am_iastN (n := 180) rfl rfl rfl (by omega) (by decide) ?_
  refine am_run 4 (pc' := 64) (ls' := [some (.ref 0), some (.int (nI 94)), some (.int (nI n)), some (.int (nI (120 + n))), none]) (st' := [.int (-1), .int (nI (120 + n)), .ref 12]) (σ' := (am_wr (am_wr (am_wr (am_wr (am_wr (am_wr σ 2 2 (nI (n + 1))) 5 (120 + n) (nI 94)) 6 (120 + n) (-1)) 7 (120 + n) (-1)) 8 (120 + n) (-1)) 15 (120 + n) (-1))) rfl ?_
  refine am_iastN (n := 180) rfl rfl rfl (by omega) (by decide) ?_
  refine am_run 5 (pc' := 74) (ls' := [some (.ref 0), some (.int (nI 94)), some (.int (nI n)), some (.int (nI (120 + n))), none]) (st' := [.int (σ.1 0 33), .int (nI (120 + n)), .ref 10]) (σ' := (am_wr (am_wr (am_wr (am_wr (am_wr (am_wr (am_wr σ 2 2 (nI (n + 1))) 5 (120 + n) (nI 94)) 6 (120 + n) (-1)) 7 (120 + n) (-1)) 8 (120 + n) (-1)) 15 (120 + n) (-1)) 12 (120 + n) (-1))) rfl ?_
  refine am_top (v' := nI nw) h33 ?_
  refine am_iastN (n := 180) rfl rfl rfl (by omega) (by decide) ?_
  refine am_run 4 (pc' := 81) (ls' := [some (.ref 0), some (.int (nI 94)), some (.int (nI n)), some (.int (nI (120 + n))), some (.int (nI 0))]) (st' := [.int (nI 3), .int (nI 0)]) (σ' := (am_wr (am_wr (am_wr (am_wr (am_wr (am_wr (am_wr (am_wr σ 2 2 (nI (n + 1))) 5 (120 + n) (nI 94)) 6 (120 + n) (-1)) 7 (120 + n) (-1)) 8 (120 + n) (-1)) 15 (120 + n) (-1)) 12 (120 + n) (-1)) 10 (120 + n) (nI nw))) rfl ?_
  refine am_ic (ty := 84) (tn := 108) rfl (by decide) rfl rfl (fun (h_1 : nI 0 < nI 3) => ?_) (fun (h_1 : ¬ (nI 0 < nI 3)) => ?_)
  rotate_left
  · exact absurd (by decide) h_1
  refine am_run 5 (pc' := 91) (ls' := [some (.ref 0), some (.int (nI 94)), some (.int (nI n)), some (.int (nI (120 + n))), some (.int (nI 0))]) (st' := [.int (nI 3 * nI (120 + n)), .ref 11]) (σ' := (am_wr (am_wr (am_wr (am_wr (am_wr (am_wr (am_wr (am_wr σ 2 2 (nI (n + 1))) 5 (120 + n) (nI 94)) 6 (120 + n) (-1)) 7 (120 + n) (-1)) 8 (120 + n) (-1)) 15 (120 + n) (-1)) 12 (120 + n) (-1)) 10 (120 + n) (nI nw))) rfl ?_
  refine am_top (v' := nI (3 * (120 + n))) (am_nmul _ _) ?_
  refine am_run 2 (pc' := 94) (ls' := [some (.ref 0), some (.int (nI 94)), some (.int (nI n)), some (.int (nI (120 + n))), some (.int (nI 0))]) (st' := [.int (nI (3 * (120 + n)) + nI 0), .ref 11]) (σ' := (am_wr (am_wr (am_wr (am_wr (am_wr (am_wr (am_wr (am_wr σ 2 2 (nI (n + 1))) 5 (120 + n) (nI 94)) 6 (120 + n) (-1)) 7 (120 + n) (-1)) 8 (120 + n) (-1)) 15 (120 + n) (-1)) 12 (120 + n) (-1)) 10 (120 + n) (nI nw))) rfl ?_
  refine am_top (v' := nI (3 * (120 + n) + 0)) (nI_add _ _) ?_
  refine am_run 3 (pc' := 100) (ls' := [some (.ref 0), some (.int (nI 94)), some (.int (nI n)), some (.int (nI (120 + n))), some (.int (nI 0))]) (st' := [.int (nI 0), .ref 27, .int (nI (3 * (120 + n) + 0)), .ref 11]) (σ' := (am_wr (am_wr (am_wr (am_wr (am_wr (am_wr (am_wr (am_wr σ 2 2 (nI (n + 1))) 5 (120 + n) (nI 94)) 6 (120 + n) (-1)) 7 (120 + n) (-1)) 8 (120 + n) (-1)) 15 (120 + n) (-1)) 12 (120 + n) (-1)) 10 (120 + n) (nI nw))) rfl ?_
  refine am_ialdN (n := 4) (v := o0) rfl rfl rfl (by omega) (by rw [am_wr_ne _ (by omega), am_wr_ne _ (by omega), am_wr_ne _ (by omega), am_wr_ne _ (by omega), am_wr_ne _ (by omega), am_wr_ne _ (by omega), am_wr_ne _ (by omega), am_wr_ne _ (by omega)]; exact q0) (by decide) ?_
  refine am_iastN (n := 540) rfl rfl rfl (by omega) (by decide) ?_
  refine am_run 1 (pc' := 105) (ls' := [some (.ref 0), some (.int (nI 94)), some (.int (nI n)), some (.int (nI (120 + n))), some (.int (nI 0 + nI 1))]) (st' := []) (σ' := (am_wr (am_wr (am_wr (am_wr (am_wr (am_wr (am_wr (am_wr (am_wr σ 2 2 (nI (n + 1))) 5 (120 + n) (nI 94)) 6 (120 + n) (-1)) 7 (120 + n) (-1)) 8 (120 + n) (-1)) 15 (120 + n) (-1)) 12 (120 + n) (-1)) 10 (120 + n) (nI nw)) 11 (3 * (120 + n) + 0) o0)) rfl ?_
  refine am_ls (ls' := [some (.ref 0), some (.int (nI 94)), some (.int (nI n)), some (.int (nI (120 + n))), some (.int (nI 1))]) (by rw [nI_add]) ?_
  refine am_run 3 (pc' := 81) (ls' := [some (.ref 0), some (.int (nI 94)), some (.int (nI n)), some (.int (nI (120 + n))), some (.int (nI 1))]) (st' := [.int (nI 3), .int (nI 1)]) (σ' := (am_wr (am_wr (am_wr (am_wr (am_wr (am_wr (am_wr (am_wr (am_wr σ 2 2 (nI (n + 1))) 5 (120 + n) (nI 94)) 6 (120 + n) (-1)) 7 (120 + n) (-1)) 8 (120 + n) (-1)) 15 (120 + n) (-1)) 12 (120 + n) (-1)) 10 (120 + n) (nI nw)) 11 (3 * (120 + n) + 0) o0)) rfl ?_
  refine am_ic (ty := 84) (tn := 108) rfl (by decide) rfl rfl (fun (h_2 : nI 1 < nI 3) => ?_) (fun (h_2 : ¬ (nI 1 < nI 3)) => ?_)
  rotate_left
  · exact absurd (by decide) h_2
  refine am_run 5 (pc' := 91) (ls' := [some (.ref 0), some (.int (nI 94)), some (.int (nI n)), some (.int (nI (120 + n))), some (.int (nI 1))]) (st' := [.int (nI 3 * nI (120 + n)), .ref 11]) (σ' := (am_wr (am_wr (am_wr (am_wr (am_wr (am_wr (am_wr (am_wr (am_wr σ 2 2 (nI (n + 1))) 5 (120 + n) (nI 94)) 6 (120 + n) (-1)) 7 (120 + n) (-1)) 8 (120 + n) (-1)) 15 (120 + n) (-1)) 12 (120 + n) (-1)) 10 (120 + n) (nI nw)) 11 (3 * (120 + n) + 0) o0)) rfl ?_
  refine am_top (v' := nI (3 * (120 + n))) (am_nmul _ _) ?_
  refine am_run 2 (pc' := 94) (ls' := [some (.ref 0), some (.int (nI 94)), some (.int (nI n)), some (.int (nI (120 + n))), some (.int (nI 1))]) (st' := [.int (nI (3 * (120 + n)) + nI 1), .ref 11]) (σ' := (am_wr (am_wr (am_wr (am_wr (am_wr (am_wr (am_wr (am_wr (am_wr σ 2 2 (nI (n + 1))) 5 (120 + n) (nI 94)) 6 (120 + n) (-1)) 7 (120 + n) (-1)) 8 (120 + n) (-1)) 15 (120 + n) (-1)) 12 (120 + n) (-1)) 10 (120 + n) (nI nw)) 11 (3 * (120 + n) + 0) o0)) rfl ?_
  refine am_top (v' := nI (3 * (120 + n) + 1)) (nI_add _ _) ?_
  refine am_run 3 (pc' := 100) (ls' := [some (.ref 0), some (.int (nI 94)), some (.int (nI n)), some (.int (nI (120 + n))), some (.int (nI 1))]) (st' := [.int (nI 1), .ref 27, .int (nI (3 * (120 + n) + 1)), .ref 11]) (σ' := (am_wr (am_wr (am_wr (am_wr (am_wr (am_wr (am_wr (am_wr (am_wr σ 2 2 (nI (n + 1))) 5 (120 + n) (nI 94)) 6 (120 + n) (-1)) 7 (120 + n) (-1)) 8 (120 + n) (-1)) 15 (120 + n) (-1)) 12 (120 + n) (-1)) 10 (120 + n) (nI nw)) 11 (3 * (120 + n) + 0) o0)) rfl ?_
  refine am_ialdN (n := 4) (v := o1) rfl rfl rfl (by omega) (by rw [am_wr_ne _ (by omega), am_wr_ne _ (by omega), am_wr_ne _ (by omega), am_wr_ne _ (by omega), am_wr_ne _ (by omega), am_wr_ne _ (by omega), am_wr_ne _ (by omega), am_wr_ne _ (by omega), am_wr_ne _ (by omega)]; exact q1) (by decide) ?_
  refine am_iastN (n := 540) rfl rfl rfl (by omega) (by decide) ?_
  refine am_run 1 (pc' := 105) (ls' := [some (.ref 0), some (.int (nI 94)), some (.int (nI n)), some (.int (nI (120 + n))), some (.int (nI 1 + nI 1))]) (st' := []) (σ' := (am_wr (am_wr (am_wr (am_wr (am_wr (am_wr (am_wr (am_wr (am_wr (am_wr σ 2 2 (nI (n + 1))) 5 (120 + n) (nI 94)) 6 (120 + n) (-1)) 7 (120 + n) (-1)) 8 (120 + n) (-1)) 15 (120 + n) (-1)) 12 (120 + n) (-1)) 10 (120 + n) (nI nw)) 11 (3 * (120 + n) + 0) o0) 11 (3 * (120 + n) + 1) o1)) rfl ?_
  refine am_ls (ls' := [some (.ref 0), some (.int (nI 94)), some (.int (nI n)), some (.int (nI (120 + n))), some (.int (nI 2))]) (by rw [nI_add]) ?_
  refine am_run 3 (pc' := 81) (ls' := [some (.ref 0), some (.int (nI 94)), some (.int (nI n)), some (.int (nI (120 + n))), some (.int (nI 2))]) (st' := [.int (nI 3), .int (nI 2)]) (σ' := (am_wr (am_wr (am_wr (am_wr (am_wr (am_wr (am_wr (am_wr (am_wr (am_wr σ 2 2 (nI (n + 1))) 5 (120 + n) (nI 94)) 6 (120 + n) (-1)) 7 (120 + n) (-1)) 8 (120 + n) (-1)) 15 (120 + n) (-1)) 12 (120 + n) (-1)) 10 (120 + n) (nI nw)) 11 (3 * (120 + n) + 0) o0) 11 (3 * (120 + n) + 1) o1)) rfl ?_
  refine am_ic (ty := 84) (tn := 108) rfl (by decide) rfl rfl (fun (h_3 : nI 2 < nI 3) => ?_) (fun (h_3 : ¬ (nI 2 < nI 3)) => ?_)
  rotate_left
  · exact absurd (by decide) h_3
  refine am_run 5 (pc' := 91) (ls' := [some (.ref 0), some (.int (nI 94)), some (.int (nI n)), some (.int (nI (120 + n))), some (.int (nI 2))]) (st' := [.int (nI 3 * nI (120 + n)), .ref 11]) (σ' := (am_wr (am_wr (am_wr (am_wr (am_wr (am_wr (am_wr (am_wr (am_wr (am_wr σ 2 2 (nI (n + 1))) 5 (120 + n) (nI 94)) 6 (120 + n) (-1)) 7 (120 + n) (-1)) 8 (120 + n) (-1)) 15 (120 + n) (-1)) 12 (120 + n) (-1)) 10 (120 + n) (nI nw)) 11 (3 * (120 + n) + 0) o0) 11 (3 * (120 + n) + 1) o1)) rfl ?_
  refine am_top (v' := nI (3 * (120 + n))) (am_nmul _ _) ?_
  refine am_run 2 (pc' := 94) (ls' := [some (.ref 0), some (.int (nI 94)), some (.int (nI n)), some (.int (nI (120 + n))), some (.int (nI 2))]) (st' := [.int (nI (3 * (120 + n)) + nI 2), .ref 11]) (σ' := (am_wr (am_wr (am_wr (am_wr (am_wr (am_wr (am_wr (am_wr (am_wr (am_wr σ 2 2 (nI (n + 1))) 5 (120 + n) (nI 94)) 6 (120 + n) (-1)) 7 (120 + n) (-1)) 8 (120 + n) (-1)) 15 (120 + n) (-1)) 12 (120 + n) (-1)) 10 (120 + n) (nI nw)) 11 (3 * (120 + n) + 0) o0) 11 (3 * (120 + n) + 1) o1)) rfl ?_
  refine am_top (v' := nI (3 * (120 + n) + 2)) (nI_add _ _) ?_
  refine am_run 3 (pc' := 100) (ls' := [some (.ref 0), some (.int (nI 94)), some (.int (nI n)), some (.int (nI (120 + n))), some (.int (nI 2))]) (st' := [.int (nI 2), .ref 27, .int (nI (3 * (120 + n) + 2)), .ref 11]) (σ' := (am_wr (am_wr (am_wr (am_wr (am_wr (am_wr (am_wr (am_wr (am_wr (am_wr σ 2 2 (nI (n + 1))) 5 (120 + n) (nI 94)) 6 (120 + n) (-1)) 7 (120 + n) (-1)) 8 (120 + n) (-1)) 15 (120 + n) (-1)) 12 (120 + n) (-1)) 10 (120 + n) (nI nw)) 11 (3 * (120 + n) + 0) o0) 11 (3 * (120 + n) + 1) o1)) rfl ?_
  refine am_ialdN (n := 4) (v := o2) rfl rfl rfl (by omega) (by rw [am_wr_ne _ (by omega), am_wr_ne _ (by omega), am_wr_ne _ (by omega), am_wr_ne _ (by omega), am_wr_ne _ (by omega), am_wr_ne _ (by omega), am_wr_ne _ (by omega), am_wr_ne _ (by omega), am_wr_ne _ (by omega), am_wr_ne _ (by omega)]; exact q2) (by decide) ?_
  refine am_iastN (n := 540) rfl rfl rfl (by omega) (by decide) ?_
  refine am_run 1 (pc' := 105) (ls' := [some (.ref 0), some (.int (nI 94)), some (.int (nI n)), some (.int (nI (120 + n))), some (.int (nI 2 + nI 1))]) (st' := []) (σ' := (am_wr (am_wr (am_wr (am_wr (am_wr (am_wr (am_wr (am_wr (am_wr (am_wr (am_wr σ 2 2 (nI (n + 1))) 5 (120 + n) (nI 94)) 6 (120 + n) (-1)) 7 (120 + n) (-1)) 8 (120 + n) (-1)) 15 (120 + n) (-1)) 12 (120 + n) (-1)) 10 (120 + n) (nI nw)) 11 (3 * (120 + n) + 0) o0) 11 (3 * (120 + n) + 1) o1) 11 (3 * (120 + n) + 2) o2)) rfl ?_
  refine am_ls (ls' := [some (.ref 0), some (.int (nI 94)), some (.int (nI n)), some (.int (nI (120 + n))), some (.int (nI 3))]) (by rw [nI_add]) ?_
  refine am_run 3 (pc' := 81) (ls' := [some (.ref 0), some (.int (nI 94)), some (.int (nI n)), some (.int (nI (120 + n))), some (.int (nI 3))]) (st' := [.int (nI 3), .int (nI 3)]) (σ' := (am_wr (am_wr (am_wr (am_wr (am_wr (am_wr (am_wr (am_wr (am_wr (am_wr (am_wr σ 2 2 (nI (n + 1))) 5 (120 + n) (nI 94)) 6 (120 + n) (-1)) 7 (120 + n) (-1)) 8 (120 + n) (-1)) 15 (120 + n) (-1)) 12 (120 + n) (-1)) 10 (120 + n) (nI nw)) 11 (3 * (120 + n) + 0) o0) 11 (3 * (120 + n) + 1) o1) 11 (3 * (120 + n) + 2) o2)) rfl ?_
  refine am_ic (ty := 84) (tn := 108) rfl (by decide) rfl rfl (fun (h_4 : nI 3 < nI 3) => ?_) (fun (h_4 : ¬ (nI 3 < nI 3)) => ?_)
  · exact absurd h_4 (by decide)
  refine am_run 2 (pc' := 111) (ls' := [some (.ref 0), some (.int (nI 94)), some (.int (nI n)), some (.int (nI (120 + n))), some (.int (nI 3))]) (st' := [.int (nI 46), .int (nI 94)]) (σ' := (am_wr (am_wr (am_wr (am_wr (am_wr (am_wr (am_wr (am_wr (am_wr (am_wr (am_wr σ 2 2 (nI (n + 1))) 5 (120 + n) (nI 94)) 6 (120 + n) (-1)) 7 (120 + n) (-1)) 8 (120 + n) (-1)) 15 (120 + n) (-1)) 12 (120 + n) (-1)) 10 (120 + n) (nI nw)) 11 (3 * (120 + n) + 0) o0) 11 (3 * (120 + n) + 1) o1) 11 (3 * (120 + n) + 2) o2)) rfl ?_
  refine am_ic (ty := 120) (tn := 114) rfl (by decide) rfl rfl (fun (h_5 : nI 94 = nI 46) => ?_) (fun (h_5 : ¬ (nI 94 = nI 46)) => ?_)
  · exact absurd h_5 (by decide)
  refine am_run 2 (pc' := 117) (ls' := [some (.ref 0), some (.int (nI 94)), some (.int (nI n)), some (.int (nI (120 + n))), some (.int (nI 3))]) (st' := [.int (nI 38), .int (nI 94)]) (σ' := (am_wr (am_wr (am_wr (am_wr (am_wr (am_wr (am_wr (am_wr (am_wr (am_wr (am_wr σ 2 2 (nI (n + 1))) 5 (120 + n) (nI 94)) 6 (120 + n) (-1)) 7 (120 + n) (-1)) 8 (120 + n) (-1)) 15 (120 + n) (-1)) 12 (120 + n) (-1)) 10 (120 + n) (nI nw)) 11 (3 * (120 + n) + 0) o0) 11 (3 * (120 + n) + 1) o1) 11 (3 * (120 + n) + 2) o2)) rfl ?_
  refine am_ic (ty := 120) (tn := 142) rfl (by decide) rfl rfl (fun (h_6 : nI 94 = nI 38) => ?_) (fun (h_6 : ¬ (nI 94 = nI 38)) => ?_)
  · exact absurd h_6 (by decide)
  refine am_run 1 (pc' := 143) (ls' := [some (.ref 0), some (.int (nI 94)), some (.int (nI n)), some (.int (nI (120 + n))), some (.int (nI 3))]) (st' := [.int (nI n)]) (σ' := (am_wr (am_wr (am_wr (am_wr (am_wr (am_wr (am_wr (am_wr (am_wr (am_wr (am_wr σ 2 2 (nI (n + 1))) 5 (120 + n) (nI 94)) 6 (120 + n) (-1)) 7 (120 + n) (-1)) 8 (120 + n) (-1)) 15 (120 + n) (-1)) 12 (120 + n) (-1)) 10 (120 + n) (nI nw)) 11 (3 * (120 + n) + 0) o0) 11 (3 * (120 + n) + 1) o1) 11 (3 * (120 + n) + 2) o2)) rfl ?_
  refine am_reti rfl rfl ?_
  exact hq
set_option maxRecDepth 10000 in
set_option maxHeartbeats 2000000 in
theorem c_m_newNode_64 {d : Nat} (hd : 2 ≤ d) {σ : am_M} {n kk nw : Nat} {o0 o1 o2 : Int32} (h2 : σ.1 2 2 = nI n) (h3 : σ.1 3 2 = nI kk) (h33 : σ.1 0 33 = nI nw) (hn : n < 60) (q0 : σ.1 27 0 = o0) (q1 : σ.1 27 1 = o1) (q2 : σ.1 27 2 = o2) {Q : am_Q} (hq : Q (some (.int (nI n))) (am_wr (am_wr (am_wr (am_wr (am_wr (am_wr (am_wr (am_wr (am_wr (am_wr (am_wr σ 2 2 (nI (n + 1))) 5 (120 + n) (nI 64)) 6 (120 + n) (-1)) 7 (120 + n) (-1)) 8 (120 + n) (-1)) 15 (120 + n) (-1)) 12 (120 + n) (-1)) 10 (120 + n) (nI nw)) 11 (3 * (120 + n) + 0) o0) 11 (3 * (120 + n) + 1) o1) 11 (3 * (120 + n) + 2) o2)) : am_C d 159 [.ref 0, .int (nI 64)] σ Q := by
  refine am_enter' (M := M_X10_newNode) rfl rfl rfl (by omega) (ls := [some (.ref 0), some (.int (nI 64)), none, none, none]) rfl (fun d' hd' => ?_)
  refine am_run 3 (pc' := 5) (ls' := [some (.ref 0), some (.int (nI 64)), none, none, none]) (st' := [.int (nI 2), .ref 2]) (σ' := σ) rfl ?_
  refine am_ialdN (n := 3) (v := nI n) rfl rfl rfl (by omega) (h2) (by decide) ?_
  refine am_run 3 (pc' := 9) (ls' := [some (.ref 0), some (.int (nI 64)), some (.int (nI n)), none, none]) (st' := [.int (nI n), .int (nI 2)]) (σ' := σ) rfl ?_
  refine am_invs (y := 158) (as := [.int (nI 2), .int (nI n)]) (rest := []) rfl rfl rfl rfl rfl rfl (Nat.le_of_ble_eq_true rfl) ?_
  refine c_m_placeOf (by omega) (j := 2) ?_
  show am_G _ M_X10_newNode _ 12 [some (.ref 0), some (.int (nI 64)), some (.int (nI n)), none, none] [.int (nI (120 + n))] σ
  refine am_run 5 (pc' := 19) (ls' := [some (.ref 0), some (.int (nI 64)), some (.int (nI n)), some (.int (nI (120 + n))), none]) (st' := [.int (nI 2), .ref 2, .int (nI 2), .ref 2]) (σ' := σ) rfl ?_
  refine am_ialdN (n := 3) (v := nI n) rfl rfl rfl (by omega) (h2) (by decide) ?_
  refine am_run 2 (pc' := 22) (ls' := [some (.ref 0), some (.int (nI 64)), some (.int (nI n)), some (.int (nI (120 + n))), none]) (st' := [.int (nI n + nI 1), .int (nI 2), .ref 2]) (σ' := σ) rfl ?_
  refine am_top (v' := nI (n + 1)) (nI_add _ _) ?_
  refine am_iastN (n := 3) rfl rfl rfl (by omega) (by decide) ?_
  refine am_run 4 (pc' := 29) (ls' := [some (.ref 0), some (.int (nI 64)), some (.int (nI n)), some (.int (nI (120 + n))), none]) (st' := [.int (nI 64), .int (nI (120 + n)), .ref 5]) (σ' := (am_wr σ 2 2 (nI (n + 1)))) rfl ?_
  refine am_iastN (n := 180) rfl rfl rfl (by omega) (by decide) ?_
  refine am_run 4 (pc' := 36) (ls' := [some (.ref 0), some (.int (nI 64)), some (.int (nI n)), some (.int (nI (120 + n))), none]) (st' := [.int (-1), .int (nI (120 + n)), .ref 6]) (σ' := (am_wr (am_wr σ 2 2 (nI (n + 1))) 5 (120 + n) (nI 64))) rfl ?_
  refine am_iastN (n := 180) rfl rfl rfl (by omega) (by decide) ?_
  refine am_run 4 (pc' := 43) (ls' := [some (.ref 0), some (.int (nI 64)), some (.int (nI n)), some (.int (nI (120 + n))), none]) (st' := [.int (-1), .int (nI (120 + n)), .ref 7]) (σ' := (am_wr (am_wr (am_wr σ 2 2 (nI (n + 1))) 5 (120 + n) (nI 64)) 6 (120 + n) (-1))) rfl ?_
  refine am_iastN (n := 180) rfl rfl rfl (by omega) (by decide) ?_
  refine am_run 4 (pc' := 50) (ls' := [some (.ref 0), some (.int (nI 64)), some (.int (nI n)), some (.int (nI (120 + n))), none]) (st' := [.int (-1), .int (nI (120 + n)), .ref 8]) (σ' := (am_wr (am_wr (am_wr (am_wr σ 2 2 (nI (n + 1))) 5 (120 + n) (nI 64)) 6 (120 + n) (-1)) 7 (120 + n) (-1))) rfl ?_
  refine am_iastN (n := 180) rfl rfl rfl (by omega) (by decide) ?_
  refine am_run 4 (pc' := 57) (ls' := [some (.ref 0), some (.int (nI 64)), some (.int (nI n)), some (.int (nI (120 + n))), none]) (st' := [.int (-1), .int (nI (120 + n)), .ref 15]) (σ' := (am_wr (am_wr (am_wr (am_wr (am_wr σ 2 2 (nI (n + 1))) 5 (120 + n) (nI 64)) 6 (120 + n) (-1)) 7 (120 + n) (-1)) 8 (120 + n) (-1))) rfl ?_
  refine am_iastN (n := 180) rfl rfl rfl (by omega) (by decide) ?_
  refine am_run 4 (pc' := 64) (ls' := [some (.ref 0), some (.int (nI 64)), some (.int (nI n)), some (.int (nI (120 + n))), none]) (st' := [.int (-1), .int (nI (120 + n)), .ref 12]) (σ' := (am_wr (am_wr (am_wr (am_wr (am_wr (am_wr σ 2 2 (nI (n + 1))) 5 (120 + n) (nI 64)) 6 (120 + n) (-1)) 7 (120 + n) (-1)) 8 (120 + n) (-1)) 15 (120 + n) (-1))) rfl ?_
  refine am_iastN (n := 180) rfl rfl rfl (by omega) (by decide) ?_
  refine am_run 5 (pc' := 74) (ls' := [some (.ref 0), some (.int (nI 64)), some (.int (nI n)), some (.int (nI (120 + n))), none]) (st' := [.int (σ.1 0 33), .int (nI (120 + n)), .ref 10]) (σ' := (am_wr (am_wr (am_wr (am_wr (am_wr (am_wr (am_wr σ 2 2 (nI (n + 1))) 5 (120 + n) (nI 64)) 6 (120 + n) (-1)) 7 (120 + n) (-1)) 8 (120 + n) (-1)) 15 (120 + n) (-1)) 12 (120 + n) (-1))) rfl ?_
  refine am_top (v' := nI nw) h33 ?_
  refine am_iastN (n := 180) rfl rfl rfl (by omega) (by decide) ?_
  refine am_run 4 (pc' := 81) (ls' := [some (.ref 0), some (.int (nI 64)), some (.int (nI n)), some (.int (nI (120 + n))), some (.int (nI 0))]) (st' := [.int (nI 3), .int (nI 0)]) (σ' := (am_wr (am_wr (am_wr (am_wr (am_wr (am_wr (am_wr (am_wr σ 2 2 (nI (n + 1))) 5 (120 + n) (nI 64)) 6 (120 + n) (-1)) 7 (120 + n) (-1)) 8 (120 + n) (-1)) 15 (120 + n) (-1)) 12 (120 + n) (-1)) 10 (120 + n) (nI nw))) rfl ?_
  refine am_ic (ty := 84) (tn := 108) rfl (by decide) rfl rfl (fun (h_1 : nI 0 < nI 3) => ?_) (fun (h_1 : ¬ (nI 0 < nI 3)) => ?_)
  rotate_left
  · exact absurd (by decide) h_1
  refine am_run 5 (pc' := 91) (ls' := [some (.ref 0), some (.int (nI 64)), some (.int (nI n)), some (.int (nI (120 + n))), some (.int (nI 0))]) (st' := [.int (nI 3 * nI (120 + n)), .ref 11]) (σ' := (am_wr (am_wr (am_wr (am_wr (am_wr (am_wr (am_wr (am_wr σ 2 2 (nI (n + 1))) 5 (120 + n) (nI 64)) 6 (120 + n) (-1)) 7 (120 + n) (-1)) 8 (120 + n) (-1)) 15 (120 + n) (-1)) 12 (120 + n) (-1)) 10 (120 + n) (nI nw))) rfl ?_
  refine am_top (v' := nI (3 * (120 + n))) (am_nmul _ _) ?_
  refine am_run 2 (pc' := 94) (ls' := [some (.ref 0), some (.int (nI 64)), some (.int (nI n)), some (.int (nI (120 + n))), some (.int (nI 0))]) (st' := [.int (nI (3 * (120 + n)) + nI 0), .ref 11]) (σ' := (am_wr (am_wr (am_wr (am_wr (am_wr (am_wr (am_wr (am_wr σ 2 2 (nI (n + 1))) 5 (120 + n) (nI 64)) 6 (120 + n) (-1)) 7 (120 + n) (-1)) 8 (120 + n) (-1)) 15 (120 + n) (-1)) 12 (120 + n) (-1)) 10 (120 + n) (nI nw))) rfl ?_
  refine am_top (v' := nI (3 * (120 + n) + 0)) (nI_add _ _) ?_
  refine am_run 3 (pc' := 100) (ls' := [some (.ref 0), some (.int (nI 64)), some (.int (nI n)), some (.int (nI (120 + n))), some (.int (nI 0))]) (st' := [.int (nI 0), .ref 27, .int (nI (3 * (120 + n) + 0)), .ref 11]) (σ' := (am_wr (am_wr (am_wr (am_wr (am_wr (am_wr (am_wr (am_wr σ 2 2 (nI (n + 1))) 5 (120 + n) (nI 64)) 6 (120 + n) (-1)) 7 (120 + n) (-1)) 8 (120 + n) (-1)) 15 (120 + n) (-1)) 12 (120 + n) (-1)) 10 (120 + n) (nI nw))) rfl ?_
  refine am_ialdN (n := 4) (v := o0) rfl rfl rfl (by omega) (by rw [am_wr_ne _ (by omega), am_wr_ne _ (by omega), am_wr_ne _ (by omega), am_wr_ne _ (by omega), am_wr_ne _ (by omega), am_wr_ne _ (by omega), am_wr_ne _ (by omega), am_wr_ne _ (by omega)]; exact q0) (by decide) ?_
  refine am_iastN (n := 540) rfl rfl rfl (by omega) (by decide) ?_
  refine am_run 1 (pc' := 105) (ls' := [some (.ref 0), some (.int (nI 64)), some (.int (nI n)), some (.int (nI (120 + n))), some (.int (nI 0 + nI 1))]) (st' := []) (σ' := (am_wr (am_wr (am_wr (am_wr (am_wr (am_wr (am_wr (am_wr (am_wr σ 2 2 (nI (n + 1))) 5 (120 + n) (nI 64)) 6 (120 + n) (-1)) 7 (120 + n) (-1)) 8 (120 + n) (-1)) 15 (120 + n) (-1)) 12 (120 + n) (-1)) 10 (120 + n) (nI nw)) 11 (3 * (120 + n) + 0) o0)) rfl ?_
  refine am_ls (ls' := [some (.ref 0), some (.int (nI 64)), some (.int (nI n)), some (.int (nI (120 + n))), some (.int (nI 1))]) (by rw [nI_add]) ?_
  refine am_run 3 (pc' := 81) (ls' := [some (.ref 0), some (.int (nI 64)), some (.int (nI n)), some (.int (nI (120 + n))), some (.int (nI 1))]) (st' := [.int (nI 3), .int (nI 1)]) (σ' := (am_wr (am_wr (am_wr (am_wr (am_wr (am_wr (am_wr (am_wr (am_wr σ 2 2 (nI (n + 1))) 5 (120 + n) (nI 64)) 6 (120 + n) (-1)) 7 (120 + n) (-1)) 8 (120 + n) (-1)) 15 (120 + n) (-1)) 12 (120 + n) (-1)) 10 (120 + n) (nI nw)) 11 (3 * (120 + n) + 0) o0)) rfl ?_
  refine am_ic (ty := 84) (tn := 108) rfl (by decide) rfl rfl (fun (h_2 : nI 1 < nI 3) => ?_) (fun (h_2 : ¬ (nI 1 < nI 3)) => ?_)
  rotate_left
  · exact absurd (by decide) h_2
  refine am_run 5 (pc' := 91) (ls' := [some (.ref 0), some (.int (nI 64)), some (.int (nI n)), some (.int (nI (120 + n))), some (.int (nI 1))]) (st' := [.int (nI 3 * nI (120 + n)), .ref 11]) (σ' := (am_wr (am_wr (am_wr (am_wr (am_wr (am_wr (am_wr (am_wr (am_wr σ 2 2 (nI (n + 1))) 5 (120 + n) (nI 64)) 6 (120 + n) (-1)) 7 (120 + n) (-1)) 8 (120 + n) (-1)) 15 (120 + n) (-1)) 12 (120 + n) (-1)) 10 (120 + n) (nI nw)) 11 (3 * (120 + n) + 0) o0)) rfl ?_
  refine am_top (v' := nI (3 * (120 + n))) (am_nmul _ _) ?_
  refine am_run 2 (pc' := 94) (ls' := [some (.ref 0), some (.int (nI 64)), some (.int (nI n)), some (.int (nI (120 + n))), some (.int (nI 1))]) (st' := [.int (nI (3 * (120 + n)) + nI 1), .ref 11]) (σ' := (am_wr (am_wr (am_wr (am_wr (am_wr (am_wr (am_wr (am_wr (am_wr σ 2 2 (nI (n + 1))) 5 (120 + n) (nI 64)) 6 (120 + n) (-1)) 7 (120 + n) (-1)) 8 (120 + n) (-1)) 15 (120 + n) (-1)) 12 (120 + n) (-1)) 10 (120 + n) (nI nw)) 11 (3 * (120 + n) + 0) o0)) rfl ?_
  refine am_top (v' := nI (3 * (120 + n) + 1)) (nI_add _ _) ?_
  refine am_run 3 (pc' := 100) (ls' := [some (.ref 0), some (.int (nI 64)), some (.int (nI n)), some (.int (nI (120 + n))), some (.int (nI 1))]) (st' := [.int (nI 1), .ref 27, .int (nI (3 * (120 + n) + 1)), .ref 11]) (σ' := (am_wr (am_wr (am_wr (am_wr (am_wr (am_wr (am_wr (am_wr (am_wr σ 2 2 (nI (n + 1))) 5 (120 + n) (nI 64)) 6 (120 + n) (-1)) 7 (120 + n) (-1)) 8 (120 + n) (-1)) 15 (120 + n) (-1)) 12 (120 + n) (-1)) 10 (120 + n) (nI nw)) 11 (3 * (120 + n) + 0) o0)) rfl ?_
  refine am_ialdN (n := 4) (v := o1) rfl rfl rfl (by omega) (by rw [am_wr_ne _ (by omega), am_wr_ne _ (by omega), am_wr_ne _ (by omega), am_wr_ne _ (by omega), am_wr_ne _ (by omega), am_wr_ne _ (by omega), am_wr_ne _ (by omega), am_wr_ne _ (by omega), am_wr_ne _ (by omega)]; exact q1) (by decide) ?_
  refine am_iastN (n := 540) rfl rfl rfl (by omega) (by decide) ?_
  refine am_run 1 (pc' := 105) (ls' := [some (.ref 0), some (.int (nI 64)), some (.int (nI n)), some (.int (nI (120 + n))), some (.int (nI 1 + nI 1))]) (st' := []) (σ' := (am_wr (am_wr (am_wr (am_wr (am_wr (am_wr (am_wr (am_wr (am_wr (am_wr σ 2 2 (nI (n + 1))) 5 (120 + n) (nI 64)) 6 (120 + n) (-1)) 7 (120 + n) (-1)) 8 (120 + n) (-1)) 15 (120 + n) (-1)) 12 (120 + n) (-1)) 10 (120 + n) (nI nw)) 11 (3 * (120 + n) + 0) o0) 11 (3 * (120 + n) + 1) o1)) rfl ?_
  refine am_ls (ls' := [some (.ref 0), some (.int (nI 64)), some (.int (nI n)), some (.int (nI (120 + n))), some (.int (nI 2))]) (by rw [nI_add]) ?_
  refine am_run 3 (pc' := 81) (ls' := [some (.ref 0), some (.int (nI 64)), some (.int (nI n)), some (.int (nI (120 + n))), some (.int (nI 2))]) (st' := [.int (nI 3), .int (nI 2)]) (σ' := (am_wr (am_wr (am_wr (am_wr (am_wr (am_wr (am_wr (am_wr (am_wr (am_wr σ 2 2 (nI (n + 1))) 5 (120 + n) (nI 64)) 6 (120 + n) (-1)) 7 (120 + n) (-1)) 8 (120 + n) (-1)) 15 (120 + n) (-1)) 12 (120 + n) (-1)) 10 (120 + n) (nI nw)) 11 (3 * (120 + n) + 0) o0) 11 (3 * (120 + n) + 1) o1)) rfl ?_
  refine am_ic (ty := 84) (tn := 108) rfl (by decide) rfl rfl (fun (h_3 : nI 2 < nI 3) => ?_) (fun (h_3 : ¬ (nI 2 < nI 3)) => ?_)
  rotate_left
  · exact absurd (by decide) h_3
  refine am_run 5 (pc' := 91) (ls' := [some (.ref 0), some (.int (nI 64)), some (.int (nI n)), some (.int (nI (120 + n))), some (.int (nI 2))]) (st' := [.int (nI 3 * nI (120 + n)), .ref 11]) (σ' := (am_wr (am_wr (am_wr (am_wr (am_wr (am_wr (am_wr (am_wr (am_wr (am_wr σ 2 2 (nI (n + 1))) 5 (120 + n) (nI 64)) 6 (120 + n) (-1)) 7 (120 + n) (-1)) 8 (120 + n) (-1)) 15 (120 + n) (-1)) 12 (120 + n) (-1)) 10 (120 + n) (nI nw)) 11 (3 * (120 + n) + 0) o0) 11 (3 * (120 + n) + 1) o1)) rfl ?_
  refine am_top (v' := nI (3 * (120 + n))) (am_nmul _ _) ?_
  refine am_run 2 (pc' := 94) (ls' := [some (.ref 0), some (.int (nI 64)), some (.int (nI n)), some (.int (nI (120 + n))), some (.int (nI 2))]) (st' := [.int (nI (3 * (120 + n)) + nI 2), .ref 11]) (σ' := (am_wr (am_wr (am_wr (am_wr (am_wr (am_wr (am_wr (am_wr (am_wr (am_wr σ 2 2 (nI (n + 1))) 5 (120 + n) (nI 64)) 6 (120 + n) (-1)) 7 (120 + n) (-1)) 8 (120 + n) (-1)) 15 (120 + n) (-1)) 12 (120 + n) (-1)) 10 (120 + n) (nI nw)) 11 (3 * (120 + n) + 0) o0) 11 (3 * (120 + n) + 1) o1)) rfl ?_
  refine am_top (v' := nI (3 * (120 + n) + 2)) (nI_add _ _) ?_
  refine am_run 3 (pc' := 100) (ls' := [some (.ref 0), some (.int (nI 64)), some (.int (nI n)), some (.int (nI (120 + n))), some (.int (nI 2))]) (st' := [.int (nI 2), .ref 27, .int (nI (3 * (120 + n) + 2)), .ref 11]) (σ' := (am_wr (am_wr (am_wr (am_wr (am_wr (am_wr (am_wr (am_wr (am_wr (am_wr σ 2 2 (nI (n + 1))) 5 (120 + n) (nI 64)) 6 (120 + n) (-1)) 7 (120 + n) (-1)) 8 (120 + n) (-1)) 15 (120 + n) (-1)) 12 (120 + n) (-1)) 10 (120 + n) (nI nw)) 11 (3 * (120 + n) + 0) o0) 11 (3 * (120 + n) + 1) o1)) rfl ?_
  refine am_ialdN (n := 4) (v := o2) rfl rfl rfl (by omega) (by rw [am_wr_ne _ (by omega), am_wr_ne _ (by omega), am_wr_ne _ (by omega), am_wr_ne _ (by omega), am_wr_ne _ (by omega), am_wr_ne _ (by omega), am_wr_ne _ (by omega), am_wr_ne _ (by omega), am_wr_ne _ (by omega), am_wr_ne _ (by omega)]; exact q2) (by decide) ?_
  refine am_iastN (n := 540) rfl rfl rfl (by omega) (by decide) ?_
  refine am_run 1 (pc' := 105) (ls' := [some (.ref 0), some (.int (nI 64)), some (.int (nI n)), some (.int (nI (120 + n))), some (.int (nI 2 + nI 1))]) (st' := []) (σ' := (am_wr (am_wr (am_wr (am_wr (am_wr (am_wr (am_wr (am_wr (am_wr (am_wr (am_wr σ 2 2 (nI (n + 1))) 5 (120 + n) (nI 64)) 6 (120 + n) (-1)) 7 (120 + n) (-1)) 8 (120 + n) (-1)) 15 (120 + n) (-1)) 12 (120 + n) (-1)) 10 (120 + n) (nI nw)) 11 (3 * (120 + n) + 0) o0) 11 (3 * (120 + n) + 1) o1) 11 (3 * (120 + n) + 2) o2)) rfl ?_
  refine am_ls (ls' := [some (.ref 0), some (.int (nI 64)), some (.int (nI n)), some (.int (nI (120 + n))), some (.int (nI 3))]) (by rw [nI_add]) ?_
  refine am_run 3 (pc' := 81) (ls' := [some (.ref 0), some (.int (nI 64)), some (.int (nI n)), some (.int (nI (120 + n))), some (.int (nI 3))]) (st' := [.int (nI 3), .int (nI 3)]) (σ' := (am_wr (am_wr (am_wr (am_wr (am_wr (am_wr (am_wr (am_wr (am_wr (am_wr (am_wr σ 2 2 (nI (n + 1))) 5 (120 + n) (nI 64)) 6 (120 + n) (-1)) 7 (120 + n) (-1)) 8 (120 + n) (-1)) 15 (120 + n) (-1)) 12 (120 + n) (-1)) 10 (120 + n) (nI nw)) 11 (3 * (120 + n) + 0) o0) 11 (3 * (120 + n) + 1) o1) 11 (3 * (120 + n) + 2) o2)) rfl ?_
  refine am_ic (ty := 84) (tn := 108) rfl (by decide) rfl rfl (fun (h_4 : nI 3 < nI 3) => ?_) (fun (h_4 : ¬ (nI 3 < nI 3)) => ?_)
  · exact absurd h_4 (by decide)
  refine am_run 2 (pc' := 111) (ls' := [some (.ref 0), some (.int (nI 64)), some (.int (nI n)), some (.int (nI (120 + n))), some (.int (nI 3))]) (st' := [.int (nI 46), .int (nI 64)]) (σ' := (am_wr (am_wr (am_wr (am_wr (am_wr (am_wr (am_wr (am_wr (am_wr (am_wr (am_wr σ 2 2 (nI (n + 1))) 5 (120 + n) (nI 64)) 6 (120 + n) (-1)) 7 (120 + n) (-1)) 8 (120 + n) (-1)) 15 (120 + n) (-1)) 12 (120 + n) (-1)) 10 (120 + n) (nI nw)) 11 (3 * (120 + n) + 0) o0) 11 (3 * (120 + n) + 1) o1) 11 (3 * (120 + n) + 2) o2)) rfl ?_
  refine am_ic (ty := 120) (tn := 114) rfl (by decide) rfl rfl (fun (h_5 : nI 64 = nI 46) => ?_) (fun (h_5 : ¬ (nI 64 = nI 46)) => ?_)
  · exact absurd h_5 (by decide)
  refine am_run 2 (pc' := 117) (ls' := [some (.ref 0), some (.int (nI 64)), some (.int (nI n)), some (.int (nI (120 + n))), some (.int (nI 3))]) (st' := [.int (nI 38), .int (nI 64)]) (σ' := (am_wr (am_wr (am_wr (am_wr (am_wr (am_wr (am_wr (am_wr (am_wr (am_wr (am_wr σ 2 2 (nI (n + 1))) 5 (120 + n) (nI 64)) 6 (120 + n) (-1)) 7 (120 + n) (-1)) 8 (120 + n) (-1)) 15 (120 + n) (-1)) 12 (120 + n) (-1)) 10 (120 + n) (nI nw)) 11 (3 * (120 + n) + 0) o0) 11 (3 * (120 + n) + 1) o1) 11 (3 * (120 + n) + 2) o2)) rfl ?_
  refine am_ic (ty := 120) (tn := 142) rfl (by decide) rfl rfl (fun (h_6 : nI 64 = nI 38) => ?_) (fun (h_6 : ¬ (nI 64 = nI 38)) => ?_)
  · exact absurd h_6 (by decide)
  refine am_run 1 (pc' := 143) (ls' := [some (.ref 0), some (.int (nI 64)), some (.int (nI n)), some (.int (nI (120 + n))), some (.int (nI 3))]) (st' := [.int (nI n)]) (σ' := (am_wr (am_wr (am_wr (am_wr (am_wr (am_wr (am_wr (am_wr (am_wr (am_wr (am_wr σ 2 2 (nI (n + 1))) 5 (120 + n) (nI 64)) 6 (120 + n) (-1)) 7 (120 + n) (-1)) 8 (120 + n) (-1)) 15 (120 + n) (-1)) 12 (120 + n) (-1)) 10 (120 + n) (nI nw)) 11 (3 * (120 + n) + 0) o0) 11 (3 * (120 + n) + 1) o1) 11 (3 * (120 + n) + 2) o2)) rfl ?_
  refine am_reti rfl rfl ?_
  exact hq
set_option maxRecDepth 10000 in
set_option maxHeartbeats 2000000 in
theorem c_m_newNode_126 {d : Nat} (hd : 2 ≤ d) {σ : am_M} {n kk nw : Nat} {o0 o1 o2 : Int32} (h2 : σ.1 2 2 = nI n) (h3 : σ.1 3 2 = nI kk) (h33 : σ.1 0 33 = nI nw) (hn : n < 60) (q0 : σ.1 27 0 = o0) (q1 : σ.1 27 1 = o1) (q2 : σ.1 27 2 = o2) {Q : am_Q} (hq : Q (some (.int (nI n))) (am_wr (am_wr (am_wr (am_wr (am_wr (am_wr (am_wr (am_wr (am_wr (am_wr (am_wr σ 2 2 (nI (n + 1))) 5 (120 + n) (nI 126)) 6 (120 + n) (-1)) 7 (120 + n) (-1)) 8 (120 + n) (-1)) 15 (120 + n) (-1)) 12 (120 + n) (-1)) 10 (120 + n) (nI nw)) 11 (3 * (120 + n) + 0) o0) 11 (3 * (120 + n) + 1) o1) 11 (3 * (120 + n) + 2) o2)) : am_C d 159 [.ref 0, .int (nI 126)] σ Q := by
  refine am_enter' (M := M_X10_newNode) rfl rfl rfl (by omega) (ls := [some (.ref 0), some (.int (nI 126)), none, none, none]) rfl (fun d' hd' => ?_)
  refine am_run 3 (pc' := 5) (ls' := [some (.ref 0), some (.int (nI 126)), none, none, none]) (st' := [.int (nI 2), .ref 2]) (σ' := σ) rfl ?_
  refine am_ialdN (n := 3) (v := nI n) rfl rfl rfl (by omega) (h2) (by decide) ?_
  refine am_run 3 (pc' := 9) (ls' := [some (.ref 0), some (.int (nI 126)), some (.int (nI n)), none, none]) (st' := [.int (nI n), .int (nI 2)]) (σ' := σ) rfl ?_
  refine am_invs (y := 158) (as := [.int (nI 2), .int (nI n)]) (rest := []) rfl rfl rfl rfl rfl rfl (Nat.le_of_ble_eq_true rfl) ?_
  refine c_m_placeOf (by omega) (j := 2) ?_
  show am_G _ M_X10_newNode _ 12 [some (.ref 0), some (.int (nI 126)), some (.int (nI n)), none, none] [.int (nI (120 + n))] σ
  refine am_run 5 (pc' := 19) (ls' := [some (.ref 0), some (.int (nI 126)), some (.int (nI n)), some (.int (nI (120 + n))), none]) (st' := [.int (nI 2), .ref 2, .int (nI 2), .ref 2]) (σ' := σ) rfl ?_
  refine am_ialdN (n := 3) (v := nI n) rfl rfl rfl (by omega) (h2) (by decide) ?_
  refine am_run 2 (pc' := 22) (ls' := [some (.ref 0), some (.int (nI 126)), some (.int (nI n)), some (.int (nI (120 + n))), none]) (st' := [.int (nI n + nI 1), .int (nI 2), .ref 2]) (σ' := σ) rfl ?_
  refine am_top (v' := nI (n + 1)) (nI_add _ _) ?_
  refine am_iastN (n := 3) rfl rfl rfl (by omega) (by decide) ?_
  refine am_run 4 (pc' := 29) (ls' := [some (.ref 0), some (.int (nI 126)), some (.int (nI n)), some (.int (nI (120 + n))), none]) (st' := [.int (nI 126), .int (nI (120 + n)), .ref 5]) (σ' := (am_wr σ 2 2 (nI (n + 1)))) rfl ?_
  refine am_iastN (n := 180) rfl rfl rfl (by omega) (by decide) ?_
  refine am_run 4 (pc' := 36) (ls' := [some (.ref 0), some (.int (nI 126)), some (.int (nI n)), some (.int (nI (120 + n))), none]) (st' := [.int (-1), .int (nI (120 + n)), .ref 6]) (σ' := (am_wr (am_wr σ 2 2 (nI (n + 1))) 5 (120 + n) (nI 126))) rfl ?_
  refine am_iastN (n := 180) rfl rfl rfl (by omega) (by decide) ?_
  refine am_run 4 (pc' := 43) (ls' := [some (.ref 0), some (.int (nI 126)), some (.int (nI n)), some (.int (nI (120 + n))), none]) (st' := [.int (-1), .int (nI (120 + n)), .ref 7]) (σ' := (am_wr (am_wr (am_wr σ 2 2 (nI (n + 1))) 5 (120 + n) (nI 126)) 6 (120 + n) (-1))) rfl ?_
  refine am_iastN (n := 180) rfl rfl rfl (by omega) (by decide) ?_
  refine am_run 4 (pc' := 50) (ls' := [some (.ref 0), some (.int (nI 126)), some (.int (nI n)), some (.int (nI (120 + n))), none]) (st' := [.int (-1), .int (nI (120 + n)), .ref 8]) (σ' := (am_wr (am_wr (am_wr (am_wr σ 2 2 (nI (n + 1))) 5 (120 + n) (nI 126)) 6 (120 + n) (-1)) 7 (120 + n) (-1))) rfl ?_
  refine am_iastN (n := 180) rfl rfl rfl (by omega) (by decide) ?_
  refine am_run 4 (pc' := 57) (ls' := [some (.ref 0), some (.int (nI 126)), some (.int (nI n)), some (.int (nI (120 + n))), none]) (st' := [.int (-1), .int (nI (120 + n)), .ref 15]) (σ' := (am_wr (am_wr (am_wr (am_wr (am_wr σ 2 2 (nI (n + 1))) 5 (120 + n) (nI 126)) 6 (120 + n) (-1)) 7 (120 + n) (-1)) 8 (120 + n) (-1))) rfl ?_
  refine am_iastN (n := 180) rfl rfl rfl (by omega) (by decide) ?_
  refine am_run 4 (pc' := 64) (ls' := [some (.ref 0), some (.int (nI 126)), some (.int (nI n)), some (.int (nI (120 + n))), none]) (st' := [.int (-1), .int (nI (120 + n)), .ref 12]) (σ' := (am_wr (am_wr (am_wr (am_wr (am_wr (am_wr σ 2 2 (nI (n + 1))) 5 (120 + n) (nI 126)) 6 (120 + n) (-1)) 7 (120 + n) (-1)) 8 (120 + n) (-1)) 15 (120 + n) (-1))) rfl ?_
  refine am_iastN (n := 180) rfl rfl rfl (by omega) (by decide) ?_
  refine am_run 5 (pc' := 74) (ls' := [some (.ref 0), some (.int (nI 126)), some (.int (nI n)), some (.int (nI (120 + n))), none]) (st' := [.int (σ.1 0 33), .int (nI (120 + n)), .ref 10]) (σ' := (am_wr (am_wr (am_wr (am_wr (am_wr (am_wr (am_wr σ 2 2 (nI (n + 1))) 5 (120 + n) (nI 126)) 6 (120 + n) (-1)) 7 (120 + n) (-1)) 8 (120 + n) (-1)) 15 (120 + n) (-1)) 12 (120 + n) (-1))) rfl ?_
  refine am_top (v' := nI nw) h33 ?_
  refine am_iastN (n := 180) rfl rfl rfl (by omega) (by decide) ?_
  refine am_run 4 (pc' := 81) (ls' := [some (.ref 0), some (.int (nI 126)), some (.int (nI n)), some (.int (nI (120 + n))), some (.int (nI 0))]) (st' := [.int (nI 3), .int (nI 0)]) (σ' := (am_wr (am_wr (am_wr (am_wr (am_wr (am_wr (am_wr (am_wr σ 2 2 (nI (n + 1))) 5 (120 + n) (nI 126)) 6 (120 + n) (-1)) 7 (120 + n) (-1)) 8 (120 + n) (-1)) 15 (120 + n) (-1)) 12 (120 + n) (-1)) 10 (120 + n) (nI nw))) rfl ?_
  refine am_ic (ty := 84) (tn := 108) rfl (by decide) rfl rfl (fun (h_1 : nI 0 < nI 3) => ?_) (fun (h_1 : ¬ (nI 0 < nI 3)) => ?_)
  rotate_left
  · exact absurd (by decide) h_1
  refine am_run 5 (pc' := 91) (ls' := [some (.ref 0), some (.int (nI 126)), some (.int (nI n)), some (.int (nI (120 + n))), some (.int (nI 0))]) (st' := [.int (nI 3 * nI (120 + n)), .ref 11]) (σ' := (am_wr (am_wr (am_wr (am_wr (am_wr (am_wr (am_wr (am_wr σ 2 2 (nI (n + 1))) 5 (120 + n) (nI 126)) 6 (120 + n) (-1)) 7 (120 + n) (-1)) 8 (120 + n) (-1)) 15 (120 + n) (-1)) 12 (120 + n) (-1)) 10 (120 + n) (nI nw))) rfl ?_
  refine am_top (v' := nI (3 * (120 + n))) (am_nmul _ _) ?_
  refine am_run 2 (pc' := 94) (ls' := [some (.ref 0), some (.int (nI 126)), some (.int (nI n)), some (.int (nI (120 + n))), some (.int (nI 0))]) (st' := [.int (nI (3 * (120 + n)) + nI 0), .ref 11]) (σ' := (am_wr (am_wr (am_wr (am_wr (am_wr (am_wr (am_wr (am_wr σ 2 2 (nI (n + 1))) 5 (120 + n) (nI 126)) 6 (120 + n) (-1)) 7 (120 + n) (-1)) 8 (120 + n) (-1)) 15 (120 + n) (-1)) 12 (120 + n) (-1)) 10 (120 + n) (nI nw))) rfl ?_
  refine am_top (v' := nI (3 * (120 + n) + 0)) (nI_add _ _) ?_
  refine am_run 3 (pc' := 100) (ls' := [some (.ref 0), some (.int (nI 126)), some (.int (nI n)), some (.int (nI (120 + n))), some (.int (nI 0))]) (st' := [.int (nI 0), .ref 27, .int (nI (3 * (120 + n) + 0)), .ref 11]) (σ' := (am_wr (am_wr (am_wr (am_wr (am_wr (am_wr (am_wr (am_wr σ 2 2 (nI (n + 1))) 5 (120 + n) (nI 126)) 6 (120 + n) (-1)) 7 (120 + n) (-1)) 8 (120 + n) (-1)) 15 (120 + n) (-1)) 12 (120 + n) (-1)) 10 (120 + n) (nI nw))) rfl ?_
  refine am_ialdN (n := 4) (v := o0) rfl rfl rfl (by omega) (by rw [am_wr_ne _ (by omega), am_wr_ne _ (by omega), am_wr_ne _ (by omega), am_wr_ne _ (by omega), am_wr_ne _ (by omega), am_wr_ne _ (by omega), am_wr_ne _ (by omega), am_wr_ne _ (by omega)]; exact q0) (by decide) ?_
  refine am_iastN (n := 540) rfl rfl rfl (by omega) (by decide) ?_
  refine am_run 1 (pc' := 105) (ls' := [some (.ref 0), some (.int (nI 126)), some (.int (nI n)), some (.int (nI (120 + n))), some (.int (nI 0 + nI 1))]) (st' := []) (σ' := (am_wr (am_wr (am_wr (am_wr (am_wr (am_wr (am_wr (am_wr (am_wr σ 2 2 (nI (n + 1))) 5 (120 + n) (nI 126)) 6 (120 + n) (-1)) 7 (120 + n) (-1)) 8 (120 + n) (-1)) 15 (120 + n) (-1)) 12 (120 + n) (-1)) 10 (120 + n) (nI nw)) 11 (3 * (120 + n) + 0) o0)) rfl ?_
  refine am_ls (ls' := [some (.ref 0), some (.int (nI 126)), some (.int (nI n)), some (.int (nI (120 + n))), some (.int (nI 1))]) (by rw [nI_add]) ?_
  refine am_run 3 (pc' := 81) (ls' := [some (.ref 0), some (.int (nI 126)), some (.int (nI n)), some (.int (nI (120 + n))), some (.int (nI 1))]) (st' := [.int (nI 3), .int (nI 1)]) (σ' := (am_wr (am_wr (am_wr (am_wr (am_wr (am_wr (am_wr (am_wr (am_wr σ 2 2 (nI (n + 1))) 5 (120 + n) (nI 126)) 6 (120 + n) (-1)) 7 (120 + n) (-1)) 8 (120 + n) (-1)) 15 (120 + n) (-1)) 12 (120 + n) (-1)) 10 (120 + n) (nI nw)) 11 (3 * (120 + n) + 0) o0)) rfl ?_
  refine am_ic (ty := 84) (tn := 108) rfl (by decide) rfl rfl (fun (h_2 : nI 1 < nI 3) => ?_) (fun (h_2 : ¬ (nI 1 < nI 3)) => ?_)
  rotate_left
  · exact absurd (by decide) h_2
  refine am_run 5 (pc' := 91) (ls' := [some (.ref 0), some (.int (nI 126)), some (.int (nI n)), some (.int (nI (120 + n))), some (.int (nI 1))]) (st' := [.int (nI 3 * nI (120 + n)), .ref 11]) (σ' := (am_wr (am_wr (am_wr (am_wr (am_wr (am_wr (am_wr (am_wr (am_wr σ 2 2 (nI (n + 1))) 5 (120 + n) (nI 126)) 6 (120 + n) (-1)) 7 (120 + n) (-1)) 8 (120 + n) (-1)) 15 (120 + n) (-1)) 12 (120 + n) (-1)) 10 (120 + n) (nI nw)) 11 (3 * (120 + n) + 0) o0)) rfl ?_
  refine am_top (v' := nI (3 * (120 + n))) (am_nmul _ _) ?_
  refine am_run 2 (pc' := 94) (ls' := [some (.ref 0), some (.int (nI 126)), some (.int (nI n)), some (.int (nI (120 + n))), some (.int (nI 1))]) (st' := [.int (nI (3 * (120 + n)) + nI 1), .ref 11]) (σ' := (am_wr (am_wr (am_wr (am_wr (am_wr (am_wr (am_wr (am_wr (am_wr σ 2 2 (nI (n + 1))) 5 (120 + n) (nI 126)) 6 (120 + n) (-1)) 7 (120 + n) (-1)) 8 (120 + n) (-1)) 15 (120 + n) (-1)) 12 (120 + n) (-1)) 10 (120 + n) (nI nw)) 11 (3 * (120 + n) + 0) o0)) rfl ?_
  refine am_top (v' := nI (3 * (120 + n) + 1)) (nI_add _ _) ?_
  refine am_run 3 (pc' := 100) (ls' := [some (.ref 0), some (.int (nI 126)), some (.int (nI n)), some (.int (nI (120 + n))), some (.int (nI 1))]) (st' := [.int (nI 1), .ref 27, .int (nI (3 * (120 + n) + 1)), .ref 11]) (σ' := (am_wr (am_wr (am_wr (am_wr (am_wr (am_wr (am_wr (am_wr (am_wr σ 2 2 (nI (n + 1))) 5 (120 + n) (nI 126)) 6 (120 + n) (-1)) 7 (120 + n) (-1)) 8 (120 + n) (-1)) 15 (120 + n) (-1)) 12 (120 + n) (-1)) 10 (120 + n) (nI nw)) 11 (3 * (120 + n) + 0) o0)) rfl ?_
  refine am_ialdN (n := 4) (v := o1) rfl rfl rfl (by omega) (by rw [am_wr_ne _ (by omega), am_wr_ne _ (by omega), am_wr_ne _ (by omega), am_wr_ne _ (by omega), am_wr_ne _ (by omega), am_wr_ne _ (by omega), am_wr_ne _ (by omega), am_wr_ne _ (by omega), am_wr_ne _ (by omega)]; exact q1) (by decide) ?_
  refine am_iastN (n := 540) rfl rfl rfl (by omega) (by decide) ?_
  refine am_run 1 (pc' := 105) (ls' := [some (.ref 0), some (.int (nI 126)), some (.int (nI n)), some (.int (nI (120 + n))), some (.int (nI 1 + nI 1))]) (st' := []) (σ' := (am_wr (am_wr (am_wr (am_wr (am_wr (am_wr (am_wr (am_wr (am_wr (am_wr σ 2 2 (nI (n + 1))) 5 (120 + n) (nI 126)) 6 (120 + n) (-1)) 7 (120 + n) (-1)) 8 (120 + n) (-1)) 15 (120 + n) (-1)) 12 (120 + n) (-1)) 10 (120 + n) (nI nw)) 11 (3 * (120 + n) + 0) o0) 11 (3 * (120 + n) + 1) o1)) rfl ?_
  refine am_ls (ls' := [some (.ref 0), some (.int (nI 126)), some (.int (nI n)), some (.int (nI (120 + n))), some (.int (nI 2))]) (by rw [nI_add]) ?_
  refine am_run 3 (pc' := 81) (ls' := [some (.ref 0), some (.int (nI 126)), some (.int (nI n)), some (.int (nI (120 + n))), some (.int (nI 2))]) (st' := [.int (nI 3), .int (nI 2)]) (σ' := (am_wr (am_wr (am_wr (am_wr (am_wr (am_wr (am_wr (am_wr (am_wr (am_wr σ 2 2 (nI (n + 1))) 5 (120 + n) (nI 126)) 6 (120 + n) (-1)) 7 (120 + n) (-1)) 8 (120 + n) (-1)) 15 (120 + n) (-1)) 12 (120 + n) (-1)) 10 (120 + n) (nI nw)) 11 (3 * (120 + n) + 0) o0) 11 (3 * (120 + n) + 1) o1)) rfl ?_
  refine am_ic (ty := 84) (tn := 108) rfl (by decide) rfl rfl (fun (h_3 : nI 2 < nI 3) => ?_) (fun (h_3 : ¬ (nI 2 < nI 3)) => ?_)
  rotate_left
  · exact absurd (by decide) h_3
  refine am_run 5 (pc' := 91) (ls' := [some (.ref 0), some (.int (nI 126)), some (.int (nI n)), some (.int (nI (120 + n))), some (.int (nI 2))]) (st' := [.int (nI 3 * nI (120 + n)), .ref 11]) (σ' := (am_wr (am_wr (am_wr (am_wr (am_wr (am_wr (am_wr (am_wr (am_wr (am_wr σ 2 2 (nI (n + 1))) 5 (120 + n) (nI 126)) 6 (120 + n) (-1)) 7 (120 + n) (-1)) 8 (120 + n) (-1)) 15 (120 + n) (-1)) 12 (120 + n) (-1)) 10 (120 + n) (nI nw)) 11 (3 * (120 + n) + 0) o0) 11 (3 * (120 + n) + 1) o1)) rfl ?_
  refine am_top (v' := nI (3 * (120 + n))) (am_nmul _ _) ?_
  refine am_run 2 (pc' := 94) (ls' := [some (.ref 0), some (.int (nI 126)), some (.int (nI n)), some (.int (nI (120 + n))), some (.int (nI 2))]) (st' := [.int (nI (3 * (120 + n)) + nI 2), .ref 11]) (σ' := (am_wr (am_wr (am_wr (am_wr (am_wr (am_wr (am_wr (am_wr (am_wr (am_wr σ 2 2 (nI (n + 1))) 5 (120 + n) (nI 126)) 6 (120 + n) (-1)) 7 (120 + n) (-1)) 8 (120 + n) (-1)) 15 (120 + n) (-1)) 12 (120 + n) (-1)) 10 (120 + n) (nI nw)) 11 (3 * (120 + n) + 0) o0) 11 (3 * (120 + n) + 1) o1)) rfl ?_
  refine am_top (v' := nI (3 * (120 + n) + 2)) (nI_add _ _) ?_
  refine am_run 3 (pc' := 100) (ls' := [some (.ref 0), some (.int (nI 126)), some (.int (nI n)), some (.int (nI (120 + n))), some (.int (nI 2))]) (st' := [.int (nI 2), .ref 27, .int (nI (3 * (120 + n) + 2)), .ref 11]) (σ' := (am_wr (am_wr (am_wr (am_wr (am_wr (am_wr (am_wr (am_wr (am_wr (am_wr σ 2 2 (nI (n + 1))) 5 (120 + n) (nI 126)) 6 (120 + n) (-1)) 7 (120 + n) (-1)) 8 (120 + n) (-1)) 15 (120 + n) (-1)) 12 (120 + n) (-1)) 10 (120 + n) (nI nw)) 11 (3 * (120 + n) + 0) o0) 11 (3 * (120 + n) + 1) o1)) rfl ?_
  refine am_ialdN (n := 4) (v := o2) rfl rfl rfl (by omega) (by rw [am_wr_ne _ (by omega), am_wr_ne _ (by omega), am_wr_ne _ (by omega), am_wr_ne _ (by omega), am_wr_ne _ (by omega), am_wr_ne _ (by omega), am_wr_ne _ (by omega), am_wr_ne _ (by omega), am_wr_ne _ (by omega), am_wr_ne _ (by omega)]; exact q2) (by decide) ?_
  refine am_iastN (n := 540) rfl rfl rfl (by omega) (by decide) ?_
  refine am_run 1 (pc' := 105) (ls' := [some (.ref 0), some (.int (nI 126)), some (.int (nI n)), some (.int (nI (120 + n))), some (.int (nI 2 + nI 1))]) (st' := []) (σ' := (am_wr (am_wr (am_wr (am_wr (am_wr (am_wr (am_wr (am_wr (am_wr (am_wr (am_wr σ 2 2 (nI (n + 1))) 5 (120 + n) (nI 126)) 6 (120 + n) (-1)) 7 (120 + n) (-1)) 8 (120 + n) (-1)) 15 (120 + n) (-1)) 12 (120 + n) (-1)) 10 (120 + n) (nI nw)) 11 (3 * (120 + n) + 0) o0) 11 (3 * (120 + n) + 1) o1) 11 (3 * (120 + n) + 2) o2)) rfl ?_
  refine am_ls (ls' := [some (.ref 0), some (.int (nI 126)), some (.int (nI n)), some (.int (nI (120 + n))), some (.int (nI 3))]) (by rw [nI_add]) ?_
  refine am_run 3 (pc' := 81) (ls' := [some (.ref 0), some (.int (nI 126)), some (.int (nI n)), some (.int (nI (120 + n))), some (.int (nI 3))]) (st' := [.int (nI 3), .int (nI 3)]) (σ' := (am_wr (am_wr (am_wr (am_wr (am_wr (am_wr (am_wr (am_wr (am_wr (am_wr (am_wr σ 2 2 (nI (n + 1))) 5 (120 + n) (nI 126)) 6 (120 + n) (-1)) 7 (120 + n) (-1)) 8 (120 + n) (-1)) 15 (120 + n) (-1)) 12 (120 + n) (-1)) 10 (120 + n) (nI nw)) 11 (3 * (120 + n) + 0) o0) 11 (3 * (120 + n) + 1) o1) 11 (3 * (120 + n) + 2) o2)) rfl ?_
  refine am_ic (ty := 84) (tn := 108) rfl (by decide) rfl rfl (fun (h_4 : nI 3 < nI 3) => ?_) (fun (h_4 : ¬ (nI 3 < nI 3)) => ?_)
  · exact absurd h_4 (by decide)
  refine am_run 2 (pc' := 111) (ls' := [some (.ref 0), some (.int (nI 126)), some (.int (nI n)), some (.int (nI (120 + n))), some (.int (nI 3))]) (st' := [.int (nI 46), .int (nI 126)]) (σ' := (am_wr (am_wr (am_wr (am_wr (am_wr (am_wr (am_wr (am_wr (am_wr (am_wr (am_wr σ 2 2 (nI (n + 1))) 5 (120 + n) (nI 126)) 6 (120 + n) (-1)) 7 (120 + n) (-1)) 8 (120 + n) (-1)) 15 (120 + n) (-1)) 12 (120 + n) (-1)) 10 (120 + n) (nI nw)) 11 (3 * (120 + n) + 0) o0) 11 (3 * (120 + n) + 1) o1) 11 (3 * (120 + n) + 2) o2)) rfl ?_
  refine am_ic (ty := 120) (tn := 114) rfl (by decide) rfl rfl (fun (h_5 : nI 126 = nI 46) => ?_) (fun (h_5 : ¬ (nI 126 = nI 46)) => ?_)
  · exact absurd h_5 (by decide)
  refine am_run 2 (pc' := 117) (ls' := [some (.ref 0), some (.int (nI 126)), some (.int (nI n)), some (.int (nI (120 + n))), some (.int (nI 3))]) (st' := [.int (nI 38), .int (nI 126)]) (σ' := (am_wr (am_wr (am_wr (am_wr (am_wr (am_wr (am_wr (am_wr (am_wr (am_wr (am_wr σ 2 2 (nI (n + 1))) 5 (120 + n) (nI 126)) 6 (120 + n) (-1)) 7 (120 + n) (-1)) 8 (120 + n) (-1)) 15 (120 + n) (-1)) 12 (120 + n) (-1)) 10 (120 + n) (nI nw)) 11 (3 * (120 + n) + 0) o0) 11 (3 * (120 + n) + 1) o1) 11 (3 * (120 + n) + 2) o2)) rfl ?_
  refine am_ic (ty := 120) (tn := 142) rfl (by decide) rfl rfl (fun (h_6 : nI 126 = nI 38) => ?_) (fun (h_6 : ¬ (nI 126 = nI 38)) => ?_)
  · exact absurd h_6 (by decide)
  refine am_run 1 (pc' := 143) (ls' := [some (.ref 0), some (.int (nI 126)), some (.int (nI n)), some (.int (nI (120 + n))), some (.int (nI 3))]) (st' := [.int (nI n)]) (σ' := (am_wr (am_wr (am_wr (am_wr (am_wr (am_wr (am_wr (am_wr (am_wr (am_wr (am_wr σ 2 2 (nI (n + 1))) 5 (120 + n) (nI 126)) 6 (120 + n) (-1)) 7 (120 + n) (-1)) 8 (120 + n) (-1)) 15 (120 + n) (-1)) 12 (120 + n) (-1)) 10 (120 + n) (nI nw)) 11 (3 * (120 + n) + 0) o0) 11 (3 * (120 + n) + 1) o1) 11 (3 * (120 + n) + 2) o2)) rfl ?_
  refine am_reti rfl rfl ?_
  exact hq
set_option maxRecDepth 10000 in
set_option maxHeartbeats 2000000 in
theorem c_m_newNode_36 {d : Nat} (hd : 2 ≤ d) {σ : am_M} {n kk nw : Nat} {o0 o1 o2 : Int32} (h2 : σ.1 2 2 = nI n) (h3 : σ.1 3 2 = nI kk) (h33 : σ.1 0 33 = nI nw) (hn : n < 60) (q0 : σ.1 27 0 = o0) (q1 : σ.1 27 1 = o1) (q2 : σ.1 27 2 = o2) {Q : am_Q} (hq : Q (some (.int (nI n))) (am_wr (am_wr (am_wr (am_wr (am_wr (am_wr (am_wr (am_wr (am_wr (am_wr (am_wr σ 2 2 (nI (n + 1))) 5 (120 + n) (nI 36)) 6 (120 + n) (-1)) 7 (120 + n) (-1)) 8 (120 + n) (-1)) 15 (120 + n) (-1)) 12 (120 + n) (-1)) 10 (120 + n) (nI nw)) 11 (3 * (120 + n) + 0) o0) 11 (3 * (120 + n) + 1) o1) 11 (3 * (120 + n) + 2) o2)) : am_C d 159 [.ref 0, .int (nI 36)] σ Q := by
  refine am_enter' (M := M_X10_newNode) rfl rfl rfl (by omega) (ls := [some (.ref 0), some (.int (nI 36)), none, none, none]) rfl (fun d' hd' => ?_)
  refine am_run 3 (pc' := 5) (ls' := [some (.ref 0), some (.int (nI 36)), none, none, none]) (st' := [.int (nI 2), .ref 2]) (σ' := σ) rfl ?_
  refine am_ialdN (n := 3) (v := nI n) rfl rfl rfl (by omega) (h2) (by decide) ?_
  refine am_run 3 (pc' := 9) (ls' := [some (.ref 0), some (.int (nI 36)), some (.int (nI n)), none, none]) (st' := [.int (nI n), .int (nI 2)]) (σ' := σ) rfl ?_
  refine am_invs (y := 158) (as := [.int (nI 2), .int (nI n)]) (rest := []) rfl rfl rfl rfl rfl rfl (Nat.le_of_ble_eq_true rfl) ?_
  refine c_m_placeOf (by omega) (j := 2) ?_
  show am_G _ M_X10_newNode _ 12 [some (.ref 0), some (.int (nI 36)), some (.int (nI n)), none, none] [.int (nI (120 + n))] σ
  refine am_run 5 (pc' := 19) (ls' := [some (.ref 0), some (.int (nI 36)), some (.int (nI n)), some (.int (nI (120 + n))), none]) (st' := [.int (nI 2), .ref 2, .int (nI 2), .ref 2]) (σ' := σ) rfl ?_
  refine am_ialdN (n := 3) (v := nI n) rfl rfl rfl (by omega) (h2) (by decide) ?_
  refine am_run 2 (pc' := 22) (ls' := [some (.ref 0), some (.int (nI 36)), some (.int (nI n)), some (.int (nI (120 + n))), none]) (st' := [.int (nI n + nI 1), .int (nI 2), .ref 2]) (σ' := σ) rfl ?_
  refine am_top (v' := nI (n + 1)) (nI_add _ _) ?_
  refine am_iastN (n := 3) rfl rfl rfl (by omega) (by decide) ?_
  refine am_run 4 (pc' := 29) (ls' := [some (.ref 0), some (.int (nI 36)), some (.int (nI n)), some (.int (nI (120 + n))), none]) (st' := [.int (nI 36), .int (nI (120 + n)), .ref 5]) (σ' := (am_wr σ 2 2 (nI (n + 1)))) rfl ?_
  refine am_iastN (n := 180) rfl rfl rfl (by omega) (by decide) ?_
  refine am_run 4 (pc' := 36) (ls' := [some (.ref 0), some (.int (nI 36)), some (.int (nI n)), some (.int (nI (120 + n))), none]) (st' := [.int (-1), .int (nI (120 + n)), .ref 6]) (σ' := (am_wr (am_wr σ 2 2 (nI (n + 1))) 5 (120 + n) (nI 36))) rfl ?_
  refine am_iastN (n := 180) rfl rfl rfl (by omega) (by decide) ?_
  refine am_run 4 (pc' := 43) (ls' := [some (.ref 0), some (.int (nI 36)), some (.int (nI n)), some (.int (nI (120 + n))), none]) (st' := [.int (-1), .int (nI (120 + n)), .ref 7]) (σ' := (am_wr (am_wr (am_wr σ 2 2 (nI (n + 1))) 5 (120 + n) (nI 36)) 6 (120 + n) (-1))) rfl ?_
  refine am_iastN (n := 180) rfl rfl rfl (by omega) (by decide) ?_
  refine am_run 4 (pc' := 50) (ls' := [some (.ref 0), some (.int (nI 36)), some (.int (nI n)), some (.int (nI (120 + n))), none]) (st' := [.int (-1), .int (nI (120 + n)), .ref 8]) (σ' := (am_wr (am_wr (am_wr (am_wr σ 2 2 (nI (n + 1))) 5 (120 + n) (nI 36)) 6 (120 + n) (-1)) 7 (120 + n) (-1))) rfl ?_
  refine am_iastN (n := 180) rfl rfl rfl (by omega) (by decide) ?_
  refine am_run 4 (pc' := 57) (ls' := [some (.ref 0), some (.int (nI 36)), some (.int (nI n)), some (.int (nI (120 + n))), none]) (st' := [.int (-1), .int (nI (120 + n)), .ref 15]) (σ' := (am_wr (am_wr (am_wr (am_wr (am_wr σ 2 2 (nI (n + 1))) 5 (120 + n) (nI 36)) 6 (120 + n) (-1)) 7 (120 + n) (-1)) 8 (120 + n) (-1))) rfl ?_
  refine am_iastN (n := 180) rfl rfl rfl (by omega) (by decide) ?_
  refine am_run 4 (pc' := 64) (ls' := [some (.ref 0), some (.int (nI 36)), some (.int (nI n)), some (.int (nI (120 + n))), none]) (st' := [.int (-1), .int (nI (120 + n)), .ref 12]) (σ' := (am_wr (am_wr (am_wr (am_wr (am_wr (am_wr σ 2 2 (nI (n + 1))) 5 (120 + n) (nI 36)) 6 (120 + n) (-1)) 7 (120 + n) (-1)) 8 (120 + n) (-1)) 15 (120 + n) (-1))) rfl ?_
  refine am_iastN (n := 180) rfl rfl rfl (by omega) (by decide) ?_
  refine am_run 5 (pc' := 74) (ls' := [some (.ref 0), some (.int (nI 36)), some (.int (nI n)), some (.int (nI (120 + n))), none]) (st' := [.int (σ.1 0 33), .int (nI (120 + n)), .ref 10]) (σ' := (am_wr (am_wr (am_wr (am_wr (am_wr (am_wr (am_wr σ 2 2 (nI (n + 1))) 5 (120 + n) (nI 36)) 6 (120 + n) (-1)) 7 (120 + n) (-1)) 8 (120 + n) (-1)) 15 (120 + n) (-1)) 12 (120 + n) (-1))) rfl ?_
  refine am_top (v' := nI nw) h33 ?_
  refine am_iastN (n := 180) rfl rfl rfl (by omega) (by decide) ?_
  refine am_run 4 (pc' := 81) (ls' := [some (.ref 0), some (.int (nI 36)), some (.int (nI n)), some (.int (nI (120 + n))), some (.int (nI 0))]) (st' := [.int (nI 3), .int (nI 0)]) (σ' := (am_wr (am_wr (am_wr (am_wr (am_wr (am_wr (am_wr (am_wr σ 2 2 (nI (n + 1))) 5 (120 + n) (nI 36)) 6 (120 + n) (-1)) 7 (120 + n) (-1)) 8 (120 + n) (-1)) 15 (120 + n) (-1)) 12 (120 + n) (-1)) 10 (120 + n) (nI nw))) rfl ?_
  refine am_ic (ty := 84) (tn := 108) rfl (by decide) rfl rfl (fun (h_1 : nI 0 < nI 3) => ?_) (fun (h_1 : ¬ (nI 0 < nI 3)) => ?_)
  rotate_left
  · exact absurd (by decide) h_1
  refine am_run 5 (pc' := 91) (ls' := [some (.ref 0), some (.int (nI 36)), some (.int (nI n)), some (.int (nI (120 + n))), some (.int (nI 0))]) (st' := [.int (nI 3 * nI (120 + n)), .ref 11]) (σ' := (am_wr (am_wr (am_wr (am_wr (am_wr (am_wr (am_wr (am_wr σ 2 2 (nI (n + 1))) 5 (120 + n) (nI 36)) 6 (120 + n) (-1)) 7 (120 + n) (-1)) 8 (120 + n) (-1)) 15 (120 + n) (-1)) 12 (120 + n) (-1)) 10 (120 + n) (nI nw))) rfl ?_
  refine am_top (v' := nI (3 * (120 + n))) (am_nmul _ _) ?_
  refine am_run 2 (pc' := 94) (ls' := [some (.ref 0), some (.int (nI 36)), some (.int (nI n)), some (.int (nI (120 + n))), some (.int (nI 0))]) (st' := [.int (nI (3 * (120 + n)) + nI 0), .ref 11]) (σ' := (am_wr (am_wr (am_wr (am_wr (am_wr (am_wr (am_wr (am_wr σ 2 2 (nI (n + 1))) 5 (120 + n) (nI 36)) 6 (120 + n) (-1)) 7 (120 + n) (-1)) 8 (120 + n) (-1)) 15 (120 + n) (-1)) 12 (120 + n) (-1)) 10 (120 + n) (nI nw))) rfl ?_
  refine am_top (v' := nI (3 * (120 + n) + 0)) (nI_add _ _) ?_
  refine am_run 3 (pc' := 100) (ls' := [some (.ref 0), some (.int (nI 36)), some (.int (nI n)), some (.int (nI (120 + n))), some (.int (nI 0))]) (st' := [.int (nI 0), .ref 27, .int (nI (3 * (120 + n) + 0)), .ref 11]) (σ' := (am_wr (am_wr (am_wr (am_wr (am_wr (am_wr (am_wr (am_wr σ 2 2 (nI (n + 1))) 5 (120 + n) (nI 36)) 6 (120 + n) (-1)) 7 (120 + n) (-1)) 8 (120 + n) (-1)) 15 (120 + n) (-1)) 12 (120 + n) (-1)) 10 (120 + n) (nI nw))) rfl ?_
  refine am_ialdN (n := 4) (v := o0) rfl rfl rfl (by omega) (by rw [am_wr_ne _ (by omega), am_wr_ne _ (by omega), am_wr_ne _ (by omega), am_wr_ne _ (by omega), am_wr_ne _ (by omega), am_wr_ne _ (by omega), am_wr_ne _ (by omega), am_wr_ne _ (by omega)]; exact q0) (by decide) ?_
  refine am_iastN (n := 540) rfl rfl rfl (by omega) (by decide) ?_
  refine am_run 1 (pc' := 105) (ls' := [some (.ref 0), some (.int (nI 36)), some (.int (nI n)), some (.int (nI (120 + n))), some (.int (nI 0 + nI 1))]) (st' := []) (σ' := (am_wr (am_wr (am_wr (am_wr (am_wr (am_wr (am_wr (am_wr (am_wr σ 2 2 (nI (n + 1))) 5 (120 + n) (nI 36)) 6 (120 + n) (-1)) 7 (120 + n) (-1)) 8 (120 + n) (-1)) 15 (120 + n) (-1)) 12 (120 + n) (-1)) 10 (120 + n) (nI nw)) 11 (3 * (120 + n) + 0) o0)) rfl ?_
  refine am_ls (ls' := [some (.ref 0), some (.int (nI 36)), some (.int (nI n)), some (.int (nI (120 + n))), some (.int (nI 1))]) (by rw [nI_add]) ?_
  refine am_run 3 (pc' := 81) (ls' := [some (.ref 0), some (.int (nI 36)), some (.int (nI n)), some (.int (nI (120 + n))), some (.int (nI 1))]) (st' := [.int (nI 3), .int (nI 1)]) (σ' := (am_wr (am_wr (am_wr (am_wr (am_wr (am_wr (am_wr (am_wr (am_wr σ 2 2 (nI (n + 1))) 5 (120 + n) (nI 36)) 6 (120 + n) (-1)) 7 (120 + n) (-1)) 8 (120 + n) (-1)) 15 (120 + n) (-1)) 12 (120 + n) (-1)) 10 (120 + n) (nI nw)) 11 (3 * (120 + n) + 0) o0)) rfl ?_
  refine am_ic (ty := 84) (tn := 108) rfl (by decide) rfl rfl (fun (h_2 : nI 1 < nI 3) => ?_) (fun (h_2 : ¬ (nI 1 < nI 3)) => ?_)
  rotate_left
  · exact absurd (by decide) h_2
  refine am_run 5 (pc' := 91) (ls' := [some (.ref 0), some (.int (nI 36)), some (.int (nI n)), some (.int (nI (120 + n))), some (.int (nI 1))]) (st' := [.int (nI 3 * nI (120 + n)), .ref 11]) (σ' := (am_wr (am_wr (am_wr (am_wr (am_wr (am_wr (am_wr (am_wr (am_wr σ 2 2 (nI (n + 1))) 5 (120 + n) (nI 36)) 6 (120 + n) (-1)) 7 (120 + n) (-1)) 8 (120 + n) (-1)) 15 (120 + n) (-1)) 12 (120 + n) (-1)) 10 (120 + n) (nI nw)) 11 (3 * (120 + n) + 0) o0)) rfl ?_
  refine am_top (v' := nI (3 * (120 + n))) (am_nmul _ _) ?_
  refine am_run 2 (pc' := 94) (ls' := [some (.ref 0), some (.int (nI 36)), some (.int (nI n)), some (.int (nI (120 + n))), some (.int (nI 1))]) (st' := [.int (nI (3 * (120 + n)) + nI 1), .ref 11]) (σ' := (am_wr (am_wr (am_wr (am_wr (am_wr (am_wr (am_wr (am_wr (am_wr σ 2 2 (nI (n + 1))) 5 (120 + n) (nI 36)) 6 (120 + n) (-1)) 7 (120 + n) (-1)) 8 (120 + n) (-1)) 15 (120 + n) (-1)) 12 (120 + n) (-1)) 10 (120 + n) (nI nw)) 11 (3 * (120 + n) + 0) o0)) rfl ?_
  refine am_top (v' := nI (3 * (120 + n) + 1)) (nI_add _ _) ?_
  refine am_run 3 (pc' := 100) (ls' := [some (.ref 0), some (.int (nI 36)), some (.int (nI n)), some (.int (nI (120 + n))), some (.int (nI 1))]) (st' := [.int (nI 1), .ref 27, .int (nI (3 * (120 + n) + 1)), .ref 11]) (σ' := (am_wr (am_wr (am_wr (am_wr (am_wr (am_wr (am_wr (am_wr (am_wr σ 2 2 (nI (n + 1))) 5 (120 + n) (nI 36)) 6 (120 + n) (-1)) 7 (120 + n) (-1)) 8 (120 + n) (-1)) 15 (120 + n) (-1)) 12 (120 + n) (-1)) 10 (120 + n) (nI nw)) 11 (3 * (120 + n) + 0) o0)) rfl ?_
  refine am_ialdN (n := 4) (v := o1) rfl rfl rfl (by omega) (by rw [am_wr_ne _ (by omega), am_wr_ne _ (by omega), am_wr_ne _ (by omega), am_wr_ne _ (by omega), am_wr_ne _ (by omega), am_wr_ne _ (by omega), am_wr_ne _ (by omega), am_wr_ne _ (by omega), am_wr_ne _ (by omega)]; exact q1) (by decide) ?_
  refine am_iastN (n := 540) rfl rfl rfl (by omega) (by decide) ?_
  refine am_run 1 (pc' := 105) (ls' := [some (.ref 0), some (.int (nI 36)), some (.int (nI n)), some (.int (nI (120 + n))), some (.int (nI 1 + nI 1))]) (st' := []) (σ' := (am_wr (am_wr (am_wr (am_wr (am_wr (am_wr (am_wr (am_wr (am_wr (am_wr σ 2 2 (nI (n + 1))) 5 (120 + n) (nI 36)) 6 (120 + n) (-1)) 7 (120 + n) (-1)) 8 (120 + n) (-1)) 15 (120 + n) (-1)) 12 (120 + n) (-1)) 10 (120 + n) (nI nw)) 11 (3 * (120 + n) + 0) o0) 11 (3 * (120 + n) + 1) o1)) rfl ?_
  refine am_ls (ls' := [some (.ref 0), some (.int (nI 36)), some (.int (nI n)), some (.int (nI (120 + n))), some (.int (nI 2))]) (by rw [nI_add]) ?_
  refine am_run 3 (pc' := 81) (ls' := [some (.ref 0), some (.int (nI 36)), some (.int (nI n)), some (.int (nI (120 + n))), some (.int (nI 2))]) (st' := [.int (nI 3), .int (nI 2)]) (σ' := (am_wr (am_wr (am_wr (am_wr (am_wr (am_wr (am_wr (am_wr (am_wr (am_wr σ 2 2 (nI (n + 1))) 5 (120 + n) (nI 36)) 6 (120 + n) (-1)) 7 (120 + n) (-1)) 8 (120 + n) (-1)) 15 (120 + n) (-1)) 12 (120 + n) (-1)) 10 (120 + n) (nI nw)) 11 (3 * (120 + n) + 0) o0) 11 (3 * (120 + n) + 1) o1)) rfl ?_
  refine am_ic (ty := 84) (tn := 108) rfl (by decide) rfl rfl (fun (h_3 : nI 2 < nI 3) => ?_) (fun (h_3 : ¬ (nI 2 < nI 3)) => ?_)
  rotate_left
  · exact absurd (by decide) h_3
  refine am_run 5 (pc' := 91) (ls' := [some (.ref 0), some (.int (nI 36)), some (.int (nI n)), some (.int (nI (120 + n))), some (.int (nI 2))]) (st' := [.int (nI 3 * nI (120 + n)), .ref 11]) (σ' := (am_wr (am_wr (am_wr (am_wr (am_wr (am_wr (am_wr (am_wr (am_wr (am_wr σ 2 2 (nI (n + 1))) 5 (120 + n) (nI 36)) 6 (120 + n) (-1)) 7 (120 + n) (-1)) 8 (120 + n) (-1)) 15 (120 + n) (-1)) 12 (120 + n) (-1)) 10 (120 + n) (nI nw)) 11 (3 * (120 + n) + 0) o0) 11 (3 * (120 + n) + 1) o1)) rfl ?_
  refine am_top (v' := nI (3 * (120 + n))) (am_nmul _ _) ?_
  refine am_run 2 (pc' := 94) (ls' := [some (.ref 0), some (.int (nI 36)), some (.int (nI n)), some (.int (nI (120 + n))), some (.int (nI 2))]) (st' := [.int (nI (3 * (120 + n)) + nI 2), .ref 11]) (σ' := (am_wr (am_wr (am_wr (am_wr (am_wr (am_wr (am_wr (am_wr (am_wr (am_wr σ 2 2 (nI (n + 1))) 5 (120 + n) (nI 36)) 6 (120 + n) (-1)) 7 (120 + n) (-1)) 8 (120 + n) (-1)) 15 (120 + n) (-1)) 12 (120 + n) (-1)) 10 (120 + n) (nI nw)) 11 (3 * (120 + n) + 0) o0) 11 (3 * (120 + n) + 1) o1)) rfl ?_
  refine am_top (v' := nI (3 * (120 + n) + 2)) (nI_add _ _) ?_
  refine am_run 3 (pc' := 100) (ls' := [some (.ref 0), some (.int (nI 36)), some (.int (nI n)), some (.int (nI (120 + n))), some (.int (nI 2))]) (st' := [.int (nI 2), .ref 27, .int (nI (3 * (120 + n) + 2)), .ref 11]) (σ' := (am_wr (am_wr (am_wr (am_wr (am_wr (am_wr (am_wr (am_wr (am_wr (am_wr σ 2 2 (nI (n + 1))) 5 (120 + n) (nI 36)) 6 (120 + n) (-1)) 7 (120 + n) (-1)) 8 (120 + n) (-1)) 15 (120 + n) (-1)) 12 (120 + n) (-1)) 10 (120 + n) (nI nw)) 11 (3 * (120 + n) + 0) o0) 11 (3 * (120 + n) + 1) o1)) rfl ?_
  refine am_ialdN (n := 4) (v := o2) rfl rfl rfl (by omega) (by rw [am_wr_ne _ (by omega), am_wr_ne _ (by omega), am_wr_ne _ (by omega), am_wr_ne _ (by omega), am_wr_ne _ (by omega), am_wr_ne _ (by omega), am_wr_ne _ (by omega), am_wr_ne _ (by omega), am_wr_ne _ (by omega), am_wr_ne _ (by omega)]; exact q2) (by decide) ?_
  refine am_iastN (n := 540) rfl rfl rfl (by omega) (by decide) ?_
  refine am_run 1 (pc' := 105) (ls' := [some (.ref 0), some (.int (nI 36)), some (.int (nI n)), some (.int (nI (120 + n))), some (.int (nI 2 + nI 1))]) (st' := []) (σ' := (am_wr (am_wr (am_wr (am_wr (am_wr (am_wr (am_wr (am_wr (am_wr (am_wr (am_wr σ 2 2 (nI (n + 1))) 5 (120 + n) (nI 36)) 6 (120 + n) (-1)) 7 (120 + n) (-1)) 8 (120 + n) (-1)) 15 (120 + n) (-1)) 12 (120 + n) (-1)) 10 (120 + n) (nI nw)) 11 (3 * (120 + n) + 0) o0) 11 (3 * (120 + n) + 1) o1) 11 (3 * (120 + n) + 2) o2)) rfl ?_
  refine am_ls (ls' := [some (.ref 0), some (.int (nI 36)), some (.int (nI n)), some (.int (nI (120 + n))), some (.int (nI 3))]) (by rw [nI_add]) ?_
  refine am_run 3 (pc' := 81) (ls' := [some (.ref 0), some (.int (nI 36)), some (.int (nI n)), some (.int (nI (120 + n))), some (.int (nI 3))]) (st' := [.int (nI 3), .int (nI 3)]) (σ' := (am_wr (am_wr (am_wr (am_wr (am_wr (am_wr (am_wr (am_wr (am_wr (am_wr (am_wr σ 2 2 (nI (n + 1))) 5 (120 + n) (nI 36)) 6 (120 + n) (-1)) 7 (120 + n) (-1)) 8 (120 + n) (-1)) 15 (120 + n) (-1)) 12 (120 + n) (-1)) 10 (120 + n) (nI nw)) 11 (3 * (120 + n) + 0) o0) 11 (3 * (120 + n) + 1) o1) 11 (3 * (120 + n) + 2) o2)) rfl ?_
  refine am_ic (ty := 84) (tn := 108) rfl (by decide) rfl rfl (fun (h_4 : nI 3 < nI 3) => ?_) (fun (h_4 : ¬ (nI 3 < nI 3)) => ?_)
  · exact absurd h_4 (by decide)
  refine am_run 2 (pc' := 111) (ls' := [some (.ref 0), some (.int (nI 36)), some (.int (nI n)), some (.int (nI (120 + n))), some (.int (nI 3))]) (st' := [.int (nI 46), .int (nI 36)]) (σ' := (am_wr (am_wr (am_wr (am_wr (am_wr (am_wr (am_wr (am_wr (am_wr (am_wr (am_wr σ 2 2 (nI (n + 1))) 5 (120 + n) (nI 36)) 6 (120 + n) (-1)) 7 (120 + n) (-1)) 8 (120 + n) (-1)) 15 (120 + n) (-1)) 12 (120 + n) (-1)) 10 (120 + n) (nI nw)) 11 (3 * (120 + n) + 0) o0) 11 (3 * (120 + n) + 1) o1) 11 (3 * (120 + n) + 2) o2)) rfl ?_
  refine am_ic (ty := 120) (tn := 114) rfl (by decide) rfl rfl (fun (h_5 : nI 36 = nI 46) => ?_) (fun (h_5 : ¬ (nI 36 = nI 46)) => ?_)
  · exact absurd h_5 (by decide)
  refine am_run 2 (pc' := 117) (ls' := [some (.ref 0), some (.int (nI 36)), some (.int (nI n)), some (.int (nI (120 + n))), some (.int (nI 3))]) (st' := [.int (nI 38), .int (nI 36)]) (σ' := (am_wr (am_wr (am_wr (am_wr (am_wr (am_wr (am_wr (am_wr (am_wr (am_wr (am_wr σ 2 2 (nI (n + 1))) 5 (120 + n) (nI 36)) 6 (120 + n) (-1)) 7 (120 + n) (-1)) 8 (120 + n) (-1)) 15 (120 + n) (-1)) 12 (120 + n) (-1)) 10 (120 + n) (nI nw)) 11 (3 * (120 + n) + 0) o0) 11 (3 * (120 + n) + 1) o1) 11 (3 * (120 + n) + 2) o2)) rfl ?_
  refine am_ic (ty := 120) (tn := 142) rfl (by decide) rfl rfl (fun (h_6 : nI 36 = nI 38) => ?_) (fun (h_6 : ¬ (nI 36 = nI 38)) => ?_)
  · exact absurd h_6 (by decide)
  refine am_run 1 (pc' := 143) (ls' := [some (.ref 0), some (.int (nI 36)), some (.int (nI n)), some (.int (nI (120 + n))), some (.int (nI 3))]) (st' := [.int (nI n)]) (σ' := (am_wr (am_wr (am_wr (am_wr (am_wr (am_wr (am_wr (am_wr (am_wr (am_wr (am_wr σ 2 2 (nI (n + 1))) 5 (120 + n) (nI 36)) 6 (120 + n) (-1)) 7 (120 + n) (-1)) 8 (120 + n) (-1)) 15 (120 + n) (-1)) 12 (120 + n) (-1)) 10 (120 + n) (nI nw)) 11 (3 * (120 + n) + 0) o0) 11 (3 * (120 + n) + 1) o1) 11 (3 * (120 + n) + 2) o2)) rfl ?_
  refine am_reti rfl rfl ?_
  exact hq
set_option maxRecDepth 10000 in
set_option maxHeartbeats 2000000 in
theorem c_m_newNode_59 {d : Nat} (hd : 2 ≤ d) {σ : am_M} {n kk nw : Nat} {o0 o1 o2 : Int32} (h2 : σ.1 2 2 = nI n) (h3 : σ.1 3 2 = nI kk) (h33 : σ.1 0 33 = nI nw) (hn : n < 60) (q0 : σ.1 27 0 = o0) (q1 : σ.1 27 1 = o1) (q2 : σ.1 27 2 = o2) {Q : am_Q} (hq : Q (some (.int (nI n))) (am_wr (am_wr (am_wr (am_wr (am_wr (am_wr (am_wr (am_wr (am_wr (am_wr (am_wr σ 2 2 (nI (n + 1))) 5 (120 + n) (nI 59)) 6 (120 + n) (-1)) 7 (120 + n) (-1)) 8 (120 + n) (-1)) 15 (120 + n) (-1)) 12 (120 + n) (-1)) 10 (120 + n) (nI nw)) 11 (3 * (120 + n) + 0) o0) 11 (3 * (120 + n) + 1) o1) 11 (3 * (120 + n) + 2) o2)) : am_C d 159 [.ref 0, .int (nI 59)] σ Q := by
  refine am_enter' (M := M_X10_newNode) rfl rfl rfl (by omega) (ls := [some (.ref 0), some (.int (nI 59)), none, none, none]) rfl (fun d' hd' => ?_)
  refine am_run 3 (pc' := 5) (ls' := [some (.ref 0), some (.int (nI 59)), none, none, none]) (st' := [.int (nI 2), .ref 2]) (σ' := σ) rfl ?_
  refine am_ialdN (n := 3) (v := nI n) rfl rfl rfl (by omega) (h2) (by decide) ?_
  refine am_run 3 (pc' := 9) (ls' := [some (.ref 0), some (.int (nI 59)), some (.int (nI n)), none, none]) (st' := [.int (nI n), .int (nI 2)]) (σ' := σ) rfl ?_
  refine am_invs (y := 158) (as := [.int (nI 2), .int (nI n)]) (rest := []) rfl rfl rfl rfl rfl rfl (Nat.le_of_ble_eq_true rfl) ?_
  refine c_m_placeOf (by omega) (j := 2) ?_
  show am_G _ M_X10_newNode _ 12 [some (.ref 0), some (.int (nI 59)), some (.int (nI n)), none, none] [.int (nI (120 + n))] σ
  refine am_run 5 (pc' := 19) (ls' := [some (.ref 0), some (.int (nI 59)), some (.int (nI n)), some (.int (nI (120 + n))), none]) (st' := [.int (nI 2), .ref 2, .int (nI 2), .ref 2]) (σ' := σ) rfl ?_
  refine am_ialdN (n := 3) (v := nI n) rfl rfl rfl (by omega) (h2) (by decide) ?_
  refine am_run 2 (pc' := 22) (ls' := [some (.ref 0), some (.int (nI 59)), some (.int (nI n)), some (.int (nI (120 + n))), none]) (st' := [.int (nI n + nI 1), .int (nI 2), .ref 2]) (σ' := σ) rfl ?_
  refine am_top (v' := nI (n + 1)) (nI_add _ _) ?_
  refine am_iastN (n := 3) rfl rfl rfl (by omega) (by decide) ?_
  refine am_run 4 (pc' := 29) (ls' := [some (.ref 0), some (.int (nI 59)), some (.int (nI n)), some (.int (nI (120 + n))), none]) (st' := [.int (nI 59), .int (nI (120 + n)), .ref 5]) (σ' := (am_wr σ 2 2 (nI (n + 1)))) rfl ?_
  refine am_iastN (n := 180) rfl rfl rfl (by omega) (by decide) ?_
  refine am_run 4 (pc' := 36) (ls' := [some (.ref 0), some (.int (nI 59)), some (.int (nI n)), some (.int (nI (120 + n))), none]) (st' := [.int (-1), .int (nI (120 + n)), .ref 6]) (σ' := (am_wr (am_wr σ 2 2 (nI (n + 1))) 5 (120 + n) (nI 59))) rfl ?_
  refine am_iastN (n := 180) rfl rfl rfl (by omega) (by decide) ?_
  refine am_run 4 (pc' := 43) (ls' := [some (.ref 0), some (.int (nI 59)), some (.int (nI n)), some (.int (nI (120 + n))), none]) (st' := [.int (-1), .int (nI (120 + n)), .ref 7]) (σ' := (am_wr (am_wr (am_wr σ 2 2 (nI (n + 1))) 5 (120 + n) (nI 59)) 6 (120 + n) (-1))) rfl ?_
  refine am_iastN (n := 180) rfl rfl rfl (by omega) (by decide) ?_
  refine am_run 4 (pc' := 50) (ls' := [some (.ref 0), some (.int (nI 59)), some (.int (nI n)), some (.int (nI (120 + n))), none]) (st' := [.int (-1), .int (nI (120 + n)), .ref 8]) (σ' := (am_wr (am_wr (am_wr (am_wr σ 2 2 (nI (n + 1))) 5 (120 + n) (nI 59)) 6 (120 + n) (-1)) 7 (120 + n) (-1))) rfl ?_
  refine am_iastN (n := 180) rfl rfl rfl (by omega) (by decide) ?_
  refine am_run 4 (pc' := 57) (ls' := [some (.ref 0), some (.int (nI 59)), some (.int (nI n)), some (.int (nI (120 + n))), none]) (st' := [.int (-1), .int (nI (120 + n)), .ref 15]) (σ' := (am_wr (am_wr (am_wr (am_wr (am_wr σ 2 2 (nI (n + 1))) 5 (120 + n) (nI 59)) 6 (120 + n) (-1)) 7 (120 + n) (-1)) 8 (120 + n) (-1))) rfl ?_
  refine am_iastN (n := 180) rfl rfl rfl (by omega) (by decide) ?_
  refine am_run 4 (pc' := 64) (ls' := [some (.ref 0), some (.int (nI 59)), some (.int (nI n)), some (.int (nI (120 + n))), none]) (st' := [.int (-1), .int (nI (120 + n)), .ref 12]) (σ' := (am_wr (am_wr (am_wr (am_wr (am_wr (am_wr σ 2 2 (nI (n + 1))) 5 (120 + n) (nI 59)) 6 (120 + n) (-1)) 7 (120 + n) (-1)) 8 (120 + n) (-1)) 15 (120 + n) (-1))) rfl ?_
  refine am_iastN (n := 180) rfl rfl rfl (by omega) (by decide) ?_
  refine am_run 5 (pc' := 74) (ls' := [some (.ref 0), some (.int (nI 59)), some (.int (nI n)), some (.int (nI (120 + n))), none]) (st' := [.int (σ.1 0 33), .int (nI (120 + n)), .ref 10]) (σ' := (am_wr (am_wr (am_wr (am_wr (am_wr (am_wr (am_wr σ 2 2 (nI (n + 1))) 5 (120 + n) (nI 59)) 6 (120 + n) (-1)) 7 (120 + n) (-1)) 8 (120 + n) (-1)) 15 (120 + n) (-1)) 12 (120 + n) (-1))) rfl ?_
  refine am_top (v' := nI nw) h33 ?_
  refine am_iastN (n := 180) rfl rfl rfl (by omega) (by decide) ?_
  refine am_run 4 (pc' := 81) (ls' := [some (.ref 0), some (.int (nI 59)), some (.int (nI n)), some (.int (nI (120 + n))), some (.int (nI 0))]) (st' := [.int (nI 3), .int (nI 0)]) (σ' := (am_wr (am_wr (am_wr (am_wr (am_wr (am_wr (am_wr (am_wr σ 2 2 (nI (n + 1))) 5 (120 + n) (nI 59)) 6 (120 + n) (-1)) 7 (120 + n) (-1)) 8 (120 + n) (-1)) 15 (120 + n) (-1)) 12 (120 + n) (-1)) 10 (120 + n) (nI nw))) rfl ?_
  refine am_ic (ty := 84) (tn := 108) rfl (by decide) rfl rfl (fun (h_1 : nI 0 < nI 3) => ?_) (fun (h_1 : ¬ (nI 0 < nI 3)) => ?_)
  rotate_left
  · exact absurd (by decide) h_1
  refine am_run 5 (pc' := 91) (ls' := [some (.ref 0), some (.int (nI 59)), some (.int (nI n)), some (.int (nI (120 + n))), some (.int (nI 0))]) (st' := [.int (nI 3 * nI (120 + n)), .ref 11]) (σ' := (am_wr (am_wr (am_wr (am_wr (am_wr (am_wr (am_wr (am_wr σ 2 2 (nI (n + 1))) 5 (120 + n) (nI 59)) 6 (120 + n) (-1)) 7 (120 + n) (-1)) 8 (120 + n) (-1)) 15 (120 + n) (-1)) 12 (120 + n) (-1)) 10 (120 + n) (nI nw))) rfl ?_
  refine am_top (v' := nI (3 * (120 + n))) (am_nmul _ _) ?_
  refine am_run 2 (pc' := 94) (ls' := [some (.ref 0), some (.int (nI 59)), some (.int (nI n)), some (.int (nI (120 + n))), some (.int (nI 0))]) (st' := [.int (nI (3 * (120 + n)) + nI 0), .ref 11]) (σ' := (am_wr (am_wr (am_wr (am_wr (am_wr (am_wr (am_wr (am_wr σ 2 2 (nI (n + 1))) 5 (120 + n) (nI 59)) 6 (120 + n) (-1)) 7 (120 + n) (-1)) 8 (120 + n) (-1)) 15 (120 + n) (-1)) 12 (120 + n) (-1)) 10 (120 + n) (nI nw))) rfl ?_
  refine am_top (v' := nI (3 * (120 + n) + 0)) (nI_add _ _) ?_
  refine am_run 3 (pc' := 100) (ls' := [some (.ref 0), some (.int (nI 59)), some (.int (nI n)), some (.int (nI (120 + n))), some (.int (nI 0))]) (st' := [.int (nI 0), .ref 27, .int (nI (3 * (120 + n) + 0)), .ref 11]) (σ' := (am_wr (am_wr (am_wr (am_wr (am_wr (am_wr (am_wr (am_wr σ 2 2 (nI (n + 1))) 5 (120 + n) (nI 59)) 6 (120 + n) (-1)) 7 (120 + n) (-1)) 8 (120 + n) (-1)) 15 (120 + n) (-1)) 12 (120 + n) (-1)) 10 (120 + n) (nI nw))) rfl ?_
  refine am_ialdN (n := 4) (v := o0) rfl rfl rfl (by omega) (by rw [am_wr_ne _ (by omega), am_wr_ne _ (by omega), am_wr_ne _ (by omega), am_wr_ne _ (by omega), am_wr_ne _ (by omega), am_wr_ne _ (by omega), am_wr_ne _ (by omega), am_wr_ne _ (by omega)]; exact q0) (by decide) ?_
  refine am_iastN (n := 540) rfl rfl rfl (by omega) (by decide) ?_
  refine am_run 1 (pc' := 105) (ls' := [some (.ref 0), some (.int (nI 59)), some (.int (nI n)), some (.int (nI (120 + n))), some (.int (nI 0 + nI 1))]) (st' := []) (σ' := (am_wr (am_wr (am_wr (am_wr (am_wr (am_wr (am_wr (am_wr (am_wr σ 2 2 (nI (n + 1))) 5 (120 + n) (nI 59)) 6 (120 + n) (-1)) 7 (120 + n) (-1)) 8 (120 + n) (-1)) 15 (120 + n) (-1)) 12 (120 + n) (-1)) 10 (120 + n) (nI nw)) 11 (3 * (120 + n) + 0) o0)) rfl ?_
  refine am_ls (ls' := [some (.ref 0), some (.int (nI 59)), some (.int (nI n)), some (.int (nI (120 + n))), some (.int (nI 1))]) (by rw [nI_add]) ?_
  refine am_run 3 (pc' := 81) (ls' := [some (.ref 0), some (.int (nI 59)), some (.int (nI n)), some (.int (nI (120 + n))), some (.int (nI 1))]) (st' := [.int (nI 3), .int (nI 1)]) (σ' := (am_wr (am_wr (am_wr (am_wr (am_wr (am_wr (am_wr (am_wr (am_wr σ 2 2 (nI (n + 1))) 5 (120 + n) (nI 59)) 6 (120 + n) (-1)) 7 (120 + n) (-1)) 8 (120 + n) (-1)) 15 (120 + n) (-1)) 12 (120 + n) (-1)) 10 (120 + n) (nI nw)) 11 (3 * (120 + n) + 0) o0)) rfl ?_
  refine am_ic (ty := 84) (tn := 108) rfl (by decide) rfl rfl (fun (h_2 : nI 1 < nI 3) => ?_) (fun (h_2 : ¬ (nI 1 < nI 3)) => ?_)
  rotate_left
  · exact absurd (by decide) h_2
  refine am_run 5 (pc' := 91) (ls' := [some (.ref 0), some (.int (nI 59)), some (.int (nI n)), some (.int (nI (120 + n))), some (.int (nI 1))]) (st' := [.int (nI 3 * nI (120 + n)), .ref 11]) (σ' := (am_wr (am_wr (am_wr (am_wr (am_wr (am_wr (am_wr (am_wr (am_wr σ 2 2 (nI (n + 1))) 5 (120 + n) (nI 59)) 6 (120 + n) (-1)) 7 (120 + n) (-1)) 8 (120 + n) (-1)) 15 (120 + n) (-1)) 12 (120 + n) (-1)) 10 (120 + n) (nI nw)) 11 (3 * (120 + n) + 0) o0)) rfl ?_
  refine am_top (v' := nI (3 * (120 + n))) (am_nmul _ _) ?_
  refine am_run 2 (pc' := 94) (ls' := [some (.ref 0), some (.int (nI 59)), some (.int (nI n)), some (.int (nI (120 + n))), some (.int (nI 1))]) (st' := [.int (nI (3 * (120 + n)) + nI 1), .ref 11]) (σ' := (am_wr (am_wr (am_wr (am_wr (am_wr (am_wr (am_wr (am_wr (am_wr σ 2 2 (nI (n + 1))) 5 (120 + n) (nI 59)) 6 (120 + n) (-1)) 7 (120 + n) (-1)) 8 (120 + n) (-1)) 15 (120 + n) (-1)) 12 (120 + n) (-1)) 10 (120 + n) (nI nw)) 11 (3 * (120 + n) + 0) o0)) rfl ?_
  refine am_top (v' := nI (3 * (120 + n) + 1)) (nI_add _ _) ?_
  refine am_run 3 (pc' := 100) (ls' := [some (.ref 0), some (.int (nI 59)), some (.int (nI n)), some (.int (nI (120 + n))), some (.int (nI 1))]) (st' := [.int (nI 1), .ref 27, .int (nI (3 * (120 + n) + 1)), .ref 11]) (σ' := (am_wr (am_wr (am_wr (am_wr (am_wr (am_wr (am_wr (am_wr (am_wr σ 2 2 (nI (n + 1))) 5 (120 + n) (nI 59)) 6 (120 + n) (-1)) 7 (120 + n) (-1)) 8 (120 + n) (-1)) 15 (120 + n) (-1)) 12 (120 + n) (-1)) 10 (120 + n) (nI nw)) 11 (3 * (120 + n) + 0) o0)) rfl ?_
  refine am_ialdN (n := 4) (v := o1) rfl rfl rfl (by omega) (by rw [am_wr_ne _ (by omega), am_wr_ne _ (by omega), am_wr_ne _ (by omega), am_wr_ne _ (by omega), am_wr_ne _ (by omega), am_wr_ne _ (by omega), am_wr_ne _ (by omega), am_wr_ne _ (by omega), am_wr_ne _ (by omega)]; exact q1) (by decide) ?_
  refine am_iastN (n := 540) rfl rfl rfl (by omega) (by decide) ?_
  refine am_run 1 (pc' := 105) (ls' := [some (.ref 0), some (.int (nI 59)), some (.int (nI n)), some (.int (nI (120 + n))), some (.int (nI 1 + nI 1))]) (st' := []) (σ' := (am_wr (am_wr (am_wr (am_wr (am_wr (am_wr (am_wr (am_wr (am_wr (am_wr σ 2 2 (nI (n + 1))) 5 (120 + n) (nI 59)) 6 (120 + n) (-1)) 7 (120 + n) (-1)) 8 (120 + n) (-1)) 15 (120 + n) (-1)) 12 (120 + n) (-1)) 10 (120 + n) (nI nw)) 11 (3 * (120 + n) + 0) o0) 11 (3 * (120 + n) + 1) o1)) rfl ?_
  refine am_ls (ls' := [some (.ref 0), some (.int (nI 59)), some (.int (nI n)), some (.int (nI (120 + n))), some (.int (nI 2))]) (by rw [nI_add]) ?_
  refine am_run 3 (pc' := 81) (ls' := [some (.ref 0), some (.int (nI 59)), some (.int (nI n)), some (.int (nI (120 + n))), some (.int (nI 2))]) (st' := [.int (nI 3), .int (nI 2)]) (σ' := (am_wr (am_wr (am_wr (am_wr (am_wr (am_wr (am_wr (am_wr (am_wr (am_wr σ 2 2 (nI (n + 1))) 5 (120 + n) (nI 59)) 6 (120 + n) (-1)) 7 (120 + n) (-1)) 8 (120 + n) (-1)) 15 (120 + n) (-1)) 12 (120 + n) (-1)) 10 (120 + n) (nI nw)) 11 (3 * (120 + n) + 0) o0) 11 (3 * (120 + n) + 1) o1)) rfl ?_
  refine am_ic (ty := 84) (tn := 108) rfl (by decide) rfl rfl (fun (h_3 : nI 2 < nI 3) => ?_) (fun (h_3 : ¬ (nI 2 < nI 3)) => ?_)
  rotate_left
  · exact absurd (by decide) h_3
  refine am_run 5 (pc' := 91) (ls' := [some (.ref 0), some (.int (nI 59)), some (.int (nI n)), some (.int (nI (120 + n))), some (.int (nI 2))]) (st' := [.int (nI 3 * nI (120 + n)), .ref 11]) (σ' := (am_wr (am_wr (am_wr (am_wr (am_wr (am_wr (am_wr (am_wr (am_wr (am_wr σ 2 2 (nI (n + 1))) 5 (120 + n) (nI 59)) 6 (120 + n) (-1)) 7 (120 + n) (-1)) 8 (120 + n) (-1)) 15 (120 + n) (-1)) 12 (120 + n) (-1)) 10 (120 + n) (nI nw)) 11 (3 * (120 + n) + 0) o0) 11 (3 * (120 + n) + 1) o1)) rfl ?_
  refine am_top (v' := nI (3 * (120 + n))) (am_nmul _ _) ?_
  refine am_run 2 (pc' := 94) (ls' := [some (.ref 0), some (.int (nI 59)), some (.int (nI n)), some (.int (nI (120 + n))), some (.int (nI 2))]) (st' := [.int (nI (3 * (120 + n)) + nI 2), .ref 11]) (σ' := (am_wr (am_wr (am_wr (am_wr (am_wr (am_wr (am_wr (am_wr (am_wr (am_wr σ 2 2 (nI (n + 1))) 5 (120 + n) (nI 59)) 6 (120 + n) (-1)) 7 (120 + n) (-1)) 8 (120 + n) (-1)) 15 (120 + n) (-1)) 12 (120 + n) (-1)) 10 (120 + n) (nI nw)) 11 (3 * (120 + n) + 0) o0) 11 (3 * (120 + n) + 1) o1)) rfl ?_
  refine am_top (v' := nI (3 * (120 + n) + 2)) (nI_add _ _) ?_
  refine am_run 3 (pc' := 100) (ls' := [some (.ref 0), some (.int (nI 59)), some (.int (nI n)), some (.int (nI (120 + n))), some (.int (nI 2))]) (st' := [.int (nI 2), .ref 27, .int (nI (3 * (120 + n) + 2)), .ref 11]) (σ' := (am_wr (am_wr (am_wr (am_wr (am_wr (am_wr (am_wr (am_wr (am_wr (am_wr σ 2 2 (nI (n + 1))) 5 (120 + n) (nI 59)) 6 (120 + n) (-1)) 7 (120 + n) (-1)) 8 (120 + n) (-1)) 15 (120 + n) (-1)) 12 (120 + n) (-1)) 10 (120 + n) (nI nw)) 11 (3 * (120 + n) + 0) o0) 11 (3 * (120 + n) + 1) o1)) rfl ?_
  refine am_ialdN (n := 4) (v := o2) rfl rfl rfl (by omega) (by rw [am_wr_ne _ (by omega), am_wr_ne _ (by omega), am_wr_ne _ (by omega), am_wr_ne _ (by omega), am_wr_ne _ (by omega), am_wr_ne _ (by omega), am_wr_ne _ (by omega), am_wr_ne _ (by omega), am_wr_ne _ (by omega), am_wr_ne _ (by omega)]; exact q2) (by decide) ?_
  refine am_iastN (n := 540) rfl rfl rfl (by omega) (by decide) ?_
  refine am_run 1 (pc' := 105) (ls' := [some (.ref 0), some (.int (nI 59)), some (.int (nI n)), some (.int (nI (120 + n))), some (.int (nI 2 + nI 1))]) (st' := []) (σ' := (am_wr (am_wr (am_wr (am_wr (am_wr (am_wr (am_wr (am_wr (am_wr (am_wr (am_wr σ 2 2 (nI (n + 1))) 5 (120 + n) (nI 59)) 6 (120 + n) (-1)) 7 (120 + n) (-1)) 8 (120 + n) (-1)) 15 (120 + n) (-1)) 12 (120 + n) (-1)) 10 (120 + n) (nI nw)) 11 (3 * (120 + n) + 0) o0) 11 (3 * (120 + n) + 1) o1) 11 (3 * (120 + n) + 2) o2)) rfl ?_
  refine am_ls (ls' := [some (.ref 0), some (.int (nI 59)), some (.int (nI n)), some (.int (nI (120 + n))), some (.int (nI 3))]) (by rw [nI_add]) ?_
  refine am_run 3 (pc' := 81) (ls' := [some (.ref 0), some (.int (nI 59)), some (.int (nI n)), some (.int (nI (120 + n))), some (.int (nI 3))]) (st' := [.int (nI 3), .int (nI 3)]) (σ' := (am_wr (am_wr (am_wr (am_wr (am_wr (am_wr (am_wr (am_wr (am_wr (am_wr (am_wr σ 2 2 (nI (n + 1))) 5 (120 + n) (nI 59)) 6 (120 + n) (-1)) 7 (120 + n) (-1)) 8 (120 + n) (-1)) 15 (120 + n) (-1)) 12 (120 + n) (-1)) 10 (120 + n) (nI nw)) 11 (3 * (120 + n) + 0) o0) 11 (3 * (120 + n) + 1) o1) 11 (3 * (120 + n) + 2) o2)) rfl ?_
  refine am_ic (ty := 84) (tn := 108) rfl (by decide) rfl rfl (fun (h_4 : nI 3 < nI 3) => ?_) (fun (h_4 : ¬ (nI 3 < nI 3)) => ?_)
  · exact absurd h_4 (by decide)
  refine am_run 2 (pc' := 111) (ls' := [some (.ref 0), some (.int (nI 59)), some (.int (nI n)), some (.int (nI (120 + n))), some (.int (nI 3))]) (st' := [.int (nI 46), .int (nI 59)]) (σ' := (am_wr (am_wr (am_wr (am_wr (am_wr (am_wr (am_wr (am_wr (am_wr (am_wr (am_wr σ 2 2 (nI (n + 1))) 5 (120 + n) (nI 59)) 6 (120 + n) (-1)) 7 (120 + n) (-1)) 8 (120 + n) (-1)) 15 (120 + n) (-1)) 12 (120 + n) (-1)) 10 (120 + n) (nI nw)) 11 (3 * (120 + n) + 0) o0) 11 (3 * (120 + n) + 1) o1) 11 (3 * (120 + n) + 2) o2)) rfl ?_
  refine am_ic (ty := 120) (tn := 114) rfl (by decide) rfl rfl (fun (h_5 : nI 59 = nI 46) => ?_) (fun (h_5 : ¬ (nI 59 = nI 46)) => ?_)
  · exact absurd h_5 (by decide)
  refine am_run 2 (pc' := 117) (ls' := [some (.ref 0), some (.int (nI 59)), some (.int (nI n)), some (.int (nI (120 + n))), some (.int (nI 3))]) (st' := [.int (nI 38), .int (nI 59)]) (σ' := (am_wr (am_wr (am_wr (am_wr (am_wr (am_wr (am_wr (am_wr (am_wr (am_wr (am_wr σ 2 2 (nI (n + 1))) 5 (120 + n) (nI 59)) 6 (120 + n) (-1)) 7 (120 + n) (-1)) 8 (120 + n) (-1)) 15 (120 + n) (-1)) 12 (120 + n) (-1)) 10 (120 + n) (nI nw)) 11 (3 * (120 + n) + 0) o0) 11 (3 * (120 + n) + 1) o1) 11 (3 * (120 + n) + 2) o2)) rfl ?_
  refine am_ic (ty := 120) (tn := 142) rfl (by decide) rfl rfl (fun (h_6 : nI 59 = nI 38) => ?_) (fun (h_6 : ¬ (nI 59 = nI 38)) => ?_)
  · exact absurd h_6 (by decide)
  refine am_run 1 (pc' := 143) (ls' := [some (.ref 0), some (.int (nI 59)), some (.int (nI n)), some (.int (nI (120 + n))), some (.int (nI 3))]) (st' := [.int (nI n)]) (σ' := (am_wr (am_wr (am_wr (am_wr (am_wr (am_wr (am_wr (am_wr (am_wr (am_wr (am_wr σ 2 2 (nI (n + 1))) 5 (120 + n) (nI 59)) 6 (120 + n) (-1)) 7 (120 + n) (-1)) 8 (120 + n) (-1)) 15 (120 + n) (-1)) 12 (120 + n) (-1)) 10 (120 + n) (nI nw)) 11 (3 * (120 + n) + 0) o0) 11 (3 * (120 + n) + 1) o1) 11 (3 * (120 + n) + 2) o2)) rfl ?_
  refine am_reti rfl rfl ?_
  exact hq
set_option maxRecDepth 10000 in
set_option maxHeartbeats 2000000 in
theorem c_m_newNode_124 {d : Nat} (hd : 2 ≤ d) {σ : am_M} {n kk nw : Nat} {o0 o1 o2 : Int32} (h2 : σ.1 2 2 = nI n) (h3 : σ.1 3 2 = nI kk) (h33 : σ.1 0 33 = nI nw) (hn : n < 60) (q0 : σ.1 27 0 = o0) (q1 : σ.1 27 1 = o1) (q2 : σ.1 27 2 = o2) {Q : am_Q} (hq : Q (some (.int (nI n))) (am_wr (am_wr (am_wr (am_wr (am_wr (am_wr (am_wr (am_wr (am_wr (am_wr (am_wr σ 2 2 (nI (n + 1))) 5 (120 + n) (nI 124)) 6 (120 + n) (-1)) 7 (120 + n) (-1)) 8 (120 + n) (-1)) 15 (120 + n) (-1)) 12 (120 + n) (-1)) 10 (120 + n) (nI nw)) 11 (3 * (120 + n) + 0) o0) 11 (3 * (120 + n) + 1) o1) 11 (3 * (120 + n) + 2) o2)) : am_C d 159 [.ref 0, .int (nI 124)] σ Q := by
  refine am_enter' (M := M_X10_newNode) rfl rfl rfl (by omega) (ls := [some (.ref 0), some (.int (nI 124)), none, none, none]) rfl (fun d' hd' => ?_)
  refine am_run 3 (pc' := 5) (ls' := [some (.ref 0), some (.int (nI 124)), none, none, none]) (st' := [.int (nI 2), .ref 2]) (σ' := σ) rfl ?_
  refine am_ialdN (n := 3) (v := nI n) rfl rfl rfl (by omega) (h2) (by decide) ?_
  refine am_run 3 (pc' := 9) (ls' := [some (.ref 0), some (.int (nI 124)), some (.int (nI n)), none, none]) (st' := [.int (nI n), .int (nI 2)]) (σ' := σ) rfl ?_
  refine am_invs (y := 158) (as := [.int (nI 2), .int (nI n)]) (rest := []) rfl rfl rfl rfl rfl rfl (Nat.le_of_ble_eq_true rfl) ?_
  refine c_m_placeOf (by omega) (j := 2) ?_
  show am_G _ M_X10_newNode _ 12 [some (.ref 0), some (.int (nI 124)), some (.int (nI n)), none, none] [.int (nI (120 + n))] σ
  refine am_run 5 (pc' := 19) (ls' := [some (.ref 0), some (.int (nI 124)), some (.int (nI n)), some (.int (nI (120 + n))), none]) (st' := [.int (nI 2), .ref 2, .int (nI 2), .ref 2]) (σ' := σ) rfl ?_
  refine am_ialdN (n := 3) (v := nI n) rfl rfl rfl (by omega) (h2) (by decide) ?_
  refine am_run 2 (pc' := 22) (ls' := [some (.ref 0), some (.int (nI 124)), some (.int (nI n)), some (.int (nI (120 + n))), none]) (st' := [.int (nI n + nI 1), .int (nI 2), .ref 2]) (σ' := σ) rfl ?_
  refine am_top (v' := nI (n + 1)) (nI_add _ _) ?_
  refine am_iastN (n := 3) rfl rfl rfl (by omega) (by decide) ?_
  refine am_run 4 (pc' := 29) (ls' := [some (.ref 0), some (.int (nI 124)), some (.int (nI n)), some (.int (nI (120 + n))), none]) (st' := [.int (nI 124), .int (nI (120 + n)), .ref 5]) (σ' := (am_wr σ 2 2 (nI (n + 1)))) rfl ?_
  refine am_iastN (n := 180) rfl rfl rfl (by omega) (by decide) ?_
  refine am_run 4 (pc' := 36) (ls' := [some (.ref 0), some (.int (nI 124)), some (.int (nI n)), some (.int (nI (120 + n))), none]) (st' := [.int (-1), .int (nI (120 + n)), .ref 6]) (σ' := (am_wr (am_wr σ 2 2 (nI (n + 1))) 5 (120 + n) (nI 124))) rfl ?_
  refine am_iastN (n := 180) rfl rfl rfl (by omega) (by decide) ?_
  refine am_run 4 (pc' := 43) (ls' := [some (.ref 0), some (.int (nI 124)), some (.int (nI n)), some (.int (nI (120 + n))), none]) (st' := [.int (-1), .int (nI (120 + n)), .ref 7]) (σ' := (am_wr (am_wr (am_wr σ 2 2 (nI (n + 1))) 5 (120 + n) (nI 124)) 6 (120 + n) (-1))) rfl ?_
  refine am_iastN (n := 180) rfl rfl rfl (by omega) (by decide) ?_
  refine am_run 4 (pc' := 50) (ls' := [some (.ref 0), some (.int (nI 124)), some (.int (nI n)), some (.int (nI (120 + n))), none]) (st' := [.int (-1), .int (nI (120 + n)), .ref 8]) (σ' := (am_wr (am_wr (am_wr (am_wr σ 2 2 (nI (n + 1))) 5 (120 + n) (nI 124)) 6 (120 + n) (-1)) 7 (120 + n) (-1))) rfl ?_
  refine am_iastN (n := 180) rfl rfl rfl (by omega) (by decide) ?_
  refine am_run 4 (pc' := 57) (ls' := [some (.ref 0), some (.int (nI 124)), some (.int (nI n)), some (.int (nI (120 + n))), none]) (st' := [.int (-1), .int (nI (120 + n)), .ref 15]) (σ' := (am_wr (am_wr (am_wr (am_wr (am_wr σ 2 2 (nI (n + 1))) 5 (120 + n) (nI 124)) 6 (120 + n) (-1)) 7 (120 + n) (-1)) 8 (120 + n) (-1))) rfl ?_
  refine am_iastN (n := 180) rfl rfl rfl (by omega) (by decide) ?_
  refine am_run 4 (pc' := 64) (ls' := [some (.ref 0), some (.int (nI 124)), some (.int (nI n)), some (.int (nI (120 + n))), none]) (st' := [.int (-1), .int (nI (120 + n)), .ref 12]) (σ' := (am_wr (am_wr (am_wr (am_wr (am_wr (am_wr σ 2 2 (nI (n + 1))) 5 (120 + n) (nI 124)) 6 (120 + n) (-1)) 7 (120 + n) (-1)) 8 (120 + n) (-1)) 15 (120 + n) (-1))) rfl ?_
  refine am_iastN (n := 180) rfl rfl rfl (by omega) (by decide) ?_
  refine am_run 5 (pc' := 74) (ls' := [some (.ref 0), some (.int (nI 124)), some (.int (nI n)), some (.int (nI (120 + n))), none]) (st' := [.int (σ.1 0 33), .int (nI (120 + n)), .ref 10]) (σ' := (am_wr (am_wr (am_wr (am_wr (am_wr (am_wr (am_wr σ 2 2 (nI (n + 1))) 5 (120 + n) (nI 124)) 6 (120 + n) (-1)) 7 (120 + n) (-1)) 8 (120 + n) (-1)) 15 (120 + n) (-1)) 12 (120 + n) (-1))) rfl ?_
  refine am_top (v' := nI nw) h33 ?_
  refine am_iastN (n := 180) rfl rfl rfl (by omega) (by decide) ?_
  refine am_run 4 (pc' := 81) (ls' := [some (.ref 0), some (.int (nI 124)), some (.int (nI n)), some (.int (nI (120 + n))), some (.int (nI 0))]) (st' := [.int (nI 3), .int (nI 0)]) (σ' := (am_wr (am_wr (am_wr (am_wr (am_wr (am_wr (am_wr (am_wr σ 2 2 (nI (n + 1))) 5 (120 + n) (nI 124)) 6 (120 + n) (-1)) 7 (120 + n) (-1)) 8 (120 + n) (-1)) 15 (120 + n) (-1)) 12 (120 + n) (-1)) 10 (120 + n) (nI nw))) rfl ?_
  refine am_ic (ty := 84) (tn := 108) rfl (by decide) rfl rfl (fun (h_1 : nI 0 < nI 3) => ?_) (fun (h_1 : ¬ (nI 0 < nI 3)) => ?_)
  rotate_left
  · exact absurd (by decide) h_1
  refine am_run 5 (pc' := 91) (ls' := [some (.ref 0), some (.int (nI 124)), some (.int (nI n)), some (.int (nI (120 + n))), some (.int (nI 0))]) (st' := [.int (nI 3 * nI (120 + n)), .ref 11]) (σ' := (am_wr (am_wr (am_wr (am_wr (am_wr (am_wr (am_wr (am_wr σ 2 2 (nI (n + 1))) 5 (120 + n) (nI 124)) 6 (120 + n) (-1)) 7 (120 + n) (-1)) 8 (120 + n) (-1)) 15 (120 + n) (-1)) 12 (120 + n) (-1)) 10 (120 + n) (nI nw))) rfl ?_
  refine am_top (v' := nI (3 * (120 + n))) (am_nmul _ _) ?_
  refine am_run 2 (pc' := 94) (ls' := [some (.ref 0), some (.int (nI 124)), some (.int (nI n)), some (.int (nI (120 + n))), some (.int (nI 0))]) (st' := [.int (nI (3 * (120 + n)) + nI 0), .ref 11]) (σ' := (am_wr (am_wr (am_wr (am_wr (am_wr (am_wr (am_wr (am_wr σ 2 2 (nI (n + 1))) 5 (120 + n) (nI 124)) 6 (120 + n) (-1)) 7 (120 + n) (-1)) 8 (120 + n) (-1)) 15 (120 + n) (-1)) 12 (120 + n) (-1)) 10 (120 + n) (nI nw))) rfl ?_
  refine am_top (v' := nI (3 * (120 + n) + 0)) (nI_add _ _) ?_
  refine am_run 3 (pc' := 100) (ls' := [some (.ref 0), some (.int (nI 124)), some (.int (nI n)), some (.int (nI (120 + n))), some (.int (nI 0))]) (st' := [.int (nI 0), .ref 27, .int (nI (3 * (120 + n) + 0)), .ref 11]) (σ' := (am_wr (am_wr (am_wr (am_wr (am_wr (am_wr (am_wr (am_wr σ 2 2 (nI (n + 1))) 5 (120 + n) (nI 124)) 6 (120 + n) (-1)) 7 (120 + n) (-1)) 8 (120 + n) (-1)) 15 (120 + n) (-1)) 12 (120 + n) (-1)) 10 (120 + n) (nI nw))) rfl ?_
  refine am_ialdN (n := 4) (v := o0) rfl rfl rfl (by omega) (by rw [am_wr_ne _ (by omega), am_wr_ne _ (by omega), am_wr_ne _ (by omega), am_wr_ne _ (by omega), am_wr_ne _ (by omega), am_wr_ne _ (by omega), am_wr_ne _ (by omega), am_wr_ne _ (by omega)]; exact q0) (by decide) ?_
  refine am_iastN (n := 540) rfl rfl rfl (by omega) (by decide) ?_
  refine am_run 1 (pc' := 105) (ls' := [some (.ref 0), some (.int (nI 124)), some (.int (nI n)), some (.int (nI (120 + n))), some (.int (nI 0 + nI 1))]) (st' := []) (σ' := (am_wr (am_wr (am_wr (am_wr (am_wr (am_wr (am_wr (am_wr (am_wr σ 2 2 (nI (n + 1))) 5 (120 + n) (nI 124)) 6 (120 + n) (-1)) 7 (120 + n) (-1)) 8 (120 + n) (-1)) 15 (120 + n) (-1)) 12 (120 + n) (-1)) 10 (120 + n) (nI nw)) 11 (3 * (120 + n) + 0) o0)) rfl ?_
  refine am_ls (ls' := [some (.ref 0), some (.int (nI 124)), some (.int (nI n)), some (.int (nI (120 + n))), some (.int (nI 1))]) (by rw [nI_add]) ?_
  refine am_run 3 (pc' := 81) (ls' := [some (.ref 0), some (.int (nI 124)), some (.int (nI n)), some (.int (nI (120 + n))), some (.int (nI 1))]) (st' := [.int (nI 3), .int (nI 1)]) (σ' := (am_wr (am_wr (am_wr (am_wr (am_wr (am_wr (am_wr (am_wr (am_wr σ 2 2 (nI (n + 1))) 5 (120 + n) (nI 124)) 6 (120 + n) (-1)) 7 (120 + n) (-1)) 8 (120 + n) (-1)) 15 (120 + n) (-1)) 12 (120 + n) (-1)) 10 (120 + n) (nI nw)) 11 (3 * (120 + n) + 0) o0)) rfl ?_
  refine am_ic (ty := 84) (tn := 108) rfl (by decide) rfl rfl (fun (h_2 : nI 1 < nI 3) => ?_) (fun (h_2 : ¬ (nI 1 < nI 3)) => ?_)
  rotate_left
  · exact absurd (by decide) h_2
  refine am_run 5 (pc' := 91) (ls' := [some (.ref 0), some (.int (nI 124)), some (.int (nI n)), some (.int (nI (120 + n))), some (.int (nI 1))]) (st' := [.int (nI 3 * nI (120 + n)), .ref 11]) (σ' := (am_wr (am_wr (am_wr (am_wr (am_wr (am_wr (am_wr (am_wr (am_wr σ 2 2 (nI (n + 1))) 5 (120 + n) (nI 124)) 6 (120 + n) (-1)) 7 (120 + n) (-1)) 8 (120 + n) (-1)) 15 (120 + n) (-1)) 12 (120 + n) (-1)) 10 (120 + n) (nI nw)) 11 (3 * (120 + n) + 0) o0)) rfl ?_
  refine am_top (v' := nI (3 * (120 + n))) (am_nmul _ _) ?_
  refine am_run 2 (pc' := 94) (ls' := [some (.ref 0), some (.int (nI 124)), some (.int (nI n)), some (.int (nI (120 + n))), some (.int (nI 1))]) (st' := [.int (nI (3 * (120 + n)) + nI 1), .ref 11]) (σ' := (am_wr (am_wr (am_wr (am_wr (am_wr (am_wr (am_wr (am_wr (am_wr σ 2 2 (nI (n + 1))) 5 (120 + n) (nI 124)) 6 (120 + n) (-1)) 7 (120 + n) (-1)) 8 (120 + n) (-1)) 15 (120 + n) (-1)) 12 (120 + n) (-1)) 10 (120 + n) (nI nw)) 11 (3 * (120 + n) + 0) o0)) rfl ?_
  refine am_top (v' := nI (3 * (120 + n) + 1)) (nI_add _ _) ?_
  refine am_run 3 (pc' := 100) (ls' := [some (.ref 0), some (.int (nI 124)), some (.int (nI n)), some (.int (nI (120 + n))), some (.int (nI 1))]) (st' := [.int (nI 1), .ref 27, .int (nI (3 * (120 + n) + 1)), .ref 11]) (σ' := (am_wr (am_wr (am_wr (am_wr (am_wr (am_wr (am_wr (am_wr (am_wr σ 2 2 (nI (n + 1))) 5 (120 + n) (nI 124)) 6 (120 + n) (-1)) 7 (120 + n) (-1)) 8 (120 + n) (-1)) 15 (120 + n) (-1)) 12 (120 + n) (-1)) 10 (120 + n) (nI nw)) 11 (3 * (120 + n) + 0) o0)) rfl ?_
  refine am_ialdN (n := 4) (v := o1) rfl rfl rfl (by omega) (by rw [am_wr_ne _ (by omega), am_wr_ne _ (by omega), am_wr_ne _ (by omega), am_wr_ne _ (by omega), am_wr_ne _ (by omega), am_wr_ne _ (by omega), am_wr_ne _ (by omega), am_wr_ne _ (by omega), am_wr_ne _ (by omega)]; exact q1) (by decide) ?_
  refine am_iastN (n := 540) rfl rfl rfl (by omega) (by decide) ?_
  refine am_run 1 (pc' := 105) (ls' := [some (.ref 0), some (.int (nI 124)), some (.int (nI n)), some (.int (nI (120 + n))), some (.int (nI 1 + nI 1))]) (st' := []) (σ' := (am_wr (am_wr (am_wr (am_wr (am_wr (am_wr (am_wr (am_wr (am_wr (am_wr σ 2 2 (nI (n + 1))) 5 (120 + n) (nI 124)) 6 (120 + n) (-1)) 7 (120 + n) (-1)) 8 (120 + n) (-1)) 15 (120 + n) (-1)) 12 (120 + n) (-1)) 10 (120 + n) (nI nw)) 11 (3 * (120 + n) + 0) o0) 11 (3 * (120 + n) + 1) o1)) rfl ?_
  refine am_ls (ls' := [some (.ref 0), some (.int (nI 124)), some (.int (nI n)), some (.int (nI (120 + n))), some (.int (nI 2))]) (by rw [nI_add]) ?_
  refine am_run 3 (pc' := 81) (ls' := [some (.ref 0), some (.int (nI 124)), some (.int (nI n)), some (.int (nI (120 + n))), some (.int (nI 2))]) (st' := [.int (nI 3), .int (nI 2)]) (σ' := (am_wr (am_wr (am_wr (am_wr (am_wr (am_wr (am_wr (am_wr (am_wr (am_wr σ 2 2 (nI (n + 1))) 5 (120 + n) (nI 124)) 6 (120 + n) (-1)) 7 (120 + n) (-1)) 8 (120 + n) (-1)) 15 (120 + n) (-1)) 12 (120 + n) (-1)) 10 (120 + n) (nI nw)) 11 (3 * (120 + n) + 0) o0) 11 (3 * (120 + n) + 1) o1)) rfl ?_
  refine am_ic (ty := 84) (tn := 108) rfl (by decide) rfl rfl (fun (h_3 : nI 2 < nI 3) => ?_) (fun (h_3 : ¬ (nI 2 < nI 3)) => ?_)
  rotate_left
  · exact absurd (by decide) h_3
  refine am_run 5 (pc' := 91) (ls' := [some (.ref 0), some (.int (nI 124)), some (.int (nI n)), some (.int (nI (120 + n))), some (.int (nI 2))]) (st' := [.int (nI 3 * nI (120 + n)), .ref 11]) (σ' := (am_wr (am_wr (am_wr (am_wr (am_wr (am_wr (am_wr (am_wr (am_wr (am_wr σ 2 2 (nI (n + 1))) 5 (120 + n) (nI 124)) 6 (120 + n) (-1)) 7 (120 + n) (-1)) 8 (120 + n) (-1)) 15 (120 + n) (-1)) 12 (120 + n) (-1)) 10 (120 + n) (nI nw)) 11 (3 * (120 + n) + 0) o0) 11 (3 * (120 + n) + 1) o1)) rfl ?_
  refine am_top (v' := nI (3 * (120 + n))) (am_nmul _ _) ?_
  refine am_run 2 (pc' := 94) (ls' := [some (.ref 0), some (.int (nI 124)), some (.int (nI n)), some (.int (nI (120 + n))), some (.int (nI 2))]) (st' := [.int (nI (3 * (120 + n)) + nI 2), .ref 11]) (σ' := (am_wr (am_wr (am_wr (am_wr (am_wr (am_wr (am_wr (am_wr (am_wr (am_wr σ 2 2 (nI (n + 1))) 5 (120 + n) (nI 124)) 6 (120 + n) (-1)) 7 (120 + n) (-1)) 8 (120 + n) (-1)) 15 (120 + n) (-1)) 12 (120 + n) (-1)) 10 (120 + n) (nI nw)) 11 (3 * (120 + n) + 0) o0) 11 (3 * (120 + n) + 1) o1)) rfl ?_
  refine am_top (v' := nI (3 * (120 + n) + 2)) (nI_add _ _) ?_
  refine am_run 3 (pc' := 100) (ls' := [some (.ref 0), some (.int (nI 124)), some (.int (nI n)), some (.int (nI (120 + n))), some (.int (nI 2))]) (st' := [.int (nI 2), .ref 27, .int (nI (3 * (120 + n) + 2)), .ref 11]) (σ' := (am_wr (am_wr (am_wr (am_wr (am_wr (am_wr (am_wr (am_wr (am_wr (am_wr σ 2 2 (nI (n + 1))) 5 (120 + n) (nI 124)) 6 (120 + n) (-1)) 7 (120 + n) (-1)) 8 (120 + n) (-1)) 15 (120 + n) (-1)) 12 (120 + n) (-1)) 10 (120 + n) (nI nw)) 11 (3 * (120 + n) + 0) o0) 11 (3 * (120 + n) + 1) o1)) rfl ?_
  refine am_ialdN (n := 4) (v := o2) rfl rfl rfl (by omega) (by rw [am_wr_ne _ (by omega), am_wr_ne _ (by omega), am_wr_ne _ (by omega), am_wr_ne _ (by omega), am_wr_ne _ (by omega), am_wr_ne _ (by omega), am_wr_ne _ (by omega), am_wr_ne _ (by omega), am_wr_ne _ (by omega), am_wr_ne _ (by omega)]; exact q2) (by decide) ?_
  refine am_iastN (n := 540) rfl rfl rfl (by omega) (by decide) ?_
  refine am_run 1 (pc' := 105) (ls' := [some (.ref 0), some (.int (nI 124)), some (.int (nI n)), some (.int (nI (120 + n))), some (.int (nI 2 + nI 1))]) (st' := []) (σ' := (am_wr (am_wr (am_wr (am_wr (am_wr (am_wr (am_wr (am_wr (am_wr (am_wr (am_wr σ 2 2 (nI (n + 1))) 5 (120 + n) (nI 124)) 6 (120 + n) (-1)) 7 (120 + n) (-1)) 8 (120 + n) (-1)) 15 (120 + n) (-1)) 12 (120 + n) (-1)) 10 (120 + n) (nI nw)) 11 (3 * (120 + n) + 0) o0) 11 (3 * (120 + n) + 1) o1) 11 (3 * (120 + n) + 2) o2)) rfl ?_
  refine am_ls (ls' := [some (.ref 0), some (.int (nI 124)), some (.int (nI n)), some (.int (nI (120 + n))), some (.int (nI 3))]) (by rw [nI_add]) ?_
  refine am_run 3 (pc' := 81) (ls' := [some (.ref 0), some (.int (nI 124)), some (.int (nI n)), some (.int (nI (120 + n))), some (.int (nI 3))]) (st' := [.int (nI 3), .int (nI 3)]) (σ' := (am_wr (am_wr (am_wr (am_wr (am_wr (am_wr (am_wr (am_wr (am_wr (am_wr (am_wr σ 2 2 (nI (n + 1))) 5 (120 + n) (nI 124)) 6 (120 + n) (-1)) 7 (120 + n) (-1)) 8 (120 + n) (-1)) 15 (120 + n) (-1)) 12 (120 + n) (-1)) 10 (120 + n) (nI nw)) 11 (3 * (120 + n) + 0) o0) 11 (3 * (120 + n) + 1) o1) 11 (3 * (120 + n) + 2) o2)) rfl ?_
  refine am_ic (ty := 84) (tn := 108) rfl (by decide) rfl rfl (fun (h_4 : nI 3 < nI 3) => ?_) (fun (h_4 : ¬ (nI 3 < nI 3)) => ?_)
  · exact absurd h_4 (by decide)
  refine am_run 2 (pc' := 111) (ls' := [some (.ref 0), some (.int (nI 124)), some (.int (nI n)), some (.int (nI (120 + n))), some (.int (nI 3))]) (st' := [.int (nI 46), .int (nI 124)]) (σ' := (am_wr (am_wr (am_wr (am_wr (am_wr (am_wr (am_wr (am_wr (am_wr (am_wr (am_wr σ 2 2 (nI (n + 1))) 5 (120 + n) (nI 124)) 6 (120 + n) (-1)) 7 (120 + n) (-1)) 8 (120 + n) (-1)) 15 (120 + n) (-1)) 12 (120 + n) (-1)) 10 (120 + n) (nI nw)) 11 (3 * (120 + n) + 0) o0) 11 (3 * (120 + n) + 1) o1) 11 (3 * (120 + n) + 2) o2)) rfl ?_
  refine am_ic (ty := 120) (tn := 114) rfl (by decide) rfl rfl (fun (h_5 : nI 124 = nI 46) => ?_) (fun (h_5 : ¬ (nI 124 = nI 46)) => ?_)
  · exact absurd h_5 (by decide)
  refine am_run 2 (pc' := 117) (ls' := [some (.ref 0), some (.int (nI 124)), some (.int (nI n)), some (.int (nI (120 + n))), some (.int (nI 3))]) (st' := [.int (nI 38), .int (nI 124)]) (σ' := (am_wr (am_wr (am_wr (am_wr (am_wr (am_wr (am_wr (am_wr (am_wr (am_wr (am_wr σ 2 2 (nI (n + 1))) 5 (120 + n) (nI 124)) 6 (120 + n) (-1)) 7 (120 + n) (-1)) 8 (120 + n) (-1)) 15 (120 + n) (-1)) 12 (120 + n) (-1)) 10 (120 + n) (nI nw)) 11 (3 * (120 + n) + 0) o0) 11 (3 * (120 + n) + 1) o1) 11 (3 * (120 + n) + 2) o2)) rfl ?_
  refine am_ic (ty := 120) (tn := 142) rfl (by decide) rfl rfl (fun (h_6 : nI 124 = nI 38) => ?_) (fun (h_6 : ¬ (nI 124 = nI 38)) => ?_)
  · exact absurd h_6 (by decide)
  refine am_run 1 (pc' := 143) (ls' := [some (.ref 0), some (.int (nI 124)), some (.int (nI n)), some (.int (nI (120 + n))), some (.int (nI 3))]) (st' := [.int (nI n)]) (σ' := (am_wr (am_wr (am_wr (am_wr (am_wr (am_wr (am_wr (am_wr (am_wr (am_wr (am_wr σ 2 2 (nI (n + 1))) 5 (120 + n) (nI 124)) 6 (120 + n) (-1)) 7 (120 + n) (-1)) 8 (120 + n) (-1)) 15 (120 + n) (-1)) 12 (120 + n) (-1)) 10 (120 + n) (nI nw)) 11 (3 * (120 + n) + 0) o0) 11 (3 * (120 + n) + 1) o1) 11 (3 * (120 + n) + 2) o2)) rfl ?_
  refine am_reti rfl rfl ?_
  exact hq
set_option maxRecDepth 10000 in
set_option maxHeartbeats 2000000 in
theorem c_m_isFull_48 {d : Nat} (hd : 1 ≤ d) {σ : am_M} {n kk : Nat} (h2 : σ.1 2 2 = nI n) (h3 : σ.1 3 2 = nI kk) (hn : n ≤ 60) (hk : kk ≤ 20) {Q : am_Q} (h1 : 60 ≤ n → Q (some (.int (nI 1))) σ) (h0 : ¬ (60 ≤ n) → Q (some (.int (nI 0))) σ) : am_C d 160 [.ref 0, .int (nI 48)] σ Q := by
  refine am_enter' (M := M_X10_isFull) rfl rfl rfl (by omega) (ls := [some (.ref 0), some (.int (nI 48))]) rfl (fun d' hd' => ?_)
  refine am_run 3 (pc' := 5) (ls' := [some (.ref 0), some (.int (nI 48))]) (st' := [.int (nI 2), .ref 2]) (σ' := σ) rfl ?_
  refine am_ialdN (n := 3) (v := nI n) rfl rfl rfl (by omega) h2 (by decide) ?_
  refine am_run 1 (pc' := 8) (ls' := [some (.ref 0), some (.int (nI 48))]) (st' := [.int (nI 60), .int (nI n)]) (σ' := σ) rfl ?_
  refine am_ic (ty := 34) (tn := 11) rfl (by decide) rfl rfl (fun (h_1 : nI n = nI 60) => ?_) (fun (h_1 : ¬ (nI n = nI 60)) => ?_)
  · have h_1 : n = 60 := (nI_eq (by omega) (by omega)).mp h_1
    refine am_run 2 (pc' := 39) (ls' := [some (.ref 0), some (.int (nI 48))]) (st' := [.int (nI 1)]) (σ' := σ) rfl ?_
    refine am_retz rfl rfl (by decide) ?_
    exact h1 (by omega)
  · have h_1 : ¬ (n = 60) := fun z => h_1 ((nI_eq (by omega) (by omega)).mpr z)
    refine am_run 2 (pc' := 14) (ls' := [some (.ref 0), some (.int (nI 48))]) (st' := [.int (nI 46), .int (nI 48)]) (σ' := σ) rfl ?_
    refine am_ic (ty := 23) (tn := 17) rfl (by decide) rfl rfl (fun (h_2 : nI 48 = nI 46) => ?_) (fun (h_2 : ¬ (nI 48 = nI 46)) => ?_)
    · exact absurd h_2 (by decide)
    refine am_run 2 (pc' := 20) (ls' := [some (.ref 0), some (.int (nI 48))]) (st' := [.int (nI 38), .int (nI 48)]) (σ' := σ) rfl ?_
    refine am_ic (ty := 23) (tn := 38) rfl (by decide) rfl rfl (fun (h_3 : nI 48 = nI 38) => ?_) (fun (h_3 : ¬ (nI 48 = nI 38)) => ?_)
    · exact absurd h_3 (by decide)
    refine am_run 1 (pc' := 39) (ls' := [some (.ref 0), some (.int (nI 48))]) (st' := [.int (nI 0)]) (σ' := σ) rfl ?_
    refine am_retz rfl rfl (by decide) ?_
    exact h0 (by omega)
set_option maxRecDepth 10000 in
set_option maxHeartbeats 2000000 in
theorem c_m_isFull_46 {d : Nat} (hd : 1 ≤ d) {σ : am_M} {n kk : Nat} (h2 : σ.1 2 2 = nI n) (h3 : σ.1 3 2 = nI kk) (hn : n ≤ 60) (hk : kk ≤ 20) {Q : am_Q} (h1 : 60 ≤ n ∨ 20 ≤ kk → Q (some (.int (nI 1))) σ) (h0 : ¬ (60 ≤ n ∨ 20 ≤ kk) → Q (some (.int (nI 0))) σ) : am_C d 160 [.ref 0, .int (nI 46)] σ Q := by
  refine am_enter' (M := M_X10_isFull) rfl rfl rfl (by omega) (ls := [some (.ref 0), some (.int (nI 46))]) rfl (fun d' hd' => ?_)
  refine am_run 3 (pc' := 5) (ls' := [some (.ref 0), some (.int (nI 46))]) (st' := [.int (nI 2), .ref 2]) (σ' := σ) rfl ?_
  refine am_ialdN (n := 3) (v := nI n) rfl rfl rfl (by omega) h2 (by decide) ?_
  refine am_run 1 (pc' := 8) (ls' := [some (.ref 0), some (.int (nI 46))]) (st' := [.int (nI 60), .int (nI n)]) (σ' := σ) rfl ?_
  refine am_ic (ty := 34) (tn := 11) rfl (by decide) rfl rfl (fun (h_1 : nI n = nI 60) => ?_) (fun (h_1 : ¬ (nI n = nI 60)) => ?_)
  · have h_1 : n = 60 := (nI_eq (by omega) (by omega)).mp h_1
    refine am_run 2 (pc' := 39) (ls' := [some (.ref 0), some (.int (nI 46))]) (st' := [.int (nI 1)]) (σ' := σ) rfl ?_
    refine am_retz rfl rfl (by decide) ?_
    exact h1 (by omega)
  · have h_1 : ¬ (n = 60) := fun z => h_1 ((nI_eq (by omega) (by omega)).mpr z)
    refine am_run 2 (pc' := 14) (ls' := [some (.ref 0), some (.int (nI 46))]) (st' := [.int (nI 46), .int (nI 46)]) (σ' := σ) rfl ?_
    refine am_ic (ty := 23) (tn := 17) rfl (by decide) rfl rfl (fun (h_2 : nI 46 = nI 46) => ?_) (fun (h_2 : ¬ (nI 46 = nI 46)) => ?_)
    rotate_left
    · exact absurd (by decide) h_2
    refine am_run 3 (pc' := 28) (ls' := [some (.ref 0), some (.int (nI 46))]) (st' := [.int (nI 2), .ref 3]) (σ' := σ) rfl ?_
    refine am_ialdN (n := 3) (v := nI kk) rfl rfl rfl (by omega) h3 (by decide) ?_
    refine am_run 1 (pc' := 31) (ls' := [some (.ref 0), some (.int (nI 46))]) (st' := [.int (nI 20), .int (nI kk)]) (σ' := σ) rfl ?_
    refine am_ic (ty := 34) (tn := 38) rfl (by decide) rfl rfl (fun (h_3 : nI kk = nI 20) => ?_) (fun (h_3 : ¬ (nI kk = nI 20)) => ?_)
    · have h_3 : kk = 20 := (nI_eq (by omega) (by omega)).mp h_3
      refine am_run 2 (pc' := 39) (ls' := [some (.ref 0), some (.int (nI 46))]) (st' := [.int (nI 1)]) (σ' := σ) rfl ?_
      refine am_retz rfl rfl (by decide) ?_
      exact h1 (by omega)
    · have h_3 : ¬ (kk = 20) := fun z => h_3 ((nI_eq (by omega) (by omega)).mpr z)
      refine am_run 1 (pc' := 39) (ls' := [some (.ref 0), some (.int (nI 46))]) (st' := [.int (nI 0)]) (σ' := σ) rfl ?_
      refine am_retz rfl rfl (by decide) ?_
      exact h0 (by omega)
set_option maxRecDepth 10000 in
set_option maxHeartbeats 2000000 in
theorem c_m_isFull_120 {d : Nat} (hd : 1 ≤ d) {σ : am_M} {n kk : Nat} (h2 : σ.1 2 2 = nI n) (h3 : σ.1 3 2 = nI kk) (hn : n ≤ 60) (hk : kk ≤ 20) {Q : am_Q} (h1 : 60 ≤ n → Q (some (.int (nI 1))) σ) (h0 : ¬ (60 ≤ n) → Q (some (.int (nI 0))) σ) : am_C d 160 [.ref 0, .int (nI 120)] σ Q := by
  refine am_enter' (M := M_X10_isFull) rfl rfl rfl (by omega) (ls := [some (.ref 0), some (.int (nI 120))]) rfl (fun d' hd' => ?_)
  refine am_run 3 (pc' := 5) (ls' := [some (.ref 0), some (.int (nI 120))]) (st' := [.int (nI 2), .ref 2]) (σ' := σ) rfl ?_
  refine am_ialdN (n := 3) (v := nI n) rfl rfl rfl (by omega) h2 (by decide) ?_
  refine am_run 1 (pc' := 8) (ls' := [some (.ref 0), some (.int (nI 120))]) (st' := [.int (nI 60), .int (nI n)]) (σ' := σ) rfl ?_
  refine am_ic (ty := 34) (tn := 11) rfl (by decide) rfl rfl (fun (h_1 : nI n = nI 60) => ?_) (fun (h_1 : ¬ (nI n = nI 60)) => ?_)
  · have h_1 : n = 60 := (nI_eq (by omega) (by omega)).mp h_1
    refine am_run 2 (pc' := 39) (ls' := [some (.ref 0), some (.int (nI 120))]) (st' := [.int (nI 1)]) (σ' := σ) rfl ?_
    refine am_retz rfl rfl (by decide) ?_
    exact h1 (by omega)
  · have h_1 : ¬ (n = 60) := fun z => h_1 ((nI_eq (by omega) (by omega)).mpr z)
    refine am_run 2 (pc' := 14) (ls' := [some (.ref 0), some (.int (nI 120))]) (st' := [.int (nI 46), .int (nI 120)]) (σ' := σ) rfl ?_
    refine am_ic (ty := 23) (tn := 17) rfl (by decide) rfl rfl (fun (h_2 : nI 120 = nI 46) => ?_) (fun (h_2 : ¬ (nI 120 = nI 46)) => ?_)
    · exact absurd h_2 (by decide)
    refine am_run 2 (pc' := 20) (ls' := [some (.ref 0), some (.int (nI 120))]) (st' := [.int (nI 38), .int (nI 120)]) (σ' := σ) rfl ?_
    refine am_ic (ty := 23) (tn := 38) rfl (by decide) rfl rfl (fun (h_3 : nI 120 = nI 38) => ?_) (fun (h_3 : ¬ (nI 120 = nI 38)) => ?_)
    · exact absurd h_3 (by decide)
    refine am_run 1 (pc' := 39) (ls' := [some (.ref 0), some (.int (nI 120))]) (st' := [.int (nI 0)]) (σ' := σ) rfl ?_
    refine am_retz rfl rfl (by decide) ?_
    exact h0 (by omega)
set_option maxRecDepth 10000 in
set_option maxHeartbeats 2000000 in
theorem c_m_isFull_33 {d : Nat} (hd : 1 ≤ d) {σ : am_M} {n kk : Nat} (h2 : σ.1 2 2 = nI n) (h3 : σ.1 3 2 = nI kk) (hn : n ≤ 60) (hk : kk ≤ 20) {Q : am_Q} (h1 : 60 ≤ n → Q (some (.int (nI 1))) σ) (h0 : ¬ (60 ≤ n) → Q (some (.int (nI 0))) σ) : am_C d 160 [.ref 0, .int (nI 33)] σ Q := by
  refine am_enter' (M := M_X10_isFull) rfl rfl rfl (by omega) (ls := [some (.ref 0), some (.int (nI 33))]) rfl (fun d' hd' => ?_)
  refine am_run 3 (pc' := 5) (ls' := [some (.ref 0), some (.int (nI 33))]) (st' := [.int (nI 2), .ref 2]) (σ' := σ) rfl ?_
  refine am_ialdN (n := 3) (v := nI n) rfl rfl rfl (by omega) h2 (by decide) ?_
  refine am_run 1 (pc' := 8) (ls' := [some (.ref 0), some (.int (nI 33))]) (st' := [.int (nI 60), .int (nI n)]) (σ' := σ) rfl ?_
  refine am_ic (ty := 34) (tn := 11) rfl (by decide) rfl rfl (fun (h_1 : nI n = nI 60) => ?_) (fun (h_1 : ¬ (nI n = nI 60)) => ?_)
  · have h_1 : n = 60 := (nI_eq (by omega) (by omega)).mp h_1
    refine am_run 2 (pc' := 39) (ls' := [some (.ref 0), some (.int (nI 33))]) (st' := [.int (nI 1)]) (σ' := σ) rfl ?_
    refine am_retz rfl rfl (by decide) ?_
    exact h1 (by omega)
  · have h_1 : ¬ (n = 60) := fun z => h_1 ((nI_eq (by omega) (by omega)).mpr z)
    refine am_run 2 (pc' := 14) (ls' := [some (.ref 0), some (.int (nI 33))]) (st' := [.int (nI 46), .int (nI 33)]) (σ' := σ) rfl ?_
    refine am_ic (ty := 23) (tn := 17) rfl (by decide) rfl rfl (fun (h_2 : nI 33 = nI 46) => ?_) (fun (h_2 : ¬ (nI 33 = nI 46)) => ?_)
    · exact absurd h_2 (by decide)
    refine am_run 2 (pc' := 20) (ls' := [some (.ref 0), some (.int (nI 33))]) (st' := [.int (nI 38), .int (nI 33)]) (σ' := σ) rfl ?_
    refine am_ic (ty := 23) (tn := 38) rfl (by decide) rfl rfl (fun (h_3 : nI 33 = nI 38) => ?_) (fun (h_3 : ¬ (nI 33 = nI 38)) => ?_)
    · exact absurd h_3 (by decide)
    refine am_run 1 (pc' := 39) (ls' := [some (.ref 0), some (.int (nI 33))]) (st' := [.int (nI 0)]) (σ' := σ) rfl ?_
    refine am_retz rfl rfl (by decide) ?_
    exact h0 (by omega)
set_option maxRecDepth 10000 in
set_option maxHeartbeats 2000000 in
theorem c_m_isFull_38 {d : Nat} (hd : 1 ≤ d) {σ : am_M} {n kk : Nat} (h2 : σ.1 2 2 = nI n) (h3 : σ.1 3 2 = nI kk) (hn : n ≤ 60) (hk : kk ≤ 20) {Q : am_Q} (h1 : 60 ≤ n ∨ 20 ≤ kk → Q (some (.int (nI 1))) σ) (h0 : ¬ (60 ≤ n ∨ 20 ≤ kk) → Q (some (.int (nI 0))) σ) : am_C d 160 [.ref 0, .int (nI 38)] σ Q := by
  refine am_enter' (M := M_X10_isFull) rfl rfl rfl (by omega) (ls := [some (.ref 0), some (.int (nI 38))]) rfl (fun d' hd' => ?_)
  refine am_run 3 (pc' := 5) (ls' := [some (.ref 0), some (.int (nI 38))]) (st' := [.int (nI 2), .ref 2]) (σ' := σ) rfl ?_
  refine am_ialdN (n := 3) (v := nI n) rfl rfl rfl (by omega) h2 (by decide) ?_
  refine am_run 1 (pc' := 8) (ls' := [some (.ref 0), some (.int (nI 38))]) (st' := [.int (nI 60), .int (nI n)]) (σ' := σ) rfl ?_
  refine am_ic (ty := 34) (tn := 11) rfl (by decide) rfl rfl (fun (h_1 : nI n = nI 60) => ?_) (fun (h_1 : ¬ (nI n = nI 60)) => ?_)
  · have h_1 : n = 60 := (nI_eq (by omega) (by omega)).mp h_1
    refine am_run 2 (pc' := 39) (ls' := [some (.ref 0), some (.int (nI 38))]) (st' := [.int (nI 1)]) (σ' := σ) rfl ?_
    refine am_retz rfl rfl (by decide) ?_
    exact h1 (by omega)
  · have h_1 : ¬ (n = 60) := fun z => h_1 ((nI_eq (by omega) (by omega)).mpr z)
    refine am_run 2 (pc' := 14) (ls' := [some (.ref 0), some (.int (nI 38))]) (st' := [.int (nI 46), .int (nI 38)]) (σ' := σ) rfl ?_
    refine am_ic (ty := 23) (tn := 17) rfl (by decide) rfl rfl (fun (h_2 : nI 38 = nI 46) => ?_) (fun (h_2 : ¬ (nI 38 = nI 46)) => ?_)
    · exact absurd h_2 (by decide)
    refine am_run 2 (pc' := 20) (ls' := [some (.ref 0), some (.int (nI 38))]) (st' := [.int (nI 38), .int (nI 38)]) (σ' := σ) rfl ?_
    refine am_ic (ty := 23) (tn := 38) rfl (by decide) rfl rfl (fun (h_3 : nI 38 = nI 38) => ?_) (fun (h_3 : ¬ (nI 38 = nI 38)) => ?_)
    rotate_left
    · exact absurd (by decide) h_3
    refine am_run 3 (pc' := 28) (ls' := [some (.ref 0), some (.int (nI 38))]) (st' := [.int (nI 2), .ref 3]) (σ' := σ) rfl ?_
    refine am_ialdN (n := 3) (v := nI kk) rfl rfl rfl (by omega) h3 (by decide) ?_
    refine am_run 1 (pc' := 31) (ls' := [some (.ref 0), some (.int (nI 38))]) (st' := [.int (nI 20), .int (nI kk)]) (σ' := σ) rfl ?_
    refine am_ic (ty := 34) (tn := 38) rfl (by decide) rfl rfl (fun (h_4 : nI kk = nI 20) => ?_) (fun (h_4 : ¬ (nI kk = nI 20)) => ?_)
    · have h_4 : kk = 20 := (nI_eq (by omega) (by omega)).mp h_4
      refine am_run 2 (pc' := 39) (ls' := [some (.ref 0), some (.int (nI 38))]) (st' := [.int (nI 1)]) (σ' := σ) rfl ?_
      refine am_retz rfl rfl (by decide) ?_
      exact h1 (by omega)
    · have h_4 : ¬ (kk = 20) := fun z => h_4 ((nI_eq (by omega) (by omega)).mpr z)
      refine am_run 1 (pc' := 39) (ls' := [some (.ref 0), some (.int (nI 38))]) (st' := [.int (nI 0)]) (σ' := σ) rfl ?_
      refine am_retz rfl rfl (by decide) ?_
      exact h0 (by omega)
set_option maxRecDepth 10000 in
set_option maxHeartbeats 2000000 in
theorem c_m_isFull_63 {d : Nat} (hd : 1 ≤ d) {σ : am_M} {n kk : Nat} (h2 : σ.1 2 2 = nI n) (h3 : σ.1 3 2 = nI kk) (hn : n ≤ 60) (hk : kk ≤ 20) {Q : am_Q} (h1 : 60 ≤ n → Q (some (.int (nI 1))) σ) (h0 : ¬ (60 ≤ n) → Q (some (.int (nI 0))) σ) : am_C d 160 [.ref 0, .int (nI 63)] σ Q := by
  refine am_enter' (M := M_X10_isFull) rfl rfl rfl (by omega) (ls := [some (.ref 0), some (.int (nI 63))]) rfl (fun d' hd' => ?_)
  refine am_run 3 (pc' := 5) (ls' := [some (.ref 0), some (.int (nI 63))]) (st' := [.int (nI 2), .ref 2]) (σ' := σ) rfl ?_
  refine am_ialdN (n := 3) (v := nI n) rfl rfl rfl (by omega) h2 (by decide) ?_
  refine am_run 1 (pc' := 8) (ls' := [some (.ref 0), some (.int (nI 63))]) (st' := [.int (nI 60), .int (nI n)]) (σ' := σ) rfl ?_
  refine am_ic (ty := 34) (tn := 11) rfl (by decide) rfl rfl (fun (h_1 : nI n = nI 60) => ?_) (fun (h_1 : ¬ (nI n = nI 60)) => ?_)
  · have h_1 : n = 60 := (nI_eq (by omega) (by omega)).mp h_1
    refine am_run 2 (pc' := 39) (ls' := [some (.ref 0), some (.int (nI 63))]) (st' := [.int (nI 1)]) (σ' := σ) rfl ?_
    refine am_retz rfl rfl (by decide) ?_
    exact h1 (by omega)
  · have h_1 : ¬ (n = 60) := fun z => h_1 ((nI_eq (by omega) (by omega)).mpr z)
    refine am_run 2 (pc' := 14) (ls' := [some (.ref 0), some (.int (nI 63))]) (st' := [.int (nI 46), .int (nI 63)]) (σ' := σ) rfl ?_
    refine am_ic (ty := 23) (tn := 17) rfl (by decide) rfl rfl (fun (h_2 : nI 63 = nI 46) => ?_) (fun (h_2 : ¬ (nI 63 = nI 46)) => ?_)
    · exact absurd h_2 (by decide)
    refine am_run 2 (pc' := 20) (ls' := [some (.ref 0), some (.int (nI 63))]) (st' := [.int (nI 38), .int (nI 63)]) (σ' := σ) rfl ?_
    refine am_ic (ty := 23) (tn := 38) rfl (by decide) rfl rfl (fun (h_3 : nI 63 = nI 38) => ?_) (fun (h_3 : ¬ (nI 63 = nI 38)) => ?_)
    · exact absurd h_3 (by decide)
    refine am_run 1 (pc' := 39) (ls' := [some (.ref 0), some (.int (nI 63))]) (st' := [.int (nI 0)]) (σ' := σ) rfl ?_
    refine am_retz rfl rfl (by decide) ?_
    exact h0 (by omega)
set_option maxRecDepth 10000 in
set_option maxHeartbeats 2000000 in
theorem c_m_isFull_42 {d : Nat} (hd : 1 ≤ d) {σ : am_M} {n kk : Nat} (h2 : σ.1 2 2 = nI n) (h3 : σ.1 3 2 = nI kk) (hn : n ≤ 60) (hk : kk ≤ 20) {Q : am_Q} (h1 : 60 ≤ n → Q (some (.int (nI 1))) σ) (h0 : ¬ (60 ≤ n) → Q (some (.int (nI 0))) σ) : am_C d 160 [.ref 0, .int (nI 42)] σ Q := by
  refine am_enter' (M := M_X10_isFull) rfl rfl rfl (by omega) (ls := [some (.ref 0), some (.int (nI 42))]) rfl (fun d' hd' => ?_)
  refine am_run 3 (pc' := 5) (ls' := [some (.ref 0), some (.int (nI 42))]) (st' := [.int (nI 2), .ref 2]) (σ' := σ) rfl ?_
  refine am_ialdN (n := 3) (v := nI n) rfl rfl rfl (by omega) h2 (by decide) ?_
  refine am_run 1 (pc' := 8) (ls' := [some (.ref 0), some (.int (nI 42))]) (st' := [.int (nI 60), .int (nI n)]) (σ' := σ) rfl ?_
  refine am_ic (ty := 34) (tn := 11) rfl (by decide) rfl rfl (fun (h_1 : nI n = nI 60) => ?_) (fun (h_1 : ¬ (nI n = nI 60)) => ?_)
  · have h_1 : n = 60 := (nI_eq (by omega) (by omega)).mp h_1
    refine am_run 2 (pc' := 39) (ls' := [some (.ref 0), some (.int (nI 42))]) (st' := [.int (nI 1)]) (σ' := σ) rfl ?_
    refine am_retz rfl rfl (by decide) ?_
    exact h1 (by omega)
  · have h_1 : ¬ (n = 60) := fun z => h_1 ((nI_eq (by omega) (by omega)).mpr z)
    refine am_run 2 (pc' := 14) (ls' := [some (.ref 0), some (.int (nI 42))]) (st' := [.int (nI 46), .int (nI 42)]) (σ' := σ) rfl ?_
    refine am_ic (ty := 23) (tn := 17) rfl (by decide) rfl rfl (fun (h_2 : nI 42 = nI 46) => ?_) (fun (h_2 : ¬ (nI 42 = nI 46)) => ?_)
    · exact absurd h_2 (by decide)
    refine am_run 2 (pc' := 20) (ls' := [some (.ref 0), some (.int (nI 42))]) (st' := [.int (nI 38), .int (nI 42)]) (σ' := σ) rfl ?_
    refine am_ic (ty := 23) (tn := 38) rfl (by decide) rfl rfl (fun (h_3 : nI 42 = nI 38) => ?_) (fun (h_3 : ¬ (nI 42 = nI 38)) => ?_)
    · exact absurd h_3 (by decide)
    refine am_run 1 (pc' := 39) (ls' := [some (.ref 0), some (.int (nI 42))]) (st' := [.int (nI 0)]) (σ' := σ) rfl ?_
    refine am_retz rfl rfl (by decide) ?_
    exact h0 (by omega)
set_option maxRecDepth 10000 in
set_option maxHeartbeats 2000000 in
theorem c_m_isFull_94 {d : Nat} (hd : 1 ≤ d) {σ : am_M} {n kk : Nat} (h2 : σ.1 2 2 = nI n) (h3 : σ.1 3 2 = nI kk) (hn : n ≤ 60) (hk : kk ≤ 20) {Q : am_Q} (h1 : 60 ≤ n → Q (some (.int (nI 1))) σ) (h0 : ¬ (60 ≤ n) → Q (some (.int (nI 0))) σ) : am_C d 160 [.ref 0, .int (nI 94)] σ Q := by
  refine am_enter' (M := M_X10_isFull) rfl rfl rfl (by omega) (ls := [some (.ref 0), some (.int (nI 94))]) rfl (fun d' hd' => ?_)
  refine am_run 3 (pc' := 5) (ls' := [some (.ref 0), some (.int (nI 94))]) (st' := [.int (nI 2), .ref 2]) (σ' := σ) rfl ?_
  refine am_ialdN (n := 3) (v := nI n) rfl rfl rfl (by omega) h2 (by decide) ?_
  refine am_run 1 (pc' := 8) (ls' := [some (.ref 0), some (.int (nI 94))]) (st' := [.int (nI 60), .int (nI n)]) (σ' := σ) rfl ?_
  refine am_ic (ty := 34) (tn := 11) rfl (by decide) rfl rfl (fun (h_1 : nI n = nI 60) => ?_) (fun (h_1 : ¬ (nI n = nI 60)) => ?_)
  · have h_1 : n = 60 := (nI_eq (by omega) (by omega)).mp h_1
    refine am_run 2 (pc' := 39) (ls' := [some (.ref 0), some (.int (nI 94))]) (st' := [.int (nI 1)]) (σ' := σ) rfl ?_
    refine am_retz rfl rfl (by decide) ?_
    exact h1 (by omega)
  · have h_1 : ¬ (n = 60) := fun z => h_1 ((nI_eq (by omega) (by omega)).mpr z)
    refine am_run 2 (pc' := 14) (ls' := [some (.ref 0), some (.int (nI 94))]) (st' := [.int (nI 46), .int (nI 94)]) (σ' := σ) rfl ?_
    refine am_ic (ty := 23) (tn := 17) rfl (by decide) rfl rfl (fun (h_2 : nI 94 = nI 46) => ?_) (fun (h_2 : ¬ (nI 94 = nI 46)) => ?_)
    · exact absurd h_2 (by decide)
    refine am_run 2 (pc' := 20) (ls' := [some (.ref 0), some (.int (nI 94))]) (st' := [.int (nI 38), .int (nI 94)]) (σ' := σ) rfl ?_
    refine am_ic (ty := 23) (tn := 38) rfl (by decide) rfl rfl (fun (h_3 : nI 94 = nI 38) => ?_) (fun (h_3 : ¬ (nI 94 = nI 38)) => ?_)
    · exact absurd h_3 (by decide)
    refine am_run 1 (pc' := 39) (ls' := [some (.ref 0), some (.int (nI 94))]) (st' := [.int (nI 0)]) (σ' := σ) rfl ?_
    refine am_retz rfl rfl (by decide) ?_
    exact h0 (by omega)
set_option maxRecDepth 10000 in
set_option maxHeartbeats 2000000 in
theorem c_m_isFull_64 {d : Nat} (hd : 1 ≤ d) {σ : am_M} {n kk : Nat} (h2 : σ.1 2 2 = nI n) (h3 : σ.1 3 2 = nI kk) (hn : n ≤ 60) (hk : kk ≤ 20) {Q : am_Q} (h1 : 60 ≤ n → Q (some (.int (nI 1))) σ) (h0 : ¬ (60 ≤ n) → Q (some (.int (nI 0))) σ) : am_C d 160 [.ref 0, .int (nI 64)] σ Q := by
  refine am_enter' (M := M_X10_isFull) rfl rfl rfl (by omega) (ls := [some (.ref 0), some (.int (nI 64))]) rfl (fun d' hd' => ?_)
  refine am_run 3 (pc' := 5) (ls' := [some (.ref 0), some (.int (nI 64))]) (st' := [.int (nI 2), .ref 2]) (σ' := σ) rfl ?_
  refine am_ialdN (n := 3) (v := nI n) rfl rfl rfl (by omega) h2 (by decide) ?_
  refine am_run 1 (pc' := 8) (ls' := [some (.ref 0), some (.int (nI 64))]) (st' := [.int (nI 60), .int (nI n)]) (σ' := σ) rfl ?_
  refine am_ic (ty := 34) (tn := 11) rfl (by decide) rfl rfl (fun (h_1 : nI n = nI 60) => ?_) (fun (h_1 : ¬ (nI n = nI 60)) => ?_)
  · have h_1 : n = 60 := (nI_eq (by omega) (by omega)).mp h_1
    refine am_run 2 (pc' := 39) (ls' := [some (.ref 0), some (.int (nI 64))]) (st' := [.int (nI 1)]) (σ' := σ) rfl ?_
    refine am_retz rfl rfl (by decide) ?_
    exact h1 (by omega)
  · have h_1 : ¬ (n = 60) := fun z => h_1 ((nI_eq (by omega) (by omega)).mpr z)
    refine am_run 2 (pc' := 14) (ls' := [some (.ref 0), some (.int (nI 64))]) (st' := [.int (nI 46), .int (nI 64)]) (σ' := σ) rfl ?_
    refine am_ic (ty := 23) (tn := 17) rfl (by decide) rfl rfl (fun (h_2 : nI 64 = nI 46) => ?_) (fun (h_2 : ¬ (nI 64 = nI 46)) => ?_)
    · exact absurd h_2 (by decide)
    refine am_run 2 (pc' := 20) (ls' := [some (.ref 0), some (.int (nI 64))]) (st' := [.int (nI 38), .int (nI 64)]) (σ' := σ) rfl ?_
    refine am_ic (ty := 23) (tn := 38) rfl (by decide) rfl rfl (fun (h_3 : nI 64 = nI 38) => ?_) (fun (h_3 : ¬ (nI 64 = nI 38)) => ?_)
    · exact absurd h_3 (by decide)
    refine am_run 1 (pc' := 39) (ls' := [some (.ref 0), some (.int (nI 64))]) (st' := [.int (nI 0)]) (σ' := σ) rfl ?_
    refine am_retz rfl rfl (by decide) ?_
    exact h0 (by omega)
set_option maxRecDepth 10000 in
set_option maxHeartbeats 2000000 in
theorem c_m_isFull_126 {d : Nat} (hd : 1 ≤ d) {σ : am_M} {n kk : Nat} (h2 : σ.1 2 2 = nI n) (h3 : σ.1 3 2 = nI kk) (hn : n ≤ 60) (hk : kk ≤ 20) {Q : am_Q} (h1 : 60 ≤ n → Q (some (.int (nI 1))) σ) (h0 : ¬ (60 ≤ n) → Q (some (.int (nI 0))) σ) : am_C d 160 [.ref 0, .int (nI 126)] σ Q := by
  refine am_enter' (M := M_X10_isFull) rfl rfl rfl (by omega) (ls := [some (.ref 0), some (.int (nI 126))]) rfl (fun d' hd' => ?_)
  refine am_run 3 (pc' := 5) (ls' := [some (.ref 0), some (.int (nI 126))]) (st' := [.int (nI 2), .ref 2]) (σ' := σ) rfl ?_
  refine am_ialdN (n := 3) (v := nI n) rfl rfl rfl (by omega) h2 (by decide) ?_
  refine am_run 1 (pc' := 8) (ls' := [some (.ref 0), some (.int (nI 126))]) (st' := [.int (nI 60), .int (nI n)]) (σ' := σ) rfl ?_
  refine am_ic (ty := 34) (tn := 11) rfl (by decide) rfl rfl (fun (h_1 : nI n = nI 60) => ?_) (fun (h_1 : ¬ (nI n = nI 60)) => ?_)
  · have h_1 : n = 60 := (nI_eq (by omega) (by omega)).mp h_1
    refine am_run 2 (pc' := 39) (ls' := [some (.ref 0), some (.int (nI 126))]) (st' := [.int (nI 1)]) (σ' := σ) rfl ?_
    refine am_retz rfl rfl (by decide) ?_
    exact h1 (by omega)
  · have h_1 : ¬ (n = 60) := fun z => h_1 ((nI_eq (by omega) (by omega)).mpr z)
    refine am_run 2 (pc' := 14) (ls' := [some (.ref 0), some (.int (nI 126))]) (st' := [.int (nI 46), .int (nI 126)]) (σ' := σ) rfl ?_
    refine am_ic (ty := 23) (tn := 17) rfl (by decide) rfl rfl (fun (h_2 : nI 126 = nI 46) => ?_) (fun (h_2 : ¬ (nI 126 = nI 46)) => ?_)
    · exact absurd h_2 (by decide)
    refine am_run 2 (pc' := 20) (ls' := [some (.ref 0), some (.int (nI 126))]) (st' := [.int (nI 38), .int (nI 126)]) (σ' := σ) rfl ?_
    refine am_ic (ty := 23) (tn := 38) rfl (by decide) rfl rfl (fun (h_3 : nI 126 = nI 38) => ?_) (fun (h_3 : ¬ (nI 126 = nI 38)) => ?_)
    · exact absurd h_3 (by decide)
    refine am_run 1 (pc' := 39) (ls' := [some (.ref 0), some (.int (nI 126))]) (st' := [.int (nI 0)]) (σ' := σ) rfl ?_
    refine am_retz rfl rfl (by decide) ?_
    exact h0 (by omega)
set_option maxRecDepth 10000 in
set_option maxHeartbeats 2000000 in
theorem c_m_isFull_36 {d : Nat} (hd : 1 ≤ d) {σ : am_M} {n kk : Nat} (h2 : σ.1 2 2 = nI n) (h3 : σ.1 3 2 = nI kk) (hn : n ≤ 60) (hk : kk ≤ 20) {Q : am_Q} (h1 : 60 ≤ n → Q (some (.int (nI 1))) σ) (h0 : ¬ (60 ≤ n) → Q (some (.int (nI 0))) σ) : am_C d 160 [.ref 0, .int (nI 36)] σ Q := by
  refine am_enter' (M := M_X10_isFull) rfl rfl rfl (by omega) (ls := [some (.ref 0), some (.int (nI 36))]) rfl (fun d' hd' => ?_)
  refine am_run 3 (pc' := 5) (ls' := [some (.ref 0), some (.int (nI 36))]) (st' := [.int (nI 2), .ref 2]) (σ' := σ) rfl ?_
  refine am_ialdN (n := 3) (v := nI n) rfl rfl rfl (by omega) h2 (by decide) ?_
  refine am_run 1 (pc' := 8) (ls' := [some (.ref 0), some (.int (nI 36))]) (st' := [.int (nI 60), .int (nI n)]) (σ' := σ) rfl ?_
  refine am_ic (ty := 34) (tn := 11) rfl (by decide) rfl rfl (fun (h_1 : nI n = nI 60) => ?_) (fun (h_1 : ¬ (nI n = nI 60)) => ?_)
  · have h_1 : n = 60 := (nI_eq (by omega) (by omega)).mp h_1
    refine am_run 2 (pc' := 39) (ls' := [some (.ref 0), some (.int (nI 36))]) (st' := [.int (nI 1)]) (σ' := σ) rfl ?_
    refine am_retz rfl rfl (by decide) ?_
    exact h1 (by omega)
  · have h_1 : ¬ (n = 60) := fun z => h_1 ((nI_eq (by omega) (by omega)).mpr z)
    refine am_run 2 (pc' := 14) (ls' := [some (.ref 0), some (.int (nI 36))]) (st' := [.int (nI 46), .int (nI 36)]) (σ' := σ) rfl ?_
    refine am_ic (ty := 23) (tn := 17) rfl (by decide) rfl rfl (fun (h_2 : nI 36 = nI 46) => ?_) (fun (h_2 : ¬ (nI 36 = nI 46)) => ?_)
    · exact absurd h_2 (by decide)
    refine am_run 2 (pc' := 20) (ls' := [some (.ref 0), some (.int (nI 36))]) (st' := [.int (nI 38), .int (nI 36)]) (σ' := σ) rfl ?_
    refine am_ic (ty := 23) (tn := 38) rfl (by decide) rfl rfl (fun (h_3 : nI 36 = nI 38) => ?_) (fun (h_3 : ¬ (nI 36 = nI 38)) => ?_)
    · exact absurd h_3 (by decide)
    refine am_run 1 (pc' := 39) (ls' := [some (.ref 0), some (.int (nI 36))]) (st' := [.int (nI 0)]) (σ' := σ) rfl ?_
    refine am_retz rfl rfl (by decide) ?_
    exact h0 (by omega)
set_option maxRecDepth 10000 in
set_option maxHeartbeats 2000000 in
theorem c_m_isFull_59 {d : Nat} (hd : 1 ≤ d) {σ : am_M} {n kk : Nat} (h2 : σ.1 2 2 = nI n) (h3 : σ.1 3 2 = nI kk) (hn : n ≤ 60) (hk : kk ≤ 20) {Q : am_Q} (h1 : 60 ≤ n → Q (some (.int (nI 1))) σ) (h0 : ¬ (60 ≤ n) → Q (some (.int (nI 0))) σ) : am_C d 160 [.ref 0, .int (nI 59)] σ Q := by
  refine am_enter' (M := M_X10_isFull) rfl rfl rfl (by omega) (ls := [some (.ref 0), some (.int (nI 59))]) rfl (fun d' hd' => ?_)
  refine am_run 3 (pc' := 5) (ls' := [some (.ref 0), some (.int (nI 59))]) (st' := [.int (nI 2), .ref 2]) (σ' := σ) rfl ?_
  refine am_ialdN (n := 3) (v := nI n) rfl rfl rfl (by omega) h2 (by decide) ?_
  refine am_run 1 (pc' := 8) (ls' := [some (.ref 0), some (.int (nI 59))]) (st' := [.int (nI 60), .int (nI n)]) (σ' := σ) rfl ?_
  refine am_ic (ty := 34) (tn := 11) rfl (by decide) rfl rfl (fun (h_1 : nI n = nI 60) => ?_) (fun (h_1 : ¬ (nI n = nI 60)) => ?_)
  · have h_1 : n = 60 := (nI_eq (by omega) (by omega)).mp h_1
    refine am_run 2 (pc' := 39) (ls' := [some (.ref 0), some (.int (nI 59))]) (st' := [.int (nI 1)]) (σ' := σ) rfl ?_
    refine am_retz rfl rfl (by decide) ?_
    exact h1 (by omega)
  · have h_1 : ¬ (n = 60) := fun z => h_1 ((nI_eq (by omega) (by omega)).mpr z)
    refine am_run 2 (pc' := 14) (ls' := [some (.ref 0), some (.int (nI 59))]) (st' := [.int (nI 46), .int (nI 59)]) (σ' := σ) rfl ?_
    refine am_ic (ty := 23) (tn := 17) rfl (by decide) rfl rfl (fun (h_2 : nI 59 = nI 46) => ?_) (fun (h_2 : ¬ (nI 59 = nI 46)) => ?_)
    · exact absurd h_2 (by decide)
    refine am_run 2 (pc' := 20) (ls' := [some (.ref 0), some (.int (nI 59))]) (st' := [.int (nI 38), .int (nI 59)]) (σ' := σ) rfl ?_
    refine am_ic (ty := 23) (tn := 38) rfl (by decide) rfl rfl (fun (h_3 : nI 59 = nI 38) => ?_) (fun (h_3 : ¬ (nI 59 = nI 38)) => ?_)
    · exact absurd h_3 (by decide)
    refine am_run 1 (pc' := 39) (ls' := [some (.ref 0), some (.int (nI 59))]) (st' := [.int (nI 0)]) (σ' := σ) rfl ?_
    refine am_retz rfl rfl (by decide) ?_
    exact h0 (by omega)
set_option maxRecDepth 10000 in
set_option maxHeartbeats 2000000 in
theorem c_m_isFull_124 {d : Nat} (hd : 1 ≤ d) {σ : am_M} {n kk : Nat} (h2 : σ.1 2 2 = nI n) (h3 : σ.1 3 2 = nI kk) (hn : n ≤ 60) (hk : kk ≤ 20) {Q : am_Q} (h1 : 60 ≤ n → Q (some (.int (nI 1))) σ) (h0 : ¬ (60 ≤ n) → Q (some (.int (nI 0))) σ) : am_C d 160 [.ref 0, .int (nI 124)] σ Q := by
  refine am_enter' (M := M_X10_isFull) rfl rfl rfl (by omega) (ls := [some (.ref 0), some (.int (nI 124))]) rfl (fun d' hd' => ?_)
  refine am_run 3 (pc' := 5) (ls' := [some (.ref 0), some (.int (nI 124))]) (st' := [.int (nI 2), .ref 2]) (σ' := σ) rfl ?_
  refine am_ialdN (n := 3) (v := nI n) rfl rfl rfl (by omega) h2 (by decide) ?_
  refine am_run 1 (pc' := 8) (ls' := [some (.ref 0), some (.int (nI 124))]) (st' := [.int (nI 60), .int (nI n)]) (σ' := σ) rfl ?_
  refine am_ic (ty := 34) (tn := 11) rfl (by decide) rfl rfl (fun (h_1 : nI n = nI 60) => ?_) (fun (h_1 : ¬ (nI n = nI 60)) => ?_)
  · have h_1 : n = 60 := (nI_eq (by omega) (by omega)).mp h_1
    refine am_run 2 (pc' := 39) (ls' := [some (.ref 0), some (.int (nI 124))]) (st' := [.int (nI 1)]) (σ' := σ) rfl ?_
    refine am_retz rfl rfl (by decide) ?_
    exact h1 (by omega)
  · have h_1 : ¬ (n = 60) := fun z => h_1 ((nI_eq (by omega) (by omega)).mpr z)
    refine am_run 2 (pc' := 14) (ls' := [some (.ref 0), some (.int (nI 124))]) (st' := [.int (nI 46), .int (nI 124)]) (σ' := σ) rfl ?_
    refine am_ic (ty := 23) (tn := 17) rfl (by decide) rfl rfl (fun (h_2 : nI 124 = nI 46) => ?_) (fun (h_2 : ¬ (nI 124 = nI 46)) => ?_)
    · exact absurd h_2 (by decide)
    refine am_run 2 (pc' := 20) (ls' := [some (.ref 0), some (.int (nI 124))]) (st' := [.int (nI 38), .int (nI 124)]) (σ' := σ) rfl ?_
    refine am_ic (ty := 23) (tn := 38) rfl (by decide) rfl rfl (fun (h_3 : nI 124 = nI 38) => ?_) (fun (h_3 : ¬ (nI 124 = nI 38)) => ?_)
    · exact absurd h_3 (by decide)
    refine am_run 1 (pc' := 39) (ls' := [some (.ref 0), some (.int (nI 124))]) (st' := [.int (nI 0)]) (σ' := σ) rfl ?_
    refine am_retz rfl rfl (by decide) ?_
    exact h0 (by omega)

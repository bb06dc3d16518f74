def ROOT (σ : am_M) (t x : Nat) : Prop := σ.1 t 10 = oI x
theorem c_root {d : Nat} (hd : 1 ≤ d) {σ : am_M} {t n x : Nat} {p : Pg} (hR : TR σ t p n) (hr : ROOT σ t x) {Q : am_Q} (hq : Q (some (.int (oI x))) σ) : am_C d 104 [.ref t] σ Q := by
  refine am_enter' (M := M_X8_root) rfl rfl rfl (by omega) (ls := [some (.ref t)]) rfl (fun d' hd' => ?_)
  refine am_run 1 (pc' := 1) (ls' := [some (.ref t)]) (st' := [.ref t]) (σ' := σ) rfl ?_
  refine am_getI (k := 10) rfl rfl (TR_kind hR) rfl ?_
  refine am_reti rfl rfl ?_
  rw [hr]
  exact hq
theorem oc_kind {o : Nat} (h : o = 77 ∨ o = 78) : am_kind o = 1 := by rcases h with rfl | rfl <;> rfl
set_option maxRecDepth 10000 in
set_option maxHeartbeats 2000000 in
theorem c_a_ofProgram {d : Nat} (hd : 312 ≤ d) {σ : am_M} {t n x : Nat} {p : Pg} (hW : PW p n) (hR : TR σ t p n) (hx : x ≤ n) (hr : ROOT σ t x) {s P A : Nat} (hs : s ≤ 1048576) (hP : P < 256) (hA : A < 256) {Q : am_Q} (hq : ∀ r, an p 61 x s true P A = r → ok4 r → Q (some (.int (nI (eC r)))) σ) : am_C d 0 [.ref t, .int (nI s), .int (nI (P + 256 * A))] σ Q := by
  refine am_enter' (M := M_X0_ofProgram) rfl rfl rfl (by omega) (ls := [some (.ref t), some (.int (nI s)), some (.int (nI (P + 256 * A)))]) rfl (fun d' hd' => ?_)
  refine am_run 2 (pc' := 2) (ls' := [some (.ref t), some (.int (nI s)), some (.int (nI (P + 256 * A)))]) (st' := [.ref t, .ref t]) (σ' := σ) rfl ?_
  refine am_invv (y := 104) (b := t) (as := []) (rest := [.ref t]) rfl rfl rfl rfl rfl rfl (TR_kind hR) (Nat.le_of_ble_eq_true rfl) ?_
  refine c_root (by omega) hR hr ?_
  show am_G _ M_X0_ofProgram _ 5 [some (.ref t), some (.int (nI s)), some (.int (nI (P + 256 * A)))] [.int (oI x), .ref t] σ
  refine am_run 4 (pc' := 9) (ls' := [some (.ref t), some (.int (nI s)), some (.int (nI (P + 256 * A)))]) (st' := [.int (nI 0), .int (nI (P + 256 * A)), .int (nI 1), .int (nI s), .int (oI x), .ref t]) (σ' := σ) rfl ?_
  refine am_invs (y := 11) (as := [.ref t, .int (oI x), .int (nI s), .int (nI 1), .int (nI (P + 256 * A)), .int (nI 0)]) (rest := []) rfl rfl rfl rfl rfl rfl (Nat.le_of_ble_eq_true rfl) ?_
  refine c_analyse hW hR 61 0 rfl _ (by omega) x s true P A _ hx hs hP hA (fun r1 hr1 ok1 => ?_)
  show am_G _ M_X0_ofProgram _ 12 [some (.ref t), some (.int (nI s)), some (.int (nI (P + 256 * A)))] [.int (nI (eC r1))] σ
  refine am_reti rfl rfl ?_
  exact hq r1 hr1 ok1
set_option maxRecDepth 10000 in
set_option maxHeartbeats 2000000 in
theorem c_a_inst {d : Nat} (hd : 312 ≤ d) {σ : am_M} {t n x : Nat} {p : Pg} (hW : PW p n) (hR : TR σ t p n) (hx : x ≤ n) {Q : am_Q} (hq : Q (some (.int (nI (an p 61 x ST false 0 0).2.2.2))) σ) : am_C d 1 [.ref t, .int (oI x)] σ Q := by
  refine am_enter' (M := M_X0_instantaneousCodes) rfl rfl rfl (by omega) (ls := [some (.ref t), some (.int (oI x))]) rfl (fun d' hd' => ?_)
  refine am_run 6 (pc' := 7) (ls' := [some (.ref t), some (.int (oI x))]) (st' := [.int (nI 0), .int (nI 0), .int (nI 0), .int (nI 1048576), .int (oI x), .ref t]) (σ' := σ) rfl ?_
  refine am_invs (y := 11) (as := [.ref t, .int (oI x), .int (nI 1048576), .int (nI 0), .int (nI 0), .int (nI 0)]) (rest := []) rfl rfl rfl rfl rfl rfl (Nat.le_of_ble_eq_true rfl) ?_
  refine c_analyse hW hR 61 0 rfl _ (by omega) x ST false 0 0 _ hx (by decide) (by decide) (by decide) (fun r1 hr1 ok1 => ?_)
  show am_G _ M_X0_instantaneousCodes _ 10 [some (.ref t), some (.int (oI x))] [.int (nI (eC r1))] σ
  refine am_invs (y := 4) (as := [.int (nI (eC r1))]) (rest := []) rfl rfl rfl rfl rfl rfl (Nat.le_of_ble_eq_true rfl) ?_
  refine c_a_can (by omega) (r := r1) ok1 ?_
  show am_G _ M_X0_instantaneousCodes _ 13 [some (.ref t), some (.int (oI x))] [.int (nI (r1.2.1 + 256 * r1.2.2.2))] σ
  refine am_invs (y := 6) (as := [.int (nI (r1.2.1 + 256 * r1.2.2.2))]) (rest := []) rfl rfl rfl rfl rfl rfl (Nat.le_of_ble_eq_true rfl) ?_
  refine c_a_codes (by omega) (m := r1.2.1) (k := r1.2.2.2) ok1.2.1 ok1.2.2.2 ?_
  show am_G _ M_X0_instantaneousCodes _ 16 [some (.ref t), some (.int (oI x))] [.int (nI r1.2.2.2)] σ
  refine am_reti rfl rfl ?_
  rw [hr1] at hq
  exact hq
set_option maxRecDepth 10000 in
set_option maxHeartbeats 2000000 in
theorem c_x_ofProgram {d : Nat} (hd : 504 ≤ d) {σ : am_M} {t n x : Nat} {p : Pg} (hW : PW p n) (hR : TR σ t p n) (hx : x ≤ n) (hr : ROOT σ t x) {s P : Nat} (hs : s ≤ 1048576) (hP : P < 256) {Q : am_Q} (hqn : ex p 61 x s P = none → Q (some (.int (-1))) σ) (hqs : ∀ c q, ex p 61 x s P = some (c, q) → c ≤ 6 → q < 1048576 → Q (some (.int (nI (c * 1048576 + q)))) σ) : am_C d 37 [.ref t, .int (nI s), .int (nI P)] σ Q := by
  refine am_enter' (M := M_X2_ofProgram) rfl rfl rfl (by omega) (ls := [some (.ref t), some (.int (nI s)), some (.int (nI P))]) rfl (fun d' hd' => ?_)
  refine am_run 2 (pc' := 2) (ls' := [some (.ref t), some (.int (nI s)), some (.int (nI P))]) (st' := [.ref t, .ref t]) (σ' := σ) rfl ?_
  refine am_invv (y := 104) (b := t) (as := []) (rest := [.ref t]) rfl rfl rfl rfl rfl rfl (TR_kind hR) (Nat.le_of_ble_eq_true rfl) ?_
  refine c_root (by omega) hR hr ?_
  show am_G _ M_X2_ofProgram _ 5 [some (.ref t), some (.int (nI s)), some (.int (nI P))] [.int (oI x), .ref t] σ
  refine am_run 3 (pc' := 8) (ls' := [some (.ref t), some (.int (nI s)), some (.int (nI P))]) (st' := [.int (nI 0), .int (nI P), .int (nI s), .int (oI x), .ref t]) (σ' := σ) rfl ?_
  refine am_invs (y := 41) (as := [.ref t, .int (oI x), .int (nI s), .int (nI P), .int (nI 0)]) (rest := []) rfl rfl rfl rfl rfl rfl (Nat.le_of_ble_eq_true rfl) ?_
  refine c_execute hW hR 61 0 rfl _ (by omega) x s P _ hx hs hP (fun he1 => ?_) (fun c1 q1 he1 hc1 hq1 hz1 => ?_)
  · show am_G _ M_X2_ofProgram _ 11 [some (.ref t), some (.int (nI s)), some (.int (nI P))] [.int (-1)] σ
    refine am_reti rfl rfl ?_
    exact hqn he1
  · show am_G _ M_X2_ofProgram _ 11 [some (.ref t), some (.int (nI s)), some (.int (nI P))] [.int (nI (c1 * 1048576 + q1))] σ
    refine am_reti rfl rfl ?_
    exact hqs c1 q1 he1 hc1 hq1
set_option maxRecDepth 10000 in
set_option maxHeartbeats 2000000 in
theorem c_o_present {d : Nat} (hd : 1 ≤ d) {σ : am_M} {o P A : Nat} (ho : o = 77 ∨ o = 78) (hP : P < 256) (hK : σ.1 o 0 = nI (P + 256 * A)) {Q : am_Q} (hq : Q (some (.int (nI P))) σ) : am_C d 50 [.ref o] σ Q := by
  refine am_enter' (M := M_X3_present) rfl rfl rfl (by omega) (ls := [some (.ref o)]) rfl (fun d' hd' => ?_)
  refine am_run 1 (pc' := 1) (ls' := [some (.ref o)]) (st' := [.ref o]) (σ' := σ) rfl ?_
  refine am_getI (k := 0) rfl rfl (oc_kind ho) rfl ?_
  refine am_top (v' := nI (P + 256 * A)) hK ?_
  refine am_run 2 (pc' := 8) (ls' := [some (.ref o)]) (st' := [.int (nI (P + 256 * A) &&& nI 255)]) (σ' := σ) rfl ?_
  refine am_top (v' := nI P) (pq_lo hP) ?_
  refine am_reti rfl rfl ?_
  exact hq
/-- the loop of rounds -/
def SL (d : Nat) (σ : am_M) (o t s : Nat) (p : Pg) (x : Nat) (Q : am_Q) (m j ch P A r : Nat) : Prop := ∀ (σ' : am_M) (v5 v6 v7 v8 : Option Value), Kc σ σ' o → σ'.1 o 0 = nI (P + 256 * A) → σ'.1 o 4 = nI r → σ'.1 o 2 = σ.1 o 2 → σ'.1 o 3 = σ.1 o 3 →
  am_G d M_X3_settle Q 5 [some (.ref o), some (.ref t), some (.int (nI s)), some (.int (nI ch)), some (.int (nI j)), v5, v6, v7, v8] [] σ'
set_option maxRecDepth 10000 in
set_option maxHeartbeats 2000000 in
theorem c_settle_exit {d : Nat} (hd : 400 ≤ d) {σ' : am_M} {o t s j ch P A : Nat} (ho : o = 77 ∨ o = 78) (hP : P < 256) (hA : A < 256) (hj : j ≤ 9) (hch : ch ≤ 1) (he : j = 9 ∨ ch = 0) (hK : σ'.1 o 0 = nI (P + 256 * A)) {v5 v6 v7 v8 : Option Value} {Q : am_Q} (hq : Q none (am_wr σ' o 1 (nI (dn 255 (P ||| A))))) : am_G d M_X3_settle Q 5 [some (.ref o), some (.ref t), some (.int (nI s)), some (.int (nI ch)), some (.int (nI j)), v5, v6, v7, v8] [] σ' := by
  refine am_run 2 (pc' := 9) (ls' := [some (.ref o), some (.ref t), some (.int (nI s)), some (.int (nI ch)), some (.int (nI j)), v5, v6, v7, v8]) (st' := [.int (nI 9), .int (nI j)]) (σ' := σ') rfl ?_
  refine am_ic (ty := 12) (tn := 111) rfl (by decide) rfl rfl (fun (h_1 : nI j < nI 9) => ?_) (fun (h_1 : ¬ (nI j < nI 9)) => ?_)
  · have h_1 : j < 9 := (nI_ltI (by omega) (by omega)).mp h_1
    refine am_run 1 (pc' := 13) (ls' := [some (.ref o), some (.ref t), some (.int (nI s)), some (.int (nI ch)), some (.int (nI j)), v5, v6, v7, v8]) (st' := [.int (nI ch)]) (σ' := σ') rfl ?_
    refine am_if (ty := 111) (tn := 16) rfl (by decide) rfl rfl (fun (h_2 : nI ch = 0) => ?_) (fun (h_2 : ¬ (nI ch = 0)) => ?_)
    rotate_left
    · have h_2 : ¬ (ch = 0) := fun z => h_2 ((am_n0 (by omega)).mpr z)
      omega
    have h_2 : ch = 0 := (am_n0 (by omega)).mp h_2
    refine am_run 3 (pc' := 116) (ls' := [some (.ref o), some (.ref t), some (.int (nI s)), some (.int (nI ch)), some (.int (nI j)), v5, v6, v7, v8]) (st' := [.ref o, .int (nI 255), .ref o]) (σ' := σ') rfl ?_
    refine am_getI (k := 0) rfl rfl (oc_kind ho) rfl ?_
    refine am_top (v' := nI (P + 256 * A)) hK ?_
    refine am_run 1 (pc' := 120) (ls' := [some (.ref o), some (.ref t), some (.int (nI s)), some (.int (nI ch)), some (.int (nI j)), v5, v6, v7, v8]) (st' := [.ref o, .int (nI (P + 256 * A)), .int (nI 255), .ref o]) (σ' := σ') rfl ?_
    refine am_getI (k := 0) rfl rfl (oc_kind ho) rfl ?_
    refine am_top (v' := nI (P + 256 * A)) hK ?_
    refine am_run 2 (pc' := 126) (ls' := [some (.ref o), some (.ref t), some (.int (nI s)), some (.int (nI ch)), some (.int (nI j)), v5, v6, v7, v8]) (st' := [.int ((nI (P + 256 * A)) >>> ((nI 8) &&& 31)), .int (nI (P + 256 * A)), .int (nI 255), .ref o]) (σ' := σ') rfl ?_
    refine am_top (v' := nI A) (pq_hi hP (by omega)) ?_
    refine am_run 1 (pc' := 127) (ls' := [some (.ref o), some (.ref t), some (.int (nI s)), some (.int (nI ch)), some (.int (nI j)), v5, v6, v7, v8]) (st' := [.int (nI (P + 256 * A) ||| nI A), .int (nI 255), .ref o]) (σ' := σ') rfl ?_
    refine am_top (v' := nI ((P ||| A) + 256 * A)) ((pq_orI (b := A) (c := A) (d := 0) hP hA).trans (by rw [Nat.or_zero])) ?_
    refine am_run 3 (pc' := 130) (ls' := [some (.ref o), some (.ref t), some (.int (nI s)), some (.int (nI ch)), some (.int (nI j)), v5, v6, v7, v8]) (st' := [.int (nI 255 &&& (nI ((P ||| A) + 256 * A) ^^^ (-1))), .ref o]) (σ' := σ') rfl ?_
    refine am_top (v' := nI (dn 255 (P ||| A))) (by rw [nx_dn, dn255 (or_lt8 hP hA)]) ?_
    refine am_putI (k := 1) rfl rfl (oc_kind ho) rfl ?_
    refine am_retv rfl rfl ?_
    exact hq
  · have h_1 : ¬ (j < 9) := fun z => h_1 ((nI_ltI (by omega) (by omega)).mpr z)
    refine am_run 3 (pc' := 116) (ls' := [some (.ref o), some (.ref t), some (.int (nI s)), some (.int (nI ch)), some (.int (nI j)), v5, v6, v7, v8]) (st' := [.ref o, .int (nI 255), .ref o]) (σ' := σ') rfl ?_
    refine am_getI (k := 0) rfl rfl (oc_kind ho) rfl ?_
    refine am_top (v' := nI (P + 256 * A)) hK ?_
    refine am_run 1 (pc' := 120) (ls' := [some (.ref o), some (.ref t), some (.int (nI s)), some (.int (nI ch)), some (.int (nI j)), v5, v6, v7, v8]) (st' := [.ref o, .int (nI (P + 256 * A)), .int (nI 255), .ref o]) (σ' := σ') rfl ?_
    refine am_getI (k := 0) rfl rfl (oc_kind ho) rfl ?_
    refine am_top (v' := nI (P + 256 * A)) hK ?_
    refine am_run 2 (pc' := 126) (ls' := [some (.ref o), some (.ref t), some (.int (nI s)), some (.int (nI ch)), some (.int (nI j)), v5, v6, v7, v8]) (st' := [.int ((nI (P + 256 * A)) >>> ((nI 8) &&& 31)), .int (nI (P + 256 * A)), .int (nI 255), .ref o]) (σ' := σ') rfl ?_
    refine am_top (v' := nI A) (pq_hi hP (by omega)) ?_
    refine am_run 1 (pc' := 127) (ls' := [some (.ref o), some (.ref t), some (.int (nI s)), some (.int (nI ch)), some (.int (nI j)), v5, v6, v7, v8]) (st' := [.int (nI (P + 256 * A) ||| nI A), .int (nI 255), .ref o]) (σ' := σ') rfl ?_
    refine am_top (v' := nI ((P ||| A) + 256 * A)) ((pq_orI (b := A) (c := A) (d := 0) hP hA).trans (by rw [Nat.or_zero])) ?_
    refine am_run 3 (pc' := 130) (ls' := [some (.ref o), some (.ref t), some (.int (nI s)), some (.int (nI ch)), some (.int (nI j)), v5, v6, v7, v8]) (st' := [.int (nI 255 &&& (nI ((P ||| A) + 256 * A) ^^^ (-1))), .ref o]) (σ' := σ') rfl ?_
    refine am_top (v' := nI (dn 255 (P ||| A))) (by rw [nx_dn, dn255 (or_lt8 hP hA)]) ?_
    refine am_putI (k := 1) rfl rfl (oc_kind ho) rfl ?_
    refine am_retv rfl rfl ?_
    exact hq
set_option maxRecDepth 10000 in
set_option maxHeartbeats 2000000 in
theorem c_settle_loop {d : Nat} (hd : 400 ≤ d) {σ : am_M} {o t n x s : Nat} {p : Pg} (hW : PW p n) (hR : TR σ t p n) (hx : x ≤ n) (hroot : ROOT σ t x) (ho : o = 77 ∨ o = 78) (hs : s ≤ 1048576) {Q : am_Q} : ∀ (m j P A r : Nat), j + m = 9 → P < 256 → A < 256 → r + m ≤ 1000 → (∀ σ2 : am_M, Kc σ σ2 o → σ2.1 o 0 = nI ((stl p x s m P A).1 + 256 * (stl p x s m P A).2.1) → σ2.1 o 1 = nI (dn 255 ((stl p x s m P A).1 ||| (stl p x s m P A).2.1)) → σ2.1 o 2 = σ.1 o 2 → σ2.1 o 3 = σ.1 o 3 → σ2.1 o 4 = nI (r + (stl p x s m P A).2.2) → Q none σ2) → SL d σ o t s p x Q m j 1 P A r
  | 0, j, P, A, r, hj, hP, hA, hrm, hq => by
    intro σ' v5 v6 v7 v8 hk hK hr4 h2 h3
    refine c_settle_exit hd ho hP hA (by omega) (by decide) (Or.inl (by omega)) hK ?_
    refine hq _ (hk.wr _ _) ?_ ?_ ?_ ?_ ?_
    · rw [am_diff _ _ _ _ _ (by decide)]; exact hK
    · rw [am_same]; rfl
    · rw [am_diff _ _ _ _ _ (by decide)]; exact h2
    · rw [am_diff _ _ _ _ _ (by decide)]; exact h3
    · rw [am_diff _ _ _ _ _ (by decide)]; exact hr4
  | m + 1, j, P, A, r, hj, hP, hA, hrm, hq => by
    intro σ' v5 v6 v7 v8 hk hK hr4 h2 h3
    have hR1 : TR σ' t p n := hk.TR ho hR
    have hr1 : ROOT σ' t x := by unfold ROOT; rw [hk.1 t (by have := hR.1; omega)]; exact hroot
    refine am_run 2 (pc' := 9) (ls' := [some (.ref o), some (.ref t), some (.int (nI s)), some (.int (nI 1)), some (.int (nI j)), v5, v6, v7, v8]) (st' := [.int (nI 9), .int (nI j)]) (σ' := σ') rfl ?_
    refine am_ic (ty := 12) (tn := 111) rfl (by decide) rfl rfl (fun (h_1 : nI j < nI 9) => ?_) (fun (h_1 : ¬ (nI j < nI 9)) => ?_)
    rotate_left
    · have h_1 : ¬ (j < 9) := fun z => h_1 ((nI_ltI (by omega) (by omega)).mpr z)
      omega
    have h_1 : j < 9 := (nI_ltI (by omega) (by omega)).mp h_1
    refine am_run 1 (pc' := 13) (ls' := [some (.ref o), some (.ref t), some (.int (nI s)), some (.int (nI 1)), some (.int (nI j)), v5, v6, v7, v8]) (st' := [.int (nI 1)]) (σ' := σ') rfl ?_
    refine am_if (ty := 111) (tn := 16) rfl (by decide) rfl rfl (fun (h_2 : nI 1 = 0) => ?_) (fun (h_2 : ¬ (nI 1 = 0)) => ?_)
    · exact absurd h_2 (by decide)
    refine am_run 3 (pc' := 19) (ls' := [some (.ref o), some (.ref t), some (.int (nI s)), some (.int (nI 1)), some (.int (nI j)), v5, v6, v7, v8]) (st' := [.ref o, .int (nI s), .ref t]) (σ' := σ') rfl ?_
    refine am_getI (k := 0) rfl rfl (oc_kind ho) rfl ?_
    refine am_top (v' := nI (P + 256 * A)) hK ?_
    refine am_invs (y := 0) (as := [.ref t, .int (nI s), .int (nI (P + 256 * A))]) (rest := []) rfl rfl rfl rfl rfl rfl (Nat.le_of_ble_eq_true rfl) ?_
    refine c_a_ofProgram (by omega) hW hR1 hx hr1 hs hP hA (fun r1 hr1 ok1 => ?_)
    obtain ⟨ok1a, ok1b, ok1c, ok1d⟩ := id ok1
    have hb1 : P ||| r1.1 < 256 := or_lt8 hP ok1a
    have hb2 : A ||| dn (dn 255 r1.2.1) (P ||| r1.1) < 256 := or_lt8 hA (dn_lt (dn_lt (by decide)))
    show am_G _ M_X3_settle _ 25 [some (.ref o), some (.ref t), some (.int (nI s)), some (.int (nI 1)), some (.int (nI j)), v5, v6, v7, v8] [.int (nI (eC r1))] σ'
    refine am_run 2 (pc' := 28) (ls' := [some (.ref o), some (.ref t), some (.int (nI s)), some (.int (nI 1)), some (.int (nI j)), some (.int (nI (eC r1))), v6, v7, v8]) (st' := [.ref o]) (σ' := σ') rfl ?_
    refine am_invv (y := 50) (b := o) (as := []) (rest := []) rfl rfl rfl rfl rfl rfl (oc_kind ho) (Nat.le_of_ble_eq_true rfl) ?_
    refine c_o_present (by omega) ho hP hK ?_
    show am_G _ M_X3_settle _ 31 [some (.ref o), some (.ref t), some (.int (nI s)), some (.int (nI 1)), some (.int (nI j)), some (.int (nI (eC r1))), v6, v7, v8] [.int (nI P)] σ'
    refine am_run 1 (pc' := 33) (ls' := [some (.ref o), some (.ref t), some (.int (nI s)), some (.int (nI 1)), some (.int (nI j)), some (.int (nI (eC r1))), v6, v7, v8]) (st' := [.int (nI (eC r1)), .int (nI P)]) (σ' := σ') rfl ?_
    refine am_invs (y := 3) (as := [.int (nI (eC r1))]) (rest := [.int (nI P)]) rfl rfl rfl rfl rfl rfl (Nat.le_of_ble_eq_true rfl) ?_
    refine c_a_must (by omega) (r := r1) ok1 ?_
    show am_G _ M_X3_settle _ 36 [some (.ref o), some (.ref t), some (.int (nI s)), some (.int (nI 1)), some (.int (nI j)), some (.int (nI (eC r1))), v6, v7, v8] [.int (nI (r1.1 + 256 * r1.2.2.1)), .int (nI P)] σ'
    refine am_invs (y := 5) (as := [.int (nI (r1.1 + 256 * r1.2.2.1))]) (rest := [.int (nI P)]) rfl rfl rfl rfl rfl rfl (Nat.le_of_ble_eq_true rfl) ?_
    refine c_a_signals (by omega) (m := r1.1) (k := r1.2.2.1) ok1a ?_
    show am_G _ M_X3_settle _ 39 [some (.ref o), some (.ref t), some (.int (nI s)), some (.int (nI 1)), some (.int (nI j)), some (.int (nI (eC r1))), v6, v7, v8] [.int (nI r1.1), .int (nI P)] σ'
    refine am_run 1 (pc' := 40) (ls' := [some (.ref o), some (.ref t), some (.int (nI s)), some (.int (nI 1)), some (.int (nI j)), some (.int (nI (eC r1))), v6, v7, v8]) (st' := [.int (nI P ||| nI r1.1)]) (σ' := σ') rfl ?_
    refine am_top (v' := nI (P ||| r1.1)) (nx_or _ _) ?_
    refine am_run 3 (pc' := 47) (ls' := [some (.ref o), some (.ref t), some (.int (nI s)), some (.int (nI 1)), some (.int (nI j)), some (.int (nI (eC r1))), some (.int (nI (P ||| r1.1))), v7, v8]) (st' := [.int (nI (eC r1)), .int (nI 255)]) (σ' := σ') rfl ?_
    refine am_invs (y := 4) (as := [.int (nI (eC r1))]) (rest := [.int (nI 255)]) rfl rfl rfl rfl rfl rfl (Nat.le_of_ble_eq_true rfl) ?_
    refine c_a_can (by omega) (r := r1) ok1 ?_
    show am_G _ M_X3_settle _ 50 [some (.ref o), some (.ref t), some (.int (nI s)), some (.int (nI 1)), some (.int (nI j)), some (.int (nI (eC r1))), some (.int (nI (P ||| r1.1))), v7, v8] [.int (nI (r1.2.1 + 256 * r1.2.2.2)), .int (nI 255)] σ'
    refine am_run 3 (pc' := 53) (ls' := [some (.ref o), some (.ref t), some (.int (nI s)), some (.int (nI 1)), some (.int (nI j)), some (.int (nI (eC r1))), some (.int (nI (P ||| r1.1))), v7, v8]) (st' := [.int (nI 255 &&& (nI (r1.2.1 + 256 * r1.2.2.2) ^^^ (-1)))]) (σ' := σ') rfl ?_
    refine am_top (v' := nI (dn 255 r1.2.1)) (by rw [nx_dn, dn255 ok1b]) ?_
    refine am_run 4 (pc' := 58) (ls' := [some (.ref o), some (.ref t), some (.int (nI s)), some (.int (nI 1)), some (.int (nI j)), some (.int (nI (eC r1))), some (.int (nI (P ||| r1.1))), v7, v8]) (st' := [.int (nI (dn 255 r1.2.1) &&& (nI (P ||| r1.1) ^^^ (-1)))]) (σ' := σ') rfl ?_
    refine am_top (v' := nI (dn (dn 255 r1.2.1) (P ||| r1.1))) (nx_dn _ _) ?_
    refine am_run 2 (pc' := 61) (ls' := [some (.ref o), some (.ref t), some (.int (nI s)), some (.int (nI 1)), some (.int (nI j)), some (.int (nI (eC r1))), some (.int (nI (P ||| r1.1))), some (.int (nI (dn (dn 255 r1.2.1) (P ||| r1.1)))), v8]) (st' := [.ref o]) (σ' := σ') rfl ?_
    refine am_getI (k := 0) rfl rfl (oc_kind ho) rfl ?_
    refine am_top (v' := nI (P + 256 * A)) hK ?_
    refine am_run 2 (pc' := 68) (ls' := [some (.ref o), some (.ref t), some (.int (nI s)), some (.int (nI 1)), some (.int (nI j)), some (.int (nI (eC r1))), some (.int (nI (P ||| r1.1))), some (.int (nI (dn (dn 255 r1.2.1) (P ||| r1.1)))), v8]) (st' := [.int (nI (dn (dn 255 r1.2.1) (P ||| r1.1))), .int (nI (P ||| r1.1)), .int (nI (P + 256 * A))]) (σ' := σ') rfl ?_
    refine am_invs (y := 2) (as := [.int (nI (P ||| r1.1)), .int (nI (dn (dn 255 r1.2.1) (P ||| r1.1)))]) (rest := [.int (nI (P + 256 * A))]) rfl rfl rfl rfl rfl rfl (Nat.le_of_ble_eq_true rfl) ?_
    refine c_a_knowledge (by omega) (a := P ||| r1.1) (b := dn (dn 255 r1.2.1) (P ||| r1.1)) (or_lt8 hP ok1a) ?_
    show am_G _ M_X3_settle _ 71 [some (.ref o), some (.ref t), some (.int (nI s)), some (.int (nI 1)), some (.int (nI j)), some (.int (nI (eC r1))), some (.int (nI (P ||| r1.1))), some (.int (nI (dn (dn 255 r1.2.1) (P ||| r1.1)))), v8] [.int (nI ((P ||| r1.1) + 256 * dn (dn 255 r1.2.1) (P ||| r1.1))), .int (nI (P + 256 * A))] σ'
    refine am_run 1 (pc' := 72) (ls' := [some (.ref o), some (.ref t), some (.int (nI s)), some (.int (nI 1)), some (.int (nI j)), some (.int (nI (eC r1))), some (.int (nI (P ||| r1.1))), some (.int (nI (dn (dn 255 r1.2.1) (P ||| r1.1)))), v8]) (st' := [.int (nI (P + 256 * A) ||| nI ((P ||| r1.1) + 256 * dn (dn 255 r1.2.1) (P ||| r1.1)))]) (σ' := σ') rfl ?_
    refine am_top (v' := nI ((P ||| r1.1) + 256 * (A ||| dn (dn 255 r1.2.1) (P ||| r1.1)))) (by rw [pq_orI hP (or_lt8 hP ok1a), ← Nat.or_assoc, Nat.or_self]) ?_
    refine am_run 3 (pc' := 77) (ls' := [some (.ref o), some (.ref t), some (.int (nI s)), some (.int (nI 1)), some (.int (nI j)), some (.int (nI (eC r1))), some (.int (nI (P ||| r1.1))), some (.int (nI (dn (dn 255 r1.2.1) (P ||| r1.1)))), some (.int (nI ((P ||| r1.1) + 256 * (A ||| dn (dn 255 r1.2.1) (P ||| r1.1)))))]) (st' := [.ref o, .int (nI ((P ||| r1.1) + 256 * (A ||| dn (dn 255 r1.2.1) (P ||| r1.1))))]) (σ' := σ') rfl ?_
    refine am_getI (k := 0) rfl rfl (oc_kind ho) rfl ?_
    refine am_top (v' := nI (P + 256 * A)) hK ?_
    refine am_ic (ty := 87) (tn := 83) rfl (by decide) rfl rfl (fun (h_3 : nI ((P ||| r1.1) + 256 * (A ||| dn (dn 255 r1.2.1) (P ||| r1.1))) = nI (P + 256 * A)) => ?_) (fun (h_3 : ¬ (nI ((P ||| r1.1) + 256 * (A ||| dn (dn 255 r1.2.1) (P ||| r1.1))) = nI (P + 256 * A))) => ?_)
    · have h_3 : (P ||| r1.1) + 256 * (A ||| dn (dn 255 r1.2.1) (P ||| r1.1)) = P + 256 * A := (nI_eq (by omega) (by omega)).mp h_3
      refine am_run 4 (pc' := 92) (ls' := [some (.ref o), some (.ref t), some (.int (nI s)), some (.int (nI 0)), some (.int (nI j)), some (.int (nI (eC r1))), some (.int (nI (P ||| r1.1))), some (.int (nI (dn (dn 255 r1.2.1) (P ||| r1.1)))), some (.int (nI ((P ||| r1.1) + 256 * (A ||| dn (dn 255 r1.2.1) (P ||| r1.1)))))]) (st' := [.int (nI ((P ||| r1.1) + 256 * (A ||| dn (dn 255 r1.2.1) (P ||| r1.1)))), .ref o]) (σ' := σ') rfl ?_
      refine am_putI (k := 0) rfl rfl (oc_kind ho) rfl ?_
      refine am_run 2 (pc' := 97) (ls' := [some (.ref o), some (.ref t), some (.int (nI s)), some (.int (nI 0)), some (.int (nI j)), some (.int (nI (eC r1))), some (.int (nI (P ||| r1.1))), some (.int (nI (dn (dn 255 r1.2.1) (P ||| r1.1)))), some (.int (nI ((P ||| r1.1) + 256 * (A ||| dn (dn 255 r1.2.1) (P ||| r1.1)))))]) (st' := [.ref o, .ref o]) (σ' := (am_wr σ' o 0 (nI ((P ||| r1.1) + 256 * (A ||| dn (dn 255 r1.2.1) (P ||| r1.1)))))) rfl ?_
      refine am_getI (k := 4) rfl rfl (oc_kind ho) rfl ?_
      refine am_top (v' := nI r) (by rw [am_diff _ _ _ _ _ (by decide)]; exact hr4) ?_
      refine am_run 2 (pc' := 102) (ls' := [some (.ref o), some (.ref t), some (.int (nI s)), some (.int (nI 0)), some (.int (nI j)), some (.int (nI (eC r1))), some (.int (nI (P ||| r1.1))), some (.int (nI (dn (dn 255 r1.2.1) (P ||| r1.1)))), some (.int (nI ((P ||| r1.1) + 256 * (A ||| dn (dn 255 r1.2.1) (P ||| r1.1)))))]) (st' := [.int (nI r + nI 1), .ref o]) (σ' := (am_wr σ' o 0 (nI ((P ||| r1.1) + 256 * (A ||| dn (dn 255 r1.2.1) (P ||| r1.1)))))) rfl ?_
      refine am_top (v' := nI (r + 1)) (nI_add _ _) ?_
      refine am_putI (k := 4) rfl rfl (oc_kind ho) rfl ?_
      refine am_run 1 (pc' := 108) (ls' := [some (.ref o), some (.ref t), some (.int (nI s)), some (.int (nI 0)), some (.int (nI j + nI 1)), some (.int (nI (eC r1))), some (.int (nI (P ||| r1.1))), some (.int (nI (dn (dn 255 r1.2.1) (P ||| r1.1)))), some (.int (nI ((P ||| r1.1) + 256 * (A ||| dn (dn 255 r1.2.1) (P ||| r1.1)))))]) (st' := []) (σ' := (am_wr (am_wr σ' o 0 (nI ((P ||| r1.1) + 256 * (A ||| dn (dn 255 r1.2.1) (P ||| r1.1))))) o 4 (nI (r + 1)))) rfl ?_
      refine am_ls (ls' := [some (.ref o), some (.ref t), some (.int (nI s)), some (.int (nI 0)), some (.int (nI (j + 1))), some (.int (nI (eC r1))), some (.int (nI (P ||| r1.1))), some (.int (nI (dn (dn 255 r1.2.1) (P ||| r1.1)))), some (.int (nI ((P ||| r1.1) + 256 * (A ||| dn (dn 255 r1.2.1) (P ||| r1.1)))))]) (by rw [nI_add]) ?_
      refine am_run 1 (pc' := 5) (ls' := [some (.ref o), some (.ref t), some (.int (nI s)), some (.int (nI 0)), some (.int (nI (j + 1))), some (.int (nI (eC r1))), some (.int (nI (P ||| r1.1))), some (.int (nI (dn (dn 255 r1.2.1) (P ||| r1.1)))), some (.int (nI ((P ||| r1.1) + 256 * (A ||| dn (dn 255 r1.2.1) (P ||| r1.1)))))]) (st' := []) (σ' := (am_wr (am_wr σ' o 0 (nI ((P ||| r1.1) + 256 * (A ||| dn (dn 255 r1.2.1) (P ||| r1.1))))) o 4 (nI (r + 1)))) rfl ?_
      have hrn : rnd p x s P A = (P ||| r1.1, A ||| dn (dn 255 r1.2.1) (P ||| r1.1)) := by unfold rnd; rw [hr1]
      have e1 : P ||| r1.1 = P := by omega
      have e2 : A ||| dn (dn 255 r1.2.1) (P ||| r1.1) = A := by omega
      rw [e2, e1] at hrn
      have hst : stl p x s (m + 1) P A = (P, A, 1) := by unfold stl; rw [if_pos hrn]
      rw [hst] at hq
      refine c_settle_exit (by omega) ho hP hA (by omega) (by decide) (Or.inr rfl) (by rw [am_diff _ _ _ _ _ (by decide), am_same, e2, e1]) ?_
      refine hq _ (((hk.wr _ _).wr _ _).wr _ _) ?_ ?_ ?_ ?_ ?_
      · rw [am_diff _ _ _ _ _ (by decide), am_diff _ _ _ _ _ (by decide), am_same, e2, e1]
      · rw [am_same]
      · rw [am_diff _ _ _ _ _ (by decide), am_diff _ _ _ _ _ (by decide), am_diff _ _ _ _ _ (by decide)]; exact h2
      · rw [am_diff _ _ _ _ _ (by decide), am_diff _ _ _ _ _ (by decide), am_diff _ _ _ _ _ (by decide)]; exact h3
      · rw [am_diff _ _ _ _ _ (by decide), am_same]
    · have h_3 : ¬ ((P ||| r1.1) + 256 * (A ||| dn (dn 255 r1.2.1) (P ||| r1.1)) = P + 256 * A) := fun z => h_3 ((nI_eq (by omega) (by omega)).mpr z)
      refine am_run 5 (pc' := 92) (ls' := [some (.ref o), some (.ref t), some (.int (nI s)), some (.int (nI 1)), some (.int (nI j)), some (.int (nI (eC r1))), some (.int (nI (P ||| r1.1))), some (.int (nI (dn (dn 255 r1.2.1) (P ||| r1.1)))), some (.int (nI ((P ||| r1.1) + 256 * (A ||| dn (dn 255 r1.2.1) (P ||| r1.1)))))]) (st' := [.int (nI ((P ||| r1.1) + 256 * (A ||| dn (dn 255 r1.2.1) (P ||| r1.1)))), .ref o]) (σ' := σ') rfl ?_
      refine am_putI (k := 0) rfl rfl (oc_kind ho) rfl ?_
      refine am_run 2 (pc' := 97) (ls' := [some (.ref o), some (.ref t), some (.int (nI s)), some (.int (nI 1)), some (.int (nI j)), some (.int (nI (eC r1))), some (.int (nI (P ||| r1.1))), some (.int (nI (dn (dn 255 r1.2.1) (P ||| r1.1)))), some (.int (nI ((P ||| r1.1) + 256 * (A ||| dn (dn 255 r1.2.1) (P ||| r1.1)))))]) (st' := [.ref o, .ref o]) (σ' := (am_wr σ' o 0 (nI ((P ||| r1.1) + 256 * (A ||| dn (dn 255 r1.2.1) (P ||| r1.1)))))) rfl ?_
      refine am_getI (k := 4) rfl rfl (oc_kind ho) rfl ?_
      refine am_top (v' := nI r) (by rw [am_diff _ _ _ _ _ (by decide)]; exact hr4) ?_
      refine am_run 2 (pc' := 102) (ls' := [some (.ref o), some (.ref t), some (.int (nI s)), some (.int (nI 1)), some (.int (nI j)), some (.int (nI (eC r1))), some (.int (nI (P ||| r1.1))), some (.int (nI (dn (dn 255 r1.2.1) (P ||| r1.1)))), some (.int (nI ((P ||| r1.1) + 256 * (A ||| dn (dn 255 r1.2.1) (P ||| r1.1)))))]) (st' := [.int (nI r + nI 1), .ref o]) (σ' := (am_wr σ' o 0 (nI ((P ||| r1.1) + 256 * (A ||| dn (dn 255 r1.2.1) (P ||| r1.1)))))) rfl ?_
      refine am_top (v' := nI (r + 1)) (nI_add _ _) ?_
      refine am_putI (k := 4) rfl rfl (oc_kind ho) rfl ?_
      refine am_run 1 (pc' := 108) (ls' := [some (.ref o), some (.ref t), some (.int (nI s)), some (.int (nI 1)), some (.int (nI j + nI 1)), some (.int (nI (eC r1))), some (.int (nI (P ||| r1.1))), some (.int (nI (dn (dn 255 r1.2.1) (P ||| r1.1)))), some (.int (nI ((P ||| r1.1) + 256 * (A ||| dn (dn 255 r1.2.1) (P ||| r1.1)))))]) (st' := []) (σ' := (am_wr (am_wr σ' o 0 (nI ((P ||| r1.1) + 256 * (A ||| dn (dn 255 r1.2.1) (P ||| r1.1))))) o 4 (nI (r + 1)))) rfl ?_
      refine am_ls (ls' := [some (.ref o), some (.ref t), some (.int (nI s)), some (.int (nI 1)), some (.int (nI (j + 1))), some (.int (nI (eC r1))), some (.int (nI (P ||| r1.1))), some (.int (nI (dn (dn 255 r1.2.1) (P ||| r1.1)))), some (.int (nI ((P ||| r1.1) + 256 * (A ||| dn (dn 255 r1.2.1) (P ||| r1.1)))))]) (by rw [nI_add]) ?_
      refine am_run 1 (pc' := 5) (ls' := [some (.ref o), some (.ref t), some (.int (nI s)), some (.int (nI 1)), some (.int (nI (j + 1))), some (.int (nI (eC r1))), some (.int (nI (P ||| r1.1))), some (.int (nI (dn (dn 255 r1.2.1) (P ||| r1.1)))), some (.int (nI ((P ||| r1.1) + 256 * (A ||| dn (dn 255 r1.2.1) (P ||| r1.1)))))]) (st' := []) (σ' := (am_wr (am_wr σ' o 0 (nI ((P ||| r1.1) + 256 * (A ||| dn (dn 255 r1.2.1) (P ||| r1.1))))) o 4 (nI (r + 1)))) rfl ?_
      have hrn : rnd p x s P A = (P ||| r1.1, A ||| dn (dn 255 r1.2.1) (P ||| r1.1)) := by unfold rnd; rw [hr1]
      have hne : ¬ rnd p x s P A = (P, A) := by
        rw [hrn]
        intro z
        simp only [Prod.mk.injEq] at z
        omega
      have hst : stl p x s (m + 1) P A = ((stl p x s m (P ||| r1.1) (A ||| dn (dn 255 r1.2.1) (P ||| r1.1))).1, (stl p x s m (P ||| r1.1) (A ||| dn (dn 255 r1.2.1) (P ||| r1.1))).2.1, (stl p x s m (P ||| r1.1) (A ||| dn (dn 255 r1.2.1) (P ||| r1.1))).2.2 + 1) := by
        show (if rnd p x s P A = (P, A) then _ else _) = _
        rw [if_neg hne, hrn]
      rw [hst] at hq
      refine c_settle_loop hd hW hR hx hroot ho hs m (j + 1) (P ||| r1.1) (A ||| dn (dn 255 r1.2.1) (P ||| r1.1)) (r + 1) (by omega) hb1 hb2 (by omega) ?_ _ _ _ _ _ ((hk.wr _ _).wr _ _) ?_ ?_ ?_ ?_
      · intro σ2 k1 k2 k3 k4 k5 k6
        exact hq σ2 k1 k2 k3 k4 k5 (by rw [k6]; congr 1; exact Nat.add_right_comm r 1 _)
      · rw [am_diff _ _ _ _ _ (by decide), am_same]
      · rw [am_same]
      · rw [am_diff _ _ _ _ _ (by decide), am_diff _ _ _ _ _ (by decide)]; exact h2
      · rw [am_diff _ _ _ _ _ (by decide), am_diff _ _ _ _ _ (by decide)]; exact h3
set_option maxRecDepth 10000 in
set_option maxHeartbeats 2000000 in
theorem c_settle {d : Nat} (hd : 402 ≤ d) {σ : am_M} {o t n x s : Nat} {p : Pg} (hW : PW p n) (hR : TR σ t p n) (hx : x ≤ n) (hroot : ROOT σ t x) (ho : o = 77 ∨ o = 78) (hs : s ≤ 1048576) {Q : am_Q} {P A r : Nat} (hP : P < 256) (hA : A < 256) (hr : r ≤ 900) (hK : σ.1 o 0 = nI (P + 256 * A)) (hr4 : σ.1 o 4 = nI r) (hq : (∀ σ2 : am_M, Kc σ σ2 o → σ2.1 o 0 = nI ((stl p x s 9 P A).1 + 256 * (stl p x s 9 P A).2.1) → σ2.1 o 1 = nI (dn 255 ((stl p x s 9 P A).1 ||| (stl p x s 9 P A).2.1)) → σ2.1 o 2 = σ.1 o 2 → σ2.1 o 3 = σ.1 o 3 → σ2.1 o 4 = nI (r + (stl p x s 9 P A).2.2) → Q none σ2)) : am_C d 57 [.ref o, .ref t, .int (nI s)] σ Q := by
  refine am_enter' (M := M_X3_settle) rfl rfl rfl (by omega) (ls := [some (.ref o), some (.ref t), some (.int (nI s)), none, none, none, none, none, none]) rfl (fun d' hd' => ?_)
  refine am_run 4 (pc' := 5) (ls' := [some (.ref o), some (.ref t), some (.int (nI s)), some (.int (nI 1)), some (.int (nI 0)), none, none, none, none]) (st' := []) (σ' := σ) rfl ?_
  exact c_settle_loop (by omega) hW hR hx hroot ho hs 9 0 P A r rfl hP hA (by omega) hq σ _ _ _ _ (Kc.rf σ o) hK hr4 rfl rfl
set_option maxRecDepth 10000 in
set_option maxHeartbeats 2000000 in
theorem c_completeN {d : Nat} (hd : 3 ≤ d) {σ : am_M} {o : Nat} (ho : o = 77 ∨ o = 78) {Q : am_Q} (hq : Q none (am_wr σ o 1 (nI 256))) : am_C d 58 [.ref o, .int (-1)] σ Q := by
  refine am_enter' (M := M_X3_complete) rfl rfl rfl (by omega) (ls := [some (.ref o), some (.int (-1))]) rfl (fun d' hd' => ?_)
  refine am_run 2 (pc' := 2) (ls' := [some (.ref o), some (.int (-1))]) (st' := [.int (-1), .int (-1)]) (σ' := σ) rfl ?_
  refine am_ic (ty := 5) (tn := 15) rfl (by decide) rfl rfl (fun (h_1 : -1 = -1) => ?_) (fun (h_1 : ¬ (-1 = -1)) => ?_)
  rotate_left
  · exact absurd (by decide) h_1
  refine am_run 2 (pc' := 9) (ls' := [some (.ref o), some (.int (-1))]) (st' := [.int (nI 256), .ref o]) (σ' := σ) rfl ?_
  refine am_putI (k := 1) rfl rfl (oc_kind ho) rfl ?_
  refine am_run 1 (pc' := 31) (ls' := [some (.ref o), some (.int (-1))]) (st' := []) (σ' := (am_wr σ o 1 (nI 256))) rfl ?_
  refine am_retv rfl rfl ?_
  exact hq
set_option maxRecDepth 10000 in
set_option maxHeartbeats 2000000 in
theorem c_complete {d : Nat} (hd : 3 ≤ d) {σ : am_M} {o c q : Nat} (ho : o = 77 ∨ o = 78) (hc : c ≤ 6) (hq2 : q < 1048576) {Q : am_Q} (hq : Q none (am_wr (am_wr σ o 2 (nI c)) o 3 (nI q))) : am_C d 58 [.ref o, .int (nI (c * 1048576 + q))] σ Q := by
  refine am_enter' (M := M_X3_complete) rfl rfl rfl (by omega) (ls := [some (.ref o), some (.int (nI (c * 1048576 + q)))]) rfl (fun d' hd' => ?_)
  refine am_run 2 (pc' := 2) (ls' := [some (.ref o), some (.int (nI (c * 1048576 + q)))]) (st' := [.int (-1), .int (nI (c * 1048576 + q))]) (σ' := σ) rfl ?_
  refine am_ic (ty := 5) (tn := 15) rfl (by decide) rfl rfl (fun (h_1 : nI (c * 1048576 + q) = -1) => ?_) (fun (h_1 : ¬ (nI (c * 1048576 + q) = -1)) => ?_)
  · exact absurd h_1 (am_nm1 (by omega))
  refine am_run 2 (pc' := 17) (ls' := [some (.ref o), some (.int (nI (c * 1048576 + q)))]) (st' := [.int (nI (c * 1048576 + q)), .ref o]) (σ' := σ) rfl ?_
  refine am_invs (y := 38) (as := [.int (nI (c * 1048576 + q))]) (rest := [.ref o]) rfl rfl rfl rfl rfl rfl (Nat.le_of_ble_eq_true rfl) ?_
  refine c_x_code (by omega) hc hq2 ?_
  show am_G _ M_X3_complete _ 20 [some (.ref o), some (.int (nI (c * 1048576 + q)))] [.int (nI c), .ref o] σ
  refine am_putI (k := 2) rfl rfl (oc_kind ho) rfl ?_
  refine am_run 2 (pc' := 25) (ls' := [some (.ref o), some (.int (nI (c * 1048576 + q)))]) (st' := [.int (nI (c * 1048576 + q)), .ref o]) (σ' := (am_wr σ o 2 (nI c))) rfl ?_
  refine am_invs (y := 39) (as := [.int (nI (c * 1048576 + q))]) (rest := [.ref o]) rfl rfl rfl rfl rfl rfl (Nat.le_of_ble_eq_true rfl) ?_
  refine c_x_points (by omega) hc hq2 ?_
  show am_G _ M_X3_complete _ 28 [some (.ref o), some (.int (nI (c * 1048576 + q)))] [.int (nI q), .ref o] (am_wr σ o 2 (nI c))
  refine am_putI (k := 3) rfl rfl (oc_kind ho) rfl ?_
  refine am_retv rfl rfl ?_
  exact hq
/-- the outcome at the cell o holds what the instant leads to -/
def OH (σ : am_M) (o : Nat) (r : Nat × Nat × Nat × Nat × Nat × Nat) : Prop := σ.1 o 0 = nI (r.1 + 256 * r.2.1) ∧ σ.1 o 1 = nI r.2.2.1 ∧ σ.1 o 2 = nI r.2.2.2.1 ∧ σ.1 o 3 = nI r.2.2.2.2.1 ∧ σ.1 o 4 = nI r.2.2.2.2.2
set_option maxRecDepth 10000 in
set_option maxHeartbeats 2000000 in
theorem c_determine {d : Nat} (hd : 510 ≤ d) {σ : am_M} {o t n x s u : Nat} {p : Pg} (hW : PW p n) (hR : TR σ t p n) (hx : x ≤ n) (hroot : ROOT σ t x) (ho : o = 77 ∨ o = 78) (hs : s ≤ 1048576) (hu : u < 256) {Q : am_Q} (hq : ∀ σ2, Kc σ σ2 o → OH σ2 o (oc p x s u) → Q none σ2) : am_C d 56 [.ref o, .ref t, .int (nI s), .int (nI u)] σ Q := by
  refine am_enter' (M := M_X3_determine) rfl rfl rfl (by omega) (ls := [some (.ref o), some (.ref t), some (.int (nI s)), some (.int (nI u))]) rfl (fun d' hd' => ?_)
  refine am_run 2 (pc' := 2) (ls' := [some (.ref o), some (.ref t), some (.int (nI s)), some (.int (nI u))]) (st' := [.int (nI u), .ref o]) (σ' := σ) rfl ?_
  refine am_putI (k := 0) rfl rfl (oc_kind ho) rfl ?_
  refine am_run 2 (pc' := 7) (ls' := [some (.ref o), some (.ref t), some (.int (nI s)), some (.int (nI u))]) (st' := [.int (nI 0), .ref o]) (σ' := (am_wr σ o 0 (nI u))) rfl ?_
  refine am_putI (k := 1) rfl rfl (oc_kind ho) rfl ?_
  refine am_run 2 (pc' := 12) (ls' := [some (.ref o), some (.ref t), some (.int (nI s)), some (.int (nI u))]) (st' := [.int (nI 0), .ref o]) (σ' := (am_wr (am_wr σ o 0 (nI u)) o 1 (nI 0))) rfl ?_
  refine am_putI (k := 2) rfl rfl (oc_kind ho) rfl ?_
  refine am_run 2 (pc' := 17) (ls' := [some (.ref o), some (.ref t), some (.int (nI s)), some (.int (nI u))]) (st' := [.int (nI 0), .ref o]) (σ' := (am_wr (am_wr (am_wr σ o 0 (nI u)) o 1 (nI 0)) o 2 (nI 0))) rfl ?_
  refine am_putI (k := 3) rfl rfl (oc_kind ho) rfl ?_
  refine am_run 2 (pc' := 22) (ls' := [some (.ref o), some (.ref t), some (.int (nI s)), some (.int (nI u))]) (st' := [.int (nI 0), .ref o]) (σ' := (am_wr (am_wr (am_wr (am_wr σ o 0 (nI u)) o 1 (nI 0)) o 2 (nI 0)) o 3 (nI 0))) rfl ?_
  refine am_putI (k := 4) rfl rfl (oc_kind ho) rfl ?_
  refine am_run 1 (pc' := 26) (ls' := [some (.ref o), some (.ref t), some (.int (nI s)), some (.int (nI u))]) (st' := [.int (nI s)]) (σ' := (am_wr (am_wr (am_wr (am_wr (am_wr σ o 0 (nI u)) o 1 (nI 0)) o 2 (nI 0)) o 3 (nI 0)) o 4 (nI 0))) rfl ?_
  refine am_if (ty := 29) (tn := 30) rfl (by decide) rfl rfl (fun (h_1 : nI s = 0) => ?_) (fun (h_1 : ¬ (nI s = 0)) => ?_)
  · have h_1 : s = 0 := (am_n0 (by omega)).mp h_1
    refine am_retv rfl rfl ?_
    refine hq _ ((((((Kc.rf σ o).wr _ _).wr _ _).wr _ _).wr _ _).wr _ _) ?_
    have e : oc p x s u = (u, 0, 0, 0, 0, 0) := by unfold oc; rw [if_pos (by omega)]
    rw [e]
    exact ⟨by rw [am_diff _ _ _ _ _ (by decide), am_diff _ _ _ _ _ (by decide), am_diff _ _ _ _ _ (by decide), am_diff _ _ _ _ _ (by decide), am_same]; rfl, by rw [am_diff _ _ _ _ _ (by decide), am_diff _ _ _ _ _ (by decide), am_diff _ _ _ _ _ (by decide), am_same], by rw [am_diff _ _ _ _ _ (by decide), am_diff _ _ _ _ _ (by decide), am_same], by rw [am_diff _ _ _ _ _ (by decide), am_same], by rw [am_same]⟩
  · have h_1 : ¬ (s = 0) := fun z => h_1 ((am_n0 (by omega)).mpr z)
    refine am_run 3 (pc' := 33) (ls' := [some (.ref o), some (.ref t), some (.int (nI s)), some (.int (nI u))]) (st' := [.int (nI s), .ref t, .ref o]) (σ' := (am_wr (am_wr (am_wr (am_wr (am_wr σ o 0 (nI u)) o 1 (nI 0)) o 2 (nI 0)) o 3 (nI 0)) o 4 (nI 0))) rfl ?_
    refine am_invv (y := 57) (b := o) (as := [.ref t, .int (nI s)]) (rest := []) rfl rfl rfl rfl rfl rfl (oc_kind ho) (Nat.le_of_ble_eq_true rfl) ?_
    have hk1 : Kc σ (am_wr (am_wr (am_wr (am_wr (am_wr σ o 0 (nI u)) o 1 (nI 0)) o 2 (nI 0)) o 3 (nI 0)) o 4 (nI 0)) o := ((((((Kc.rf σ o).wr _ _).wr _ _).wr _ _).wr _ _).wr _ _)
    have hs0 : ¬ s = 0 := h_1
    refine c_settle (by omega) hW (hk1.TR ho hR) hx (by unfold ROOT; rw [hk1.1 t (by have := hR.1; omega)]; exact hroot) ho hs (P := u) (A := 0) (r := 0) hu (by decide) (by decide) (by rw [am_diff _ _ _ _ _ (by decide), am_diff _ _ _ _ _ (by decide), am_diff _ _ _ _ _ (by decide), am_diff _ _ _ _ _ (by decide), am_same]; rfl) (by rw [am_same]) (fun σ2 k1 g0 g1 g2 g3 g4 => ?_)
    replace g2 : σ2.1 o 2 = nI 0 := by rw [g2, am_diff _ _ _ _ _ (by decide), am_diff _ _ _ _ _ (by decide), am_same]
    replace g3 : σ2.1 o 3 = nI 0 := by rw [g3, am_diff _ _ _ _ _ (by decide), am_same]
    rw [Nat.zero_add] at g4
    have hk2 := hk1.tr k1
    have hlt := stl_lt (s := s) hW hx 9 u 0 hu (by decide)
    have hdn : dn 255 ((stl p x s 9 u 0).1 ||| (stl p x s 9 u 0).2.1) < 256 := dn_lt (by decide)
    have hR2 := hk2.TR ho hR
    have hr2 : ROOT σ2 t x := by unfold ROOT; rw [hk2.1 t (by have := hR.1; omega)]; exact hroot
    show am_G _ M_X3_determine _ 36 [some (.ref o), some (.ref t), some (.int (nI s)), some (.int (nI u))] [] σ2
    refine am_run 1 (pc' := 37) (ls' := [some (.ref o), some (.ref t), some (.int (nI s)), some (.int (nI u))]) (st' := [.ref o]) (σ' := σ2) rfl ?_
    refine am_getI (k := 1) rfl rfl (oc_kind ho) rfl ?_
    refine am_top (v' := nI (dn 255 ((stl p x s 9 u 0).1 ||| (stl p x s 9 u 0).2.1))) g1 ?_
    refine am_if (ty := 43) (tn := 56) rfl (by decide) rfl rfl (fun (h_2 : nI (dn 255 ((stl p x s 9 u 0).1 ||| (stl p x s 9 u 0).2.1)) = 0) => ?_) (fun (h_2 : ¬ (nI (dn 255 ((stl p x s 9 u 0).1 ||| (stl p x s 9 u 0).2.1)) = 0)) => ?_)
    · have h_2 : dn 255 ((stl p x s 9 u 0).1 ||| (stl p x s 9 u 0).2.1) = 0 := (am_n0 (by omega)).mp h_2
      refine am_run 4 (pc' := 47) (ls' := [some (.ref o), some (.ref t), some (.int (nI s)), some (.int (nI u))]) (st' := [.ref o, .int (nI s), .ref t, .ref o]) (σ' := σ2) rfl ?_
      refine am_invv (y := 50) (b := o) (as := []) (rest := [.int (nI s), .ref t, .ref o]) rfl rfl rfl rfl rfl rfl (oc_kind ho) (Nat.le_of_ble_eq_true rfl) ?_
      refine c_o_present (by omega) ho hlt.1 g0 ?_
      show am_G _ M_X3_determine _ 50 [some (.ref o), some (.ref t), some (.int (nI s)), some (.int (nI u))] [.int (nI ((stl p x s 9 u 0).1)), .int (nI s), .ref t, .ref o] σ2
      refine am_invs (y := 37) (as := [.ref t, .int (nI s), .int (nI ((stl p x s 9 u 0).1))]) (rest := [.ref o]) rfl rfl rfl rfl rfl rfl (Nat.le_of_ble_eq_true rfl) ?_
      refine c_x_ofProgram (by omega) hW hR2 hx hr2 hs hlt.1 (fun he1 => ?_) (fun c1 q1 he1 hc1 hq1 => ?_)
      · show am_G _ M_X3_determine _ 53 [some (.ref o), some (.ref t), some (.int (nI s)), some (.int (nI u))] [.int (-1), .ref o] σ2
        refine am_invv (y := 58) (b := o) (as := [.int (-1)]) (rest := []) rfl rfl rfl rfl rfl rfl (oc_kind ho) (Nat.le_of_ble_eq_true rfl) ?_
        refine c_completeN (by omega) ho ?_
        have e : oc p x s u = ((stl p x s 9 u 0).1, (stl p x s 9 u 0).2.1, 256, 0, 0, (stl p x s 9 u 0).2.2) := by unfold oc; rw [if_neg hs0, if_pos (by omega), he1]
        show am_G _ M_X3_determine _ 56 [some (.ref o), some (.ref t), some (.int (nI s)), some (.int (nI u))] [] (am_wr σ2 o 1 (nI 256))
        refine am_retv rfl rfl ?_
        refine hq _ (hk2.wr _ _) ?_
        rw [e]
        exact ⟨by rw [am_diff _ _ _ _ _ (by decide)]; exact g0, by rw [am_same], by rw [am_diff _ _ _ _ _ (by decide)]; exact g2, by rw [am_diff _ _ _ _ _ (by decide)]; exact g3, by rw [am_diff _ _ _ _ _ (by decide)]; exact g4⟩
      · show am_G _ M_X3_determine _ 53 [some (.ref o), some (.ref t), some (.int (nI s)), some (.int (nI u))] [.int (nI (c1 * 1048576 + q1)), .ref o] σ2
        refine am_invv (y := 58) (b := o) (as := [.int (nI (c1 * 1048576 + q1))]) (rest := []) rfl rfl rfl rfl rfl rfl (oc_kind ho) (Nat.le_of_ble_eq_true rfl) ?_
        refine c_complete (by omega) ho hc1 hq1 ?_
        have e : oc p x s u = ((stl p x s 9 u 0).1, (stl p x s 9 u 0).2.1, 0, c1, q1, (stl p x s 9 u 0).2.2) := by unfold oc; rw [if_neg hs0, if_pos (by omega), he1]
        have hz1 : dn 255 ((stl p x s 9 u 0).1 ||| (stl p x s 9 u 0).2.1) = 0 := by omega
        rw [hz1] at g1
        show am_G _ M_X3_determine _ 56 [some (.ref o), some (.ref t), some (.int (nI s)), some (.int (nI u))] [] (am_wr (am_wr σ2 o 2 (nI c1)) o 3 (nI q1))
        refine am_retv rfl rfl ?_
        refine hq _ ((hk2.wr _ _).wr _ _) ?_
        rw [e]
        exact ⟨by rw [am_diff _ _ _ _ _ (by decide), am_diff _ _ _ _ _ (by decide)]; exact g0, by rw [am_diff _ _ _ _ _ (by decide), am_diff _ _ _ _ _ (by decide)]; exact g1, by rw [am_diff _ _ _ _ _ (by decide), am_same], by rw [am_same], by rw [am_diff _ _ _ _ _ (by decide), am_diff _ _ _ _ _ (by decide)]; exact g4⟩
    · have h_2 : ¬ (dn 255 ((stl p x s 9 u 0).1 ||| (stl p x s 9 u 0).2.1) = 0) := fun z => h_2 ((am_n0 (by omega)).mpr z)
      refine am_retv rfl rfl ?_
      have e : oc p x s u = ((stl p x s 9 u 0).1, (stl p x s 9 u 0).2.1, dn 255 ((stl p x s 9 u 0).1 ||| (stl p x s 9 u 0).2.1), 0, 0, (stl p x s 9 u 0).2.2) := by unfold oc; rw [if_neg hs0, if_neg (by omega)]
      refine hq _ hk2 ?_
      rw [e]
      exact ⟨g0, g1, g2, g3, g4⟩

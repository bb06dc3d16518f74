/-! part -/
def dif (w1 P1 w2 P2 : Nat) : Bool := if w1 = 0 then (if w2 = 0 then !(P1 == P2) else true) else w2 == 0
def pa_in (p : Pg) (x : Nat) (p' : Pg) (x' mk : Nat) : Nat → Nat → Nat → Nat → (Nat → Nat) → (Nat → Nat) → (Nat → Nat) → Option Int32 × Nat × (Nat → Nat) × (Nat → Nat) × (Nat → Nat)
  | 0, _, _, c, f, g, h => (none, c, f, g, h)
  | m + 1, i, k, c, f, g, h =>
    if dif (oc p x (f k) (pt mk i)).2.2.1 (oc p x (f k) (pt mk i)).1 (oc p' x' (g k) (pt mk i)).2.2.1 (oc p' x' (g k) (pt mk i)).1 = true then (some (nI (h k + 1)), c, f, g, h)
    else if (oc p x (f k) (pt mk i)).2.2.1 = 0 then
      (if fnd f g (oc p x (f k) (pt mk i)).2.2.2.2.1 (oc p' x' (g k) (pt mk i)).2.2.2.2.1 c < c then pa_in p x p' x' mk m (i + 1) k c f g h
      else if c = 200 then (some (-1000004), c, f, g, h)
      else pa_in p x p' x' mk m (i + 1) k (c + 1) (up1 f c (oc p x (f k) (pt mk i)).2.2.2.2.1) (up1 g c (oc p' x' (g k) (pt mk i)).2.2.2.2.1) (up1 h c (h k + 1)))
    else pa_in p x p' x' mk m (i + 1) k c f g h
def pa_out (p : Pg) (x : Nat) (p' : Pg) (x' mk : Nat) : Nat → Nat → Nat → (Nat → Nat) → (Nat → Nat) → (Nat → Nat) → Int32
  | 0, _, _, _, _, _ => -1
  | M + 1, k, c, f, g, h =>
    if k < c then
      (if (pa_in p x p' x' mk (2 ^ pcn mk 21) 0 k c f g h).1 = none then pa_out p x p' x' mk M (k + 1) (pa_in p x p' x' mk (2 ^ pcn mk 21) 0 k c f g h).2.1 (pa_in p x p' x' mk (2 ^ pcn mk 21) 0 k c f g h).2.2.1 (pa_in p x p' x' mk (2 ^ pcn mk 21) 0 k c f g h).2.2.2.1 (pa_in p x p' x' mk (2 ^ pcn mk 21) 0 k c f g h).2.2.2.2
      else (pa_in p x p' x' mk (2 ^ pcn mk 21) 0 k c f g h).1.getD 0)
    else -1
theorem pa_v {p : Pg} {x : Nat} {p' : Pg} {x' mk k : Nat} : ∀ (m i c : Nat) (f g h : Nat → Nat), k < c → h k ≤ 200 → (pa_in p x p' x' mk m i k c f g h).1 = none ∨ (∃ v, v ≤ 201 ∧ (pa_in p x p' x' mk m i k c f g h).1 = some (nI v)) ∨ (pa_in p x p' x' mk m i k c f g h).1 = some (-1000004)
  | 0, _, _, _, _, _, _, _ => Or.inl rfl
  | m + 1, i, c, f, g, h, hk, hh => by
    unfold pa_in
    split
    · exact Or.inr (Or.inl ⟨h k + 1, by omega, rfl⟩)
    · split
      · split
        · exact pa_v m (i + 1) c f g h hk hh
        · split
          · exact Or.inr (Or.inr rfl)
          · exact pa_v m (i + 1) (c + 1) _ _ _ (by omega) (by rw [up1_o h _ (by omega)]; exact hh)
      · exact pa_v m (i + 1) c f g h hk hh
theorem pa_nn {p : Pg} {x : Nat} {p' : Pg} {x' mk k m i c : Nat} {f g h : Nat → Nat} (hk : k < c) (hh : h k ≤ 200) (he : (pa_in p x p' x' mk m i k c f g h).1 ≠ none) : ¬ (pa_in p x p' x' mk m i k c f g h).1.getD 0 = -1 := by
  rcases pa_v (p := p) (x := x) (p' := p') (x' := x') (mk := mk) m i c f g h hk hh with e | ⟨v, hv, e⟩ | e
  · exact absurd e he
  · rw [e]
    show ¬ nI v = -1
    exact am_nm1 (by omega)
  · rw [e]
    decide
/-- the reference's pairs -/
def TP (σ : am_M) (c : Nat) (f g h : Nat → Nat) : Prop := c ≤ 200 ∧ σ.1 0 58 = nI c ∧ ∀ k, k < c → σ.1 38 k = nI (f k) ∧ σ.1 39 k = nI (g k) ∧ σ.1 40 k = nI (h k) ∧ f k ≤ 1048576 ∧ g k ≤ 1048576 ∧ h k ≤ k
theorem TP.ks {σ σ' : am_M} {c : Nat} {f g h : Nat → Nat} (hT : TP σ c f g h) (hS : KS σ σ') : TP σ' c f g h := by
  unfold TP
  rw [hS.2.1 58 (by omega), hS.1 38 (by decide) (by decide) (by decide) (by decide), hS.1 39 (by decide) (by decide) (by decide) (by decide), hS.1 40 (by decide) (by decide) (by decide) (by decide)]
  exact hT
theorem TP.add {σ : am_M} {c : Nat} {f g h : Nat → Nat} (hT : TP σ c f g h) (hl : c < 200) {a b st : Nat} (ha : a ≤ 1048576) (hb : b ≤ 1048576) (hs : st ≤ c) : TP (am_wr (am_wr (am_wr (am_wr σ 38 c (nI a)) 39 c (nI b)) 40 c (nI st)) 0 58 (nI (c + 1))) (c + 1) (up1 f c a) (up1 g c b) (up1 h c st) := by
  obtain ⟨h1, h3, h5⟩ := hT
  refine ⟨by omega, am_same _ _ _ _, fun k hk => ?_⟩
  by_cases e : k = c
  · subst e
    rw [up1_s, up1_s, up1_s]
    simp only [am_rd1, and_true, if_true, show ¬ (38 = 0) by decide, show ¬ (39 = 0) by decide, show ¬ (40 = 0) by decide, show ¬ (38 = 40) by decide, show ¬ (38 = 39) by decide, show ¬ (39 = 40) by decide, false_and, if_false]
    exact ⟨trivial, trivial, trivial, ha, hb, hs⟩
  · rw [up1_o f _ e, up1_o g _ e, up1_o h _ e]
    simp only [am_rd1, e, and_false, if_false, show ¬ (38 = 0) by decide, show ¬ (39 = 0) by decide, show ¬ (40 = 0) by decide, show ¬ (38 = 40) by decide, show ¬ (38 = 39) by decide, show ¬ (39 = 40) by decide, false_and]
    exact h5 k (by omega)
set_option maxRecDepth 10000 in
set_option maxHeartbeats 2000000 in
theorem c_differs {d : Nat} (hd : 2 ≤ d) {σ : am_M} {P A w P' A' w' : Nat} (hP : P < 256) (hP' : P' < 256) (hw : w ≤ 256) (hw' : w' ≤ 256) (o0 : σ.1 77 0 = nI (P + 256 * A)) (o1 : σ.1 77 1 = nI w) (q0 : σ.1 78 0 = nI (P' + 256 * A')) (q1 : σ.1 78 1 = nI w') {Q : am_Q} (h1 : dif w P w' P' = true → Q (some (.int (nI 1))) σ) (h0 : dif w P w' P' = false → Q (some (.int (nI 0))) σ) : am_C d 60 [.ref 77, .ref 78] σ Q := by
  by_cases e1 : w = 0
  · by_cases e2 : w' = 0
    · skip
      refine am_enter' (M := M_X3_differsFrom) rfl rfl rfl (by omega) (ls := [some (.ref 77), some (.ref 78)]) rfl (fun d' hd' => ?_)
      refine am_run 1 (pc' := 1) (ls' := [some (.ref 77), some (.ref 78)]) (st' := [.ref 77]) (σ' := σ) rfl ?_
      refine am_invv (y := 52) (b := 77) (as := []) (rest := []) rfl rfl rfl rfl rfl rfl rfl (Nat.le_of_ble_eq_true rfl) ?_
      refine am_enter' rfl rfl rfl (by omega) (ls := [some (.ref 77)]) rfl (fun d_1 hd_1 => ?_)
      refine am_run 2 (pc' := 4) (ls' := [some (.ref 77)]) (st' := [.int (σ.1 77 1)]) (σ' := σ) rfl ?_
      refine am_top (v' := nI w) o1 ?_
      refine am_if (ty := 11) (tn := 7) rfl (by decide) rfl rfl (fun (h_2 : nI w = 0) => ?_) (fun (h_2 : ¬ (nI w = 0)) => ?_)
      rotate_left
      · have h_2 : ¬ (w = 0) := fun z => h_2 ((am_n0 (by omega)).mpr z)
        omega
      have h_2 : w = 0 := (am_n0 (by omega)).mp h_2
      refine am_run 1 (pc' := 12) (ls' := [some (.ref 77)]) (st' := [.int (nI 0)]) (σ' := σ) rfl ?_
      refine am_retz rfl rfl (by decide) ?_
      show am_G _ M_X3_differsFrom _ 4 [some (.ref 77), some (.ref 78)] [.int (nI 0)] σ
      refine am_if (ty := 7) (tn := 14) rfl (by decide) rfl rfl (fun (h_3 : nI 0 = 0) => ?_) (fun (h_3 : ¬ (nI 0 = 0)) => ?_)
      rotate_left
      · exact absurd (by decide) h_3
      refine am_run 1 (pc' := 8) (ls' := [some (.ref 77), some (.ref 78)]) (st' := [.ref 78]) (σ' := σ) rfl ?_
      refine am_invv (y := 52) (b := 78) (as := []) (rest := []) rfl rfl rfl rfl rfl rfl rfl (Nat.le_of_ble_eq_true rfl) ?_
      refine am_enter' rfl rfl rfl (by omega) (ls := [some (.ref 78)]) rfl (fun d_4 hd_4 => ?_)
      refine am_run 2 (pc' := 4) (ls' := [some (.ref 78)]) (st' := [.int (σ.1 78 1)]) (σ' := σ) rfl ?_
      refine am_top (v' := nI w') q1 ?_
      refine am_if (ty := 11) (tn := 7) rfl (by decide) rfl rfl (fun (h_5 : nI w' = 0) => ?_) (fun (h_5 : ¬ (nI w' = 0)) => ?_)
      rotate_left
      · have h_5 : ¬ (w' = 0) := fun z => h_5 ((am_n0 (by omega)).mpr z)
        omega
      have h_5 : w' = 0 := (am_n0 (by omega)).mp h_5
      refine am_run 1 (pc' := 12) (ls' := [some (.ref 78)]) (st' := [.int (nI 0)]) (σ' := σ) rfl ?_
      refine am_retz rfl rfl (by decide) ?_
      show am_G _ M_X3_differsFrom _ 11 [some (.ref 77), some (.ref 78)] [.int (nI 0)] σ
      refine am_if (ty := 31) (tn := 14) rfl (by decide) rfl rfl (fun (h_6 : nI 0 = 0) => ?_) (fun (h_6 : ¬ (nI 0 = 0)) => ?_)
      rotate_left
      · exact absurd (by decide) h_6
      refine am_run 1 (pc' := 32) (ls' := [some (.ref 77), some (.ref 78)]) (st' := [.ref 77]) (σ' := σ) rfl ?_
      refine am_invv (y := 50) (b := 77) (as := []) (rest := []) rfl rfl rfl rfl rfl rfl rfl (Nat.le_of_ble_eq_true rfl) ?_
      refine c_o_present (by omega) (Or.inl rfl) hP o0 ?_
      show am_G _ M_X3_differsFrom _ 35 [some (.ref 77), some (.ref 78)] [.int (nI P)] σ
      refine am_run 1 (pc' := 36) (ls' := [some (.ref 77), some (.ref 78)]) (st' := [.ref 78, .int (nI P)]) (σ' := σ) rfl ?_
      refine am_invv (y := 50) (b := 78) (as := []) (rest := [.int (nI P)]) rfl rfl rfl rfl rfl rfl rfl (Nat.le_of_ble_eq_true rfl) ?_
      refine c_o_present (by omega) (Or.inr rfl) hP' q0 ?_
      show am_G _ M_X3_differsFrom _ 39 [some (.ref 77), some (.ref 78)] [.int (nI P'), .int (nI P)] σ
      refine am_ic (ty := 46) (tn := 42) rfl (by decide) rfl rfl (fun (h_7 : nI P = nI P') => ?_) (fun (h_7 : ¬ (nI P = nI P')) => ?_)
      · have h_7 : P = P' := (nI_eq (by omega) (by omega)).mp h_7
        refine am_run 1 (pc' := 47) (ls' := [some (.ref 77), some (.ref 78)]) (st' := [.int (nI 0)]) (σ' := σ) rfl ?_
        refine am_retz rfl rfl (by decide) ?_
        exact h0 (by unfold dif; simp [*])
      · have h_7 : ¬ (P = P') := fun z => h_7 ((nI_eq (by omega) (by omega)).mpr z)
        refine am_run 2 (pc' := 47) (ls' := [some (.ref 77), some (.ref 78)]) (st' := [.int (nI 1)]) (σ' := σ) rfl ?_
        refine am_retz rfl rfl (by decide) ?_
        exact h1 (by unfold dif; simp [*])
    · skip
      refine am_enter' (M := M_X3_differsFrom) rfl rfl rfl (by omega) (ls := [some (.ref 77), some (.ref 78)]) rfl (fun d' hd' => ?_)
      refine am_run 1 (pc' := 1) (ls' := [some (.ref 77), some (.ref 78)]) (st' := [.ref 77]) (σ' := σ) rfl ?_
      refine am_invv (y := 52) (b := 77) (as := []) (rest := []) rfl rfl rfl rfl rfl rfl rfl (Nat.le_of_ble_eq_true rfl) ?_
      refine am_enter' rfl rfl rfl (by omega) (ls := [some (.ref 77)]) rfl (fun d_1 hd_1 => ?_)
      refine am_run 2 (pc' := 4) (ls' := [some (.ref 77)]) (st' := [.int (σ.1 77 1)]) (σ' := σ) rfl ?_
      refine am_top (v' := nI w) o1 ?_
      refine am_if (ty := 11) (tn := 7) rfl (by decide) rfl rfl (fun (h_2 : nI w = 0) => ?_) (fun (h_2 : ¬ (nI w = 0)) => ?_)
      rotate_left
      · have h_2 : ¬ (w = 0) := fun z => h_2 ((am_n0 (by omega)).mpr z)
        omega
      have h_2 : w = 0 := (am_n0 (by omega)).mp h_2
      refine am_run 1 (pc' := 12) (ls' := [some (.ref 77)]) (st' := [.int (nI 0)]) (σ' := σ) rfl ?_
      refine am_retz rfl rfl (by decide) ?_
      show am_G _ M_X3_differsFrom _ 4 [some (.ref 77), some (.ref 78)] [.int (nI 0)] σ
      refine am_if (ty := 7) (tn := 14) rfl (by decide) rfl rfl (fun (h_3 : nI 0 = 0) => ?_) (fun (h_3 : ¬ (nI 0 = 0)) => ?_)
      rotate_left
      · exact absurd (by decide) h_3
      refine am_run 1 (pc' := 8) (ls' := [some (.ref 77), some (.ref 78)]) (st' := [.ref 78]) (σ' := σ) rfl ?_
      refine am_invv (y := 52) (b := 78) (as := []) (rest := []) rfl rfl rfl rfl rfl rfl rfl (Nat.le_of_ble_eq_true rfl) ?_
      refine am_enter' rfl rfl rfl (by omega) (ls := [some (.ref 78)]) rfl (fun d_4 hd_4 => ?_)
      refine am_run 2 (pc' := 4) (ls' := [some (.ref 78)]) (st' := [.int (σ.1 78 1)]) (σ' := σ) rfl ?_
      refine am_top (v' := nI w') q1 ?_
      refine am_if (ty := 11) (tn := 7) rfl (by decide) rfl rfl (fun (h_5 : nI w' = 0) => ?_) (fun (h_5 : ¬ (nI w' = 0)) => ?_)
      · have h_5 : w' = 0 := (am_n0 (by omega)).mp h_5
        omega
      have h_5 : ¬ (w' = 0) := fun z => h_5 ((am_n0 (by omega)).mpr z)
      refine am_run 2 (pc' := 12) (ls' := [some (.ref 78)]) (st' := [.int (nI 1)]) (σ' := σ) rfl ?_
      refine am_retz rfl rfl (by decide) ?_
      show am_G _ M_X3_differsFrom _ 11 [some (.ref 77), some (.ref 78)] [.int (nI 1)] σ
      refine am_if (ty := 31) (tn := 14) rfl (by decide) rfl rfl (fun (h_6 : nI 1 = 0) => ?_) (fun (h_6 : ¬ (nI 1 = 0)) => ?_)
      · exact absurd h_6 (by decide)
      refine am_run 1 (pc' := 15) (ls' := [some (.ref 77), some (.ref 78)]) (st' := [.ref 77]) (σ' := σ) rfl ?_
      refine am_invv (y := 52) (b := 77) (as := []) (rest := []) rfl rfl rfl rfl rfl rfl rfl (Nat.le_of_ble_eq_true rfl) ?_
      refine am_enter' rfl rfl rfl (by omega) (ls := [some (.ref 77)]) rfl (fun d_7 hd_7 => ?_)
      refine am_run 2 (pc' := 4) (ls' := [some (.ref 77)]) (st' := [.int (σ.1 77 1)]) (σ' := σ) rfl ?_
      refine am_top (v' := nI w) o1 ?_
      refine am_if (ty := 11) (tn := 7) rfl (by decide) rfl rfl (fun (h_8 : nI w = 0) => ?_) (fun (h_8 : ¬ (nI w = 0)) => ?_)
      rotate_left
      · have h_8 : ¬ (w = 0) := fun z => h_8 ((am_n0 (by omega)).mpr z)
        omega
      have h_8 : w = 0 := (am_n0 (by omega)).mp h_8
      refine am_run 1 (pc' := 12) (ls' := [some (.ref 77)]) (st' := [.int (nI 0)]) (σ' := σ) rfl ?_
      refine am_retz rfl rfl (by decide) ?_
      show am_G _ M_X3_differsFrom _ 18 [some (.ref 77), some (.ref 78)] [.int (nI 0)] σ
      refine am_run 1 (pc' := 19) (ls' := [some (.ref 77), some (.ref 78)]) (st' := [.ref 78, .int (nI 0)]) (σ' := σ) rfl ?_
      refine am_invv (y := 52) (b := 78) (as := []) (rest := [.int (nI 0)]) rfl rfl rfl rfl rfl rfl rfl (Nat.le_of_ble_eq_true rfl) ?_
      refine am_enter' rfl rfl rfl (by omega) (ls := [some (.ref 78)]) rfl (fun d_9 hd_9 => ?_)
      refine am_run 2 (pc' := 4) (ls' := [some (.ref 78)]) (st' := [.int (σ.1 78 1)]) (σ' := σ) rfl ?_
      refine am_top (v' := nI w') q1 ?_
      refine am_if (ty := 11) (tn := 7) rfl (by decide) rfl rfl (fun (h_10 : nI w' = 0) => ?_) (fun (h_10 : ¬ (nI w' = 0)) => ?_)
      · have h_10 : w' = 0 := (am_n0 (by omega)).mp h_10
        omega
      have h_10 : ¬ (w' = 0) := fun z => h_10 ((am_n0 (by omega)).mpr z)
      refine am_run 2 (pc' := 12) (ls' := [some (.ref 78)]) (st' := [.int (nI 1)]) (σ' := σ) rfl ?_
      refine am_retz rfl rfl (by decide) ?_
      show am_G _ M_X3_differsFrom _ 22 [some (.ref 77), some (.ref 78)] [.int (nI 1), .int (nI 0)] σ
      refine am_ic (ty := 29) (tn := 25) rfl (by decide) rfl rfl (fun (h_11 : nI 0 = nI 1) => ?_) (fun (h_11 : ¬ (nI 0 = nI 1)) => ?_)
      · exact absurd h_11 (by decide)
      refine am_run 2 (pc' := 30) (ls' := [some (.ref 77), some (.ref 78)]) (st' := [.int (nI 1)]) (σ' := σ) rfl ?_
      refine am_retz rfl rfl (by decide) ?_
      exact h1 (by unfold dif; simp [*])
  · by_cases e2 : w' = 0
    · skip
      refine am_enter' (M := M_X3_differsFrom) rfl rfl rfl (by omega) (ls := [some (.ref 77), some (.ref 78)]) rfl (fun d' hd' => ?_)
      refine am_run 1 (pc' := 1) (ls' := [some (.ref 77), some (.ref 78)]) (st' := [.ref 77]) (σ' := σ) rfl ?_
      refine am_invv (y := 52) (b := 77) (as := []) (rest := []) rfl rfl rfl rfl rfl rfl rfl (Nat.le_of_ble_eq_true rfl) ?_
      refine am_enter' rfl rfl rfl (by omega) (ls := [some (.ref 77)]) rfl (fun d_1 hd_1 => ?_)
      refine am_run 2 (pc' := 4) (ls' := [some (.ref 77)]) (st' := [.int (σ.1 77 1)]) (σ' := σ) rfl ?_
      refine am_top (v' := nI w) o1 ?_
      refine am_if (ty := 11) (tn := 7) rfl (by decide) rfl rfl (fun (h_2 : nI w = 0) => ?_) (fun (h_2 : ¬ (nI w = 0)) => ?_)
      · have h_2 : w = 0 := (am_n0 (by omega)).mp h_2
        omega
      have h_2 : ¬ (w = 0) := fun z => h_2 ((am_n0 (by omega)).mpr z)
      refine am_run 2 (pc' := 12) (ls' := [some (.ref 77)]) (st' := [.int (nI 1)]) (σ' := σ) rfl ?_
      refine am_retz rfl rfl (by decide) ?_
      show am_G _ M_X3_differsFrom _ 4 [some (.ref 77), some (.ref 78)] [.int (nI 1)] σ
      refine am_if (ty := 7) (tn := 14) rfl (by decide) rfl rfl (fun (h_3 : nI 1 = 0) => ?_) (fun (h_3 : ¬ (nI 1 = 0)) => ?_)
      · exact absurd h_3 (by decide)
      refine am_run 1 (pc' := 15) (ls' := [some (.ref 77), some (.ref 78)]) (st' := [.ref 77]) (σ' := σ) rfl ?_
      refine am_invv (y := 52) (b := 77) (as := []) (rest := []) rfl rfl rfl rfl rfl rfl rfl (Nat.le_of_ble_eq_true rfl) ?_
      refine am_enter' rfl rfl rfl (by omega) (ls := [some (.ref 77)]) rfl (fun d_4 hd_4 => ?_)
      refine am_run 2 (pc' := 4) (ls' := [some (.ref 77)]) (st' := [.int (σ.1 77 1)]) (σ' := σ) rfl ?_
      refine am_top (v' := nI w) o1 ?_
      refine am_if (ty := 11) (tn := 7) rfl (by decide) rfl rfl (fun (h_5 : nI w = 0) => ?_) (fun (h_5 : ¬ (nI w = 0)) => ?_)
      · have h_5 : w = 0 := (am_n0 (by omega)).mp h_5
        omega
      have h_5 : ¬ (w = 0) := fun z => h_5 ((am_n0 (by omega)).mpr z)
      refine am_run 2 (pc' := 12) (ls' := [some (.ref 77)]) (st' := [.int (nI 1)]) (σ' := σ) rfl ?_
      refine am_retz rfl rfl (by decide) ?_
      show am_G _ M_X3_differsFrom _ 18 [some (.ref 77), some (.ref 78)] [.int (nI 1)] σ
      refine am_run 1 (pc' := 19) (ls' := [some (.ref 77), some (.ref 78)]) (st' := [.ref 78, .int (nI 1)]) (σ' := σ) rfl ?_
      refine am_invv (y := 52) (b := 78) (as := []) (rest := [.int (nI 1)]) rfl rfl rfl rfl rfl rfl rfl (Nat.le_of_ble_eq_true rfl) ?_
      refine am_enter' rfl rfl rfl (by omega) (ls := [some (.ref 78)]) rfl (fun d_6 hd_6 => ?_)
      refine am_run 2 (pc' := 4) (ls' := [some (.ref 78)]) (st' := [.int (σ.1 78 1)]) (σ' := σ) rfl ?_
      refine am_top (v' := nI w') q1 ?_
      refine am_if (ty := 11) (tn := 7) rfl (by decide) rfl rfl (fun (h_7 : nI w' = 0) => ?_) (fun (h_7 : ¬ (nI w' = 0)) => ?_)
      rotate_left
      · have h_7 : ¬ (w' = 0) := fun z => h_7 ((am_n0 (by omega)).mpr z)
        omega
      have h_7 : w' = 0 := (am_n0 (by omega)).mp h_7
      refine am_run 1 (pc' := 12) (ls' := [some (.ref 78)]) (st' := [.int (nI 0)]) (σ' := σ) rfl ?_
      refine am_retz rfl rfl (by decide) ?_
      show am_G _ M_X3_differsFrom _ 22 [some (.ref 77), some (.ref 78)] [.int (nI 0), .int (nI 1)] σ
      refine am_ic (ty := 29) (tn := 25) rfl (by decide) rfl rfl (fun (h_8 : nI 1 = nI 0) => ?_) (fun (h_8 : ¬ (nI 1 = nI 0)) => ?_)
      · exact absurd h_8 (by decide)
      refine am_run 2 (pc' := 30) (ls' := [some (.ref 77), some (.ref 78)]) (st' := [.int (nI 1)]) (σ' := σ) rfl ?_
      refine am_retz rfl rfl (by decide) ?_
      exact h1 (by unfold dif; simp [*])
    · skip
      refine am_enter' (M := M_X3_differsFrom) rfl rfl rfl (by omega) (ls := [some (.ref 77), some (.ref 78)]) rfl (fun d' hd' => ?_)
      refine am_run 1 (pc' := 1) (ls' := [some (.ref 77), some (.ref 78)]) (st' := [.ref 77]) (σ' := σ) rfl ?_
      refine am_invv (y := 52) (b := 77) (as := []) (rest := []) rfl rfl rfl rfl rfl rfl rfl (Nat.le_of_ble_eq_true rfl) ?_
      refine am_enter' rfl rfl rfl (by omega) (ls := [some (.ref 77)]) rfl (fun d_1 hd_1 => ?_)
      refine am_run 2 (pc' := 4) (ls' := [some (.ref 77)]) (st' := [.int (σ.1 77 1)]) (σ' := σ) rfl ?_
      refine am_top (v' := nI w) o1 ?_
      refine am_if (ty := 11) (tn := 7) rfl (by decide) rfl rfl (fun (h_2 : nI w = 0) => ?_) (fun (h_2 : ¬ (nI w = 0)) => ?_)
      · have h_2 : w = 0 := (am_n0 (by omega)).mp h_2
        omega
      have h_2 : ¬ (w = 0) := fun z => h_2 ((am_n0 (by omega)).mpr z)
      refine am_run 2 (pc' := 12) (ls' := [some (.ref 77)]) (st' := [.int (nI 1)]) (σ' := σ) rfl ?_
      refine am_retz rfl rfl (by decide) ?_
      show am_G _ M_X3_differsFrom _ 4 [some (.ref 77), some (.ref 78)] [.int (nI 1)] σ
      refine am_if (ty := 7) (tn := 14) rfl (by decide) rfl rfl (fun (h_3 : nI 1 = 0) => ?_) (fun (h_3 : ¬ (nI 1 = 0)) => ?_)
      · exact absurd h_3 (by decide)
      refine am_run 1 (pc' := 15) (ls' := [some (.ref 77), some (.ref 78)]) (st' := [.ref 77]) (σ' := σ) rfl ?_
      refine am_invv (y := 52) (b := 77) (as := []) (rest := []) rfl rfl rfl rfl rfl rfl rfl (Nat.le_of_ble_eq_true rfl) ?_
      refine am_enter' rfl rfl rfl (by omega) (ls := [some (.ref 77)]) rfl (fun d_4 hd_4 => ?_)
      refine am_run 2 (pc' := 4) (ls' := [some (.ref 77)]) (st' := [.int (σ.1 77 1)]) (σ' := σ) rfl ?_
      refine am_top (v' := nI w) o1 ?_
      refine am_if (ty := 11) (tn := 7) rfl (by decide) rfl rfl (fun (h_5 : nI w = 0) => ?_) (fun (h_5 : ¬ (nI w = 0)) => ?_)
      · have h_5 : w = 0 := (am_n0 (by omega)).mp h_5
        omega
      have h_5 : ¬ (w = 0) := fun z => h_5 ((am_n0 (by omega)).mpr z)
      refine am_run 2 (pc' := 12) (ls' := [some (.ref 77)]) (st' := [.int (nI 1)]) (σ' := σ) rfl ?_
      refine am_retz rfl rfl (by decide) ?_
      show am_G _ M_X3_differsFrom _ 18 [some (.ref 77), some (.ref 78)] [.int (nI 1)] σ
      refine am_run 1 (pc' := 19) (ls' := [some (.ref 77), some (.ref 78)]) (st' := [.ref 78, .int (nI 1)]) (σ' := σ) rfl ?_
      refine am_invv (y := 52) (b := 78) (as := []) (rest := [.int (nI 1)]) rfl rfl rfl rfl rfl rfl rfl (Nat.le_of_ble_eq_true rfl) ?_
      refine am_enter' rfl rfl rfl (by omega) (ls := [some (.ref 78)]) rfl (fun d_6 hd_6 => ?_)
      refine am_run 2 (pc' := 4) (ls' := [some (.ref 78)]) (st' := [.int (σ.1 78 1)]) (σ' := σ) rfl ?_
      refine am_top (v' := nI w') q1 ?_
      refine am_if (ty := 11) (tn := 7) rfl (by decide) rfl rfl (fun (h_7 : nI w' = 0) => ?_) (fun (h_7 : ¬ (nI w' = 0)) => ?_)
      · have h_7 : w' = 0 := (am_n0 (by omega)).mp h_7
        omega
      have h_7 : ¬ (w' = 0) := fun z => h_7 ((am_n0 (by omega)).mpr z)
      refine am_run 2 (pc' := 12) (ls' := [some (.ref 78)]) (st' := [.int (nI 1)]) (σ' := σ) rfl ?_
      refine am_retz rfl rfl (by decide) ?_
      show am_G _ M_X3_differsFrom _ 22 [some (.ref 77), some (.ref 78)] [.int (nI 1), .int (nI 1)] σ
      refine am_ic (ty := 29) (tn := 25) rfl (by decide) rfl rfl (fun (h_8 : nI 1 = nI 1) => ?_) (fun (h_8 : ¬ (nI 1 = nI 1)) => ?_)
      rotate_left
      · exact absurd (by decide) h_8
      refine am_run 1 (pc' := 30) (ls' := [some (.ref 77), some (.ref 78)]) (st' := [.int (nI 0)]) (σ' := σ) rfl ?_
      refine am_retz rfl rfl (by decide) ?_
      exact h0 (by unfold dif; simp [*])
set_option maxRecDepth 10000 in
set_option maxHeartbeats 2000000 in
theorem c_comp_loop {d : Nat} (hd : 520 ≤ d) {σ0 : am_M} {t n r t' n' r' mk k S : Nat} {p p' : Pg} (hW : PW p n) (hR : TR σ0 t p n) (hrn : r < n) (hro : ROOT σ0 t (r + 1)) (hV : ∀ s u, u < 256 → VS p r (oc p (r + 1) s u).2.2.2.2.1) (hW' : PW p' n') (hR' : TR σ0 t' p' n') (hrn' : r' < n') (hro' : ROOT σ0 t' (r' + 1)) (hV' : ∀ s u, u < 256 → VS p' r' (oc p' (r' + 1) s u).2.2.2.2.1) (hmk : mk < 256) (hmv : mkv mk) {Q : am_Q} : ∀ (m i : Nat) (σ' : am_M) (c : Nat) (f g h : Nat → Nat), i + m = 2 ^ pcn mk 21 → KX σ0 σ' → TX σ' 200 c f g h → k < c → VA p r c f → VA p' r' c g → h k + 1 = S → (∀ σ'', KX σ0 σ'' → (pa_in p (r + 1) p' (r' + 1) mk m i k c f g h).1 ≠ none → Q (some (.int ((pa_in p (r + 1) p' (r' + 1) mk m i k c f g h).1.getD 0))) σ'') → (∀ σ'', KX σ0 σ'' → (pa_in p (r + 1) p' (r' + 1) mk m i k c f g h).1 = none → TX σ'' 200 (pa_in p (r + 1) p' (r' + 1) mk m i k c f g h).2.1 (pa_in p (r + 1) p' (r' + 1) mk m i k c f g h).2.2.1 (pa_in p (r + 1) p' (r' + 1) mk m i k c f g h).2.2.2.1 (pa_in p (r + 1) p' (r' + 1) mk m i k c f g h).2.2.2.2 → VA p r (pa_in p (r + 1) p' (r' + 1) mk m i k c f g h).2.1 (pa_in p (r + 1) p' (r' + 1) mk m i k c f g h).2.2.1 → VA p' r' (pa_in p (r + 1) p' (r' + 1) mk m i k c f g h).2.1 (pa_in p (r + 1) p' (r' + 1) mk m i k c f g h).2.2.2.1 → Q (some (.int (-1))) σ'') → am_G d M_X9_compareFrom Q 18 [some (.ref 41), some (.ref t), some (.ref t'), some (.int (nI k)), some (.int (nI mk)), some (.int (nI S)), some (.int (nI (pt mk i))), some (.int (nI i))] [] σ'
  | 0, i, σ', c, f, g, h, hm, hK, hT, hkc, hVA, hVB, hh, hA, hN => by
    have h8 := ((mk_f mk hmk).2 hmv.2).1
    have e : i = 2 ^ pcn mk 21 := by omega
    refine am_run 2 (pc' := 22) (ls' := [some (.ref 41), some (.ref t), some (.ref t'), some (.int (nI k)), some (.int (nI mk)), some (.int (nI S)), some (.int (nI (pt mk i))), some (.int (nI i))]) (st' := [.int (nI mk), .int (nI i)]) (σ' := σ') rfl ?_
    refine am_invs (y := 143) (as := [.int (nI mk)]) (rest := [.int (nI i)]) rfl rfl rfl rfl rfl rfl (Nat.le_of_ble_eq_true rfl) ?_
    refine c_subsetsOf (by omega) hmk hmv ?_
    show am_G _ M_X9_compareFrom _ 25 [some (.ref 41), some (.ref t), some (.ref t'), some (.int (nI k)), some (.int (nI mk)), some (.int (nI S)), some (.int (nI (pt mk i))), some (.int (nI i))] [.int (nI (2 ^ pcn mk 21)), .int (nI i)] σ'
    refine am_ic (ty := 28) (tn := 136) rfl (by decide) rfl rfl (fun (h_1 : nI i < nI (2 ^ pcn mk 21)) => ?_) (fun (h_1 : ¬ (nI i < nI (2 ^ pcn mk 21))) => ?_)
    · have h_1 : i < 2 ^ pcn mk 21 := (nI_ltI (by omega) (by omega)).mp h_1
      omega
    have h_1 : ¬ (i < 2 ^ pcn mk 21) := fun z => h_1 ((nI_ltI (by omega) (by omega)).mpr z)
    refine am_run 1 (pc' := 137) (ls' := [some (.ref 41), some (.ref t), some (.ref t'), some (.int (nI k)), some (.int (nI mk)), some (.int (nI S)), some (.int (nI (pt mk i))), some (.int (nI i))]) (st' := [.int (-1)]) (σ' := σ') rfl ?_
    refine am_reti rfl rfl ?_
    exact hN σ' hK rfl hT hVA hVB
  | m + 1, i, σ', c, f, g, h, hm, hK, hT, hkc, hVA, hVB, hh, hA, hN => by
    have h8 := ((mk_f mk hmk).2 hmv.2).1
    have hT3 := hR.t3
    have hT3' := hR'.t3
    obtain ⟨t1, t2, t3, t4, t5⟩ := id hT
    obtain ⟨-, -, -, f4, f5, f6⟩ := t5 k hkc
    obtain ⟨b1, b2, b3_, b4_, b5_, b6_⟩ := oc_b (s := f k) hW (show r + 1 ≤ n by omega) (pt_lt mk i)
    have hnv := hV (f k) (pt mk i) (pt_lt mk i)
    generalize hz : oc p (r + 1) (f k) (pt mk i) = z0_ at b1 b2 b3_ b4_ b5_ b6_ hnv 
    obtain ⟨P, A, w, c1, nx, rd⟩ := z0_
    have b1 : P < 256 := b1
    have b2 : A < 256 := b2
    have b3_ : w ≤ 256 := b3_
    have b4_ : c1 ≤ 6 := b4_
    have b5_ : nx < 1048576 := b5_
    have b6_ : rd ≤ 9 := b6_
    have hnv : VS p r nx := hnv
    obtain ⟨b1', b2', b3', b4', b5', b6'⟩ := oc_b (s := g k) hW' (show r' + 1 ≤ n' by omega) (pt_lt mk i)
    have hnv' := hV' (g k) (pt mk i) (pt_lt mk i)
    generalize hz' : oc p' (r' + 1) (g k) (pt mk i) = z0' at b1' b2' b3' b4' b5' b6' hnv'
    obtain ⟨P', A', w', c1', nx', rd'⟩ := z0'
    have b1' : P' < 256 := b1'
    have b2' : A' < 256 := b2'
    have b3' : w' ≤ 256 := b3'
    have b5' : nx' < 1048576 := b5'
    have hnv' : VS p' r' nx' := hnv'
    rcases bt (dif w P w' P') with hsh | hsh
    · skip
      refine am_run 2 (pc' := 22) (ls' := [some (.ref 41), some (.ref t), some (.ref t'), some (.int (nI k)), some (.int (nI mk)), some (.int (nI S)), some (.int (nI (pt mk i))), some (.int (nI i))]) (st' := [.int (nI mk), .int (nI i)]) (σ' := σ') rfl ?_
      refine am_invs (y := 143) (as := [.int (nI mk)]) (rest := [.int (nI i)]) rfl rfl rfl rfl rfl rfl (Nat.le_of_ble_eq_true rfl) ?_
      refine c_subsetsOf (by omega) hmk hmv ?_
      show am_G _ M_X9_compareFrom _ 25 [some (.ref 41), some (.ref t), some (.ref t'), some (.int (nI k)), some (.int (nI mk)), some (.int (nI S)), some (.int (nI (pt mk i))), some (.int (nI i))] [.int (nI (2 ^ pcn mk 21)), .int (nI i)] σ'
      refine am_ic (ty := 28) (tn := 136) rfl (by decide) rfl rfl (fun (h_1 : nI i < nI (2 ^ pcn mk 21)) => ?_) (fun (h_1 : ¬ (nI i < nI (2 ^ pcn mk 21))) => ?_)
      rotate_left
      · have h_1 : ¬ (i < 2 ^ pcn mk 21) := fun z => h_1 ((nI_ltI (by omega) (by omega)).mpr z)
        omega
      have h_1 : i < 2 ^ pcn mk 21 := (nI_ltI (by omega) (by omega)).mp h_1
      refine am_run 6 (pc' := 38) (ls' := [some (.ref 41), some (.ref t), some (.ref t'), some (.int (nI k)), some (.int (nI mk)), some (.int (nI S)), some (.int (nI (pt mk i))), some (.int (nI i))]) (st' := [.int (nI k), .ref 79, .ref t, .ref 77]) (σ' := σ') rfl ?_
      refine am_invv (y := 75) (b := 79) (as := [.int (nI k)]) (rest := [.ref t, .ref 77]) rfl rfl rfl rfl rfl rfl rfl (Nat.le_of_ble_eq_true rfl) ?_
      refine c_firstAt (by omega) hT hkc ?_
      show am_G _ M_X9_compareFrom _ 41 [some (.ref 41), some (.ref t), some (.ref t'), some (.int (nI k)), some (.int (nI mk)), some (.int (nI S)), some (.int (nI (pt mk i))), some (.int (nI i))] [.int (nI (f k)), .ref t, .ref 77] σ'
      refine am_run 1 (pc' := 43) (ls' := [some (.ref 41), some (.ref t), some (.ref t'), some (.int (nI k)), some (.int (nI mk)), some (.int (nI S)), some (.int (nI (pt mk i))), some (.int (nI i))]) (st' := [.int (nI (pt mk i)), .int (nI (f k)), .ref t, .ref 77]) (σ' := σ') rfl ?_
      refine am_invv (y := 56) (b := 77) (as := [.ref t, .int (nI (f k)), .int (nI (pt mk i))]) (rest := []) rfl rfl rfl rfl rfl rfl rfl (Nat.le_of_ble_eq_true rfl) ?_
      refine c_determine (by omega) hW (hK.TR hR) (show r + 1 ≤ n by omega) (hK.RT hT3 hro) (Or.inl rfl) f4 (pt_lt mk i) (fun σ2 hKc hO => ?_)
      rw [hz] at hO
      have hK2 := hK.kc hKc (Or.inl rfl)
      have hT2 := hT.keep (fun c a => hKc.1 c (by omega))
      show am_G _ M_X9_compareFrom _ 46 [some (.ref 41), some (.ref t), some (.ref t'), some (.int (nI k)), some (.int (nI mk)), some (.int (nI S)), some (.int (nI (pt mk i))), some (.int (nI i))] [] σ2
      refine am_run 6 (pc' := 56) (ls' := [some (.ref 41), some (.ref t), some (.ref t'), some (.int (nI k)), some (.int (nI mk)), some (.int (nI S)), some (.int (nI (pt mk i))), some (.int (nI i))]) (st' := [.int (nI k), .ref 79, .ref t', .ref 78]) (σ' := σ2) rfl ?_
      refine am_invv (y := 76) (b := 79) (as := [.int (nI k)]) (rest := [.ref t', .ref 78]) rfl rfl rfl rfl rfl rfl rfl (Nat.le_of_ble_eq_true rfl) ?_
      refine c_secondAt (by omega) hT2 hkc ?_
      show am_G _ M_X9_compareFrom _ 59 [some (.ref 41), some (.ref t), some (.ref t'), some (.int (nI k)), some (.int (nI mk)), some (.int (nI S)), some (.int (nI (pt mk i))), some (.int (nI i))] [.int (nI (g k)), .ref t', .ref 78] σ2
      refine am_run 1 (pc' := 61) (ls' := [some (.ref 41), some (.ref t), some (.ref t'), some (.int (nI k)), some (.int (nI mk)), some (.int (nI S)), some (.int (nI (pt mk i))), some (.int (nI i))]) (st' := [.int (nI (pt mk i)), .int (nI (g k)), .ref t', .ref 78]) (σ' := σ2) rfl ?_
      refine am_invv (y := 56) (b := 78) (as := [.ref t', .int (nI (g k)), .int (nI (pt mk i))]) (rest := []) rfl rfl rfl rfl rfl rfl rfl (Nat.le_of_ble_eq_true rfl) ?_
      refine c_determine (by omega) hW' (hK2.TR hR') (show r' + 1 ≤ n' by omega) (hK2.RT hT3' hro') (Or.inr rfl) f5 (pt_lt mk i) (fun σ3 hKc3 hO' => ?_)
      rw [hz'] at hO'
      obtain ⟨o0, o1, o2, o3, o4⟩ : σ3.1 77 0 = nI (P + 256 * A) ∧ σ3.1 77 1 = nI w ∧ σ3.1 77 2 = nI c1 ∧ σ3.1 77 3 = nI nx ∧ σ3.1 77 4 = nI rd := by rw [hKc3.1 77 (by decide)]; exact hO
      obtain ⟨q0, q1, q2, q3, q4⟩ : σ3.1 78 0 = nI (P' + 256 * A') ∧ σ3.1 78 1 = nI w' ∧ σ3.1 78 2 = nI c1' ∧ σ3.1 78 3 = nI nx' ∧ σ3.1 78 4 = nI rd' := hO'
      have hK3 := hK2.kc hKc3 (Or.inr rfl)
      have hT3_ := hT2.keep (fun c a => hKc3.1 c (by omega))
      show am_G _ M_X9_compareFrom _ 64 [some (.ref 41), some (.ref t), some (.ref t'), some (.int (nI k)), some (.int (nI mk)), some (.int (nI S)), some (.int (nI (pt mk i))), some (.int (nI i))] [] σ3
      refine am_run 4 (pc' := 72) (ls' := [some (.ref 41), some (.ref t), some (.ref t'), some (.int (nI k)), some (.int (nI mk)), some (.int (nI S)), some (.int (nI (pt mk i))), some (.int (nI i))]) (st' := [.ref 78, .ref 77]) (σ' := σ3) rfl ?_
      refine am_invv (y := 60) (b := 77) (as := [.ref 78]) (rest := []) rfl rfl rfl rfl rfl rfl rfl (Nat.le_of_ble_eq_true rfl) ?_
      refine c_differs (by omega) b1 b1' (by omega) (by omega) o0 o1 q0 q1 (fun _ => ?_) (fun z => absurd (hsh.symm.trans z) (by decide))
      show am_G _ M_X9_compareFrom _ 75 [some (.ref 41), some (.ref t), some (.ref t'), some (.int (nI k)), some (.int (nI mk)), some (.int (nI S)), some (.int (nI (pt mk i))), some (.int (nI i))] [.int (nI 1)] σ3
      refine am_if (ty := 81) (tn := 78) rfl (by decide) rfl rfl (fun (h_2 : nI 1 = 0) => ?_) (fun (h_2 : ¬ (nI 1 = 0)) => ?_)
      · exact absurd h_2 (by decide)
      refine am_run 1 (pc' := 80) (ls' := [some (.ref 41), some (.ref t), some (.ref t'), some (.int (nI k)), some (.int (nI mk)), some (.int (nI S)), some (.int (nI (pt mk i))), some (.int (nI i))]) (st' := [.int (nI S)]) (σ' := σ3) rfl ?_
      refine am_reti rfl rfl ?_
      have e : (pa_in p (r + 1) p' (r' + 1) mk (m + 1) i k c f g h) = (some (nI (h k + 1)), c, f, g, h) := by show (if dif (oc p (r + 1) (f k) (pt mk i)).2.2.1 (oc p (r + 1) (f k) (pt mk i)).1 (oc p' (r' + 1) (g k) (pt mk i)).2.2.1 (oc p' (r' + 1) (g k) (pt mk i)).1 = true then _ else _) = _; rw [hz, hz']; rw [if_pos (show dif (P, A, w, c1, nx, rd).2.2.1 (P, A, w, c1, nx, rd).1 (P', A', w', c1', nx', rd').2.2.1 (P', A', w', c1', nx', rd').1 = true from hsh)]
      rw [e] at hA
      subst hh
      exact hA σ3 hK3 (fun z => by cases z)
    · by_cases hw0 : w = 0
      · subst hw0
        have hfl := fnd_le f g nx nx' c
        by_cases hfn : fnd f g nx nx' c < c
        · skip
          refine am_run 2 (pc' := 22) (ls' := [some (.ref 41), some (.ref t), some (.ref t'), some (.int (nI k)), some (.int (nI mk)), some (.int (nI S)), some (.int (nI (pt mk i))), some (.int (nI i))]) (st' := [.int (nI mk), .int (nI i)]) (σ' := σ') rfl ?_
          refine am_invs (y := 143) (as := [.int (nI mk)]) (rest := [.int (nI i)]) rfl rfl rfl rfl rfl rfl (Nat.le_of_ble_eq_true rfl) ?_
          refine c_subsetsOf (by omega) hmk hmv ?_
          show am_G _ M_X9_compareFrom _ 25 [some (.ref 41), some (.ref t), some (.ref t'), some (.int (nI k)), some (.int (nI mk)), some (.int (nI S)), some (.int (nI (pt mk i))), some (.int (nI i))] [.int (nI (2 ^ pcn mk 21)), .int (nI i)] σ'
          refine am_ic (ty := 28) (tn := 136) rfl (by decide) rfl rfl (fun (h_1 : nI i < nI (2 ^ pcn mk 21)) => ?_) (fun (h_1 : ¬ (nI i < nI (2 ^ pcn mk 21))) => ?_)
          rotate_left
          · have h_1 : ¬ (i < 2 ^ pcn mk 21) := fun z => h_1 ((nI_ltI (by omega) (by omega)).mpr z)
            omega
          have h_1 : i < 2 ^ pcn mk 21 := (nI_ltI (by omega) (by omega)).mp h_1
          refine am_run 6 (pc' := 38) (ls' := [some (.ref 41), some (.ref t), some (.ref t'), some (.int (nI k)), some (.int (nI mk)), some (.int (nI S)), some (.int (nI (pt mk i))), some (.int (nI i))]) (st' := [.int (nI k), .ref 79, .ref t, .ref 77]) (σ' := σ') rfl ?_
          refine am_invv (y := 75) (b := 79) (as := [.int (nI k)]) (rest := [.ref t, .ref 77]) rfl rfl rfl rfl rfl rfl rfl (Nat.le_of_ble_eq_true rfl) ?_
          refine c_firstAt (by omega) hT hkc ?_
          show am_G _ M_X9_compareFrom _ 41 [some (.ref 41), some (.ref t), some (.ref t'), some (.int (nI k)), some (.int (nI mk)), some (.int (nI S)), some (.int (nI (pt mk i))), some (.int (nI i))] [.int (nI (f k)), .ref t, .ref 77] σ'
          refine am_run 1 (pc' := 43) (ls' := [some (.ref 41), some (.ref t), some (.ref t'), some (.int (nI k)), some (.int (nI mk)), some (.int (nI S)), some (.int (nI (pt mk i))), some (.int (nI i))]) (st' := [.int (nI (pt mk i)), .int (nI (f k)), .ref t, .ref 77]) (σ' := σ') rfl ?_
          refine am_invv (y := 56) (b := 77) (as := [.ref t, .int (nI (f k)), .int (nI (pt mk i))]) (rest := []) rfl rfl rfl rfl rfl rfl rfl (Nat.le_of_ble_eq_true rfl) ?_
          refine c_determine (by omega) hW (hK.TR hR) (show r + 1 ≤ n by omega) (hK.RT hT3 hro) (Or.inl rfl) f4 (pt_lt mk i) (fun σ2 hKc hO => ?_)
          rw [hz] at hO
          have hK2 := hK.kc hKc (Or.inl rfl)
          have hT2 := hT.keep (fun c a => hKc.1 c (by omega))
          show am_G _ M_X9_compareFrom _ 46 [some (.ref 41), some (.ref t), some (.ref t'), some (.int (nI k)), some (.int (nI mk)), some (.int (nI S)), some (.int (nI (pt mk i))), some (.int (nI i))] [] σ2
          refine am_run 6 (pc' := 56) (ls' := [some (.ref 41), some (.ref t), some (.ref t'), some (.int (nI k)), some (.int (nI mk)), some (.int (nI S)), some (.int (nI (pt mk i))), some (.int (nI i))]) (st' := [.int (nI k), .ref 79, .ref t', .ref 78]) (σ' := σ2) rfl ?_
          refine am_invv (y := 76) (b := 79) (as := [.int (nI k)]) (rest := [.ref t', .ref 78]) rfl rfl rfl rfl rfl rfl rfl (Nat.le_of_ble_eq_true rfl) ?_
          refine c_secondAt (by omega) hT2 hkc ?_
          show am_G _ M_X9_compareFrom _ 59 [some (.ref 41), some (.ref t), some (.ref t'), some (.int (nI k)), some (.int (nI mk)), some (.int (nI S)), some (.int (nI (pt mk i))), some (.int (nI i))] [.int (nI (g k)), .ref t', .ref 78] σ2
          refine am_run 1 (pc' := 61) (ls' := [some (.ref 41), some (.ref t), some (.ref t'), some (.int (nI k)), some (.int (nI mk)), some (.int (nI S)), some (.int (nI (pt mk i))), some (.int (nI i))]) (st' := [.int (nI (pt mk i)), .int (nI (g k)), .ref t', .ref 78]) (σ' := σ2) rfl ?_
          refine am_invv (y := 56) (b := 78) (as := [.ref t', .int (nI (g k)), .int (nI (pt mk i))]) (rest := []) rfl rfl rfl rfl rfl rfl rfl (Nat.le_of_ble_eq_true rfl) ?_
          refine c_determine (by omega) hW' (hK2.TR hR') (show r' + 1 ≤ n' by omega) (hK2.RT hT3' hro') (Or.inr rfl) f5 (pt_lt mk i) (fun σ3 hKc3 hO' => ?_)
          rw [hz'] at hO'
          obtain ⟨o0, o1, o2, o3, o4⟩ : σ3.1 77 0 = nI (P + 256 * A) ∧ σ3.1 77 1 = nI 0 ∧ σ3.1 77 2 = nI c1 ∧ σ3.1 77 3 = nI nx ∧ σ3.1 77 4 = nI rd := by rw [hKc3.1 77 (by decide)]; exact hO
          obtain ⟨q0, q1, q2, q3, q4⟩ : σ3.1 78 0 = nI (P' + 256 * A') ∧ σ3.1 78 1 = nI w' ∧ σ3.1 78 2 = nI c1' ∧ σ3.1 78 3 = nI nx' ∧ σ3.1 78 4 = nI rd' := hO'
          have hK3 := hK2.kc hKc3 (Or.inr rfl)
          have hT3_ := hT2.keep (fun c a => hKc3.1 c (by omega))
          show am_G _ M_X9_compareFrom _ 64 [some (.ref 41), some (.ref t), some (.ref t'), some (.int (nI k)), some (.int (nI mk)), some (.int (nI S)), some (.int (nI (pt mk i))), some (.int (nI i))] [] σ3
          refine am_run 4 (pc' := 72) (ls' := [some (.ref 41), some (.ref t), some (.ref t'), some (.int (nI k)), some (.int (nI mk)), some (.int (nI S)), some (.int (nI (pt mk i))), some (.int (nI i))]) (st' := [.ref 78, .ref 77]) (σ' := σ3) rfl ?_
          refine am_invv (y := 60) (b := 77) (as := [.ref 78]) (rest := []) rfl rfl rfl rfl rfl rfl rfl (Nat.le_of_ble_eq_true rfl) ?_
          refine c_differs (by omega) b1 b1' (by omega) (by omega) o0 o1 q0 q1 (fun z => absurd (hsh.symm.trans z) (by decide)) (fun _ => ?_)
          show am_G _ M_X9_compareFrom _ 75 [some (.ref 41), some (.ref t), some (.ref t'), some (.int (nI k)), some (.int (nI mk)), some (.int (nI S)), some (.int (nI (pt mk i))), some (.int (nI i))] [.int (nI 0)] σ3
          refine am_if (ty := 81) (tn := 78) rfl (by decide) rfl rfl (fun (h_2 : nI 0 = 0) => ?_) (fun (h_2 : ¬ (nI 0 = 0)) => ?_)
          rotate_left
          · exact absurd (by decide) h_2
          refine am_run 2 (pc' := 85) (ls' := [some (.ref 41), some (.ref t), some (.ref t'), some (.int (nI k)), some (.int (nI mk)), some (.int (nI S)), some (.int (nI (pt mk i))), some (.int (nI i))]) (st' := [.ref 77]) (σ' := σ3) rfl ?_
          refine am_invv (y := 52) (b := 77) (as := []) (rest := []) rfl rfl rfl rfl rfl rfl rfl (Nat.le_of_ble_eq_true rfl) ?_
          refine am_enter' rfl rfl rfl (by omega) (ls := [some (.ref 77)]) rfl (fun d_3 hd_3 => ?_)
          refine am_run 2 (pc' := 4) (ls' := [some (.ref 77)]) (st' := [.int (σ3.1 77 1)]) (σ' := σ3) rfl ?_
          refine am_top (v' := nI 0) o1 ?_
          refine am_if (ty := 11) (tn := 7) rfl (by decide) rfl rfl (fun (h_4 : nI 0 = 0) => ?_) (fun (h_4 : ¬ (nI 0 = 0)) => ?_)
          rotate_left
          · exact absurd (by decide) h_4
          refine am_run 1 (pc' := 12) (ls' := [some (.ref 77)]) (st' := [.int (nI 0)]) (σ' := σ3) rfl ?_
          refine am_retz rfl rfl (by decide) ?_
          show am_G _ M_X9_compareFrom _ 88 [some (.ref 41), some (.ref t), some (.ref t'), some (.int (nI k)), some (.int (nI mk)), some (.int (nI S)), some (.int (nI (pt mk i))), some (.int (nI i))] [.int (nI 0)] σ3
          refine am_if (ty := 91) (tn := 121) rfl (by decide) rfl rfl (fun (h_5 : nI 0 = 0) => ?_) (fun (h_5 : ¬ (nI 0 = 0)) => ?_)
          rotate_left
          · exact absurd (by decide) h_5
          refine am_run 4 (pc' := 99) (ls' := [some (.ref 41), some (.ref t), some (.ref t'), some (.int (nI k)), some (.int (nI mk)), some (.int (nI S)), some (.int (nI (pt mk i))), some (.int (nI i))]) (st' := [.ref 77, .ref 79]) (σ' := σ3) rfl ?_
          refine am_invv (y := 54) (b := 77) (as := []) (rest := [.ref 79]) rfl rfl rfl rfl rfl rfl rfl (Nat.le_of_ble_eq_true rfl) ?_
          refine am_enter' rfl rfl rfl (by omega) (ls := [some (.ref 77)]) rfl (fun d_6 hd_6 => ?_)
          refine am_run 2 (pc' := 4) (ls' := [some (.ref 77)]) (st' := [.int (σ3.1 77 3)]) (σ' := σ3) rfl ?_
          refine am_top (v' := nI nx) o3 ?_
          refine am_reti rfl rfl ?_
          show am_G _ M_X9_compareFrom _ 102 [some (.ref 41), some (.ref t), some (.ref t'), some (.int (nI k)), some (.int (nI mk)), some (.int (nI S)), some (.int (nI (pt mk i))), some (.int (nI i))] [.int (nI nx), .ref 79] σ3
          refine am_run 2 (pc' := 106) (ls' := [some (.ref 41), some (.ref t), some (.ref t'), some (.int (nI k)), some (.int (nI mk)), some (.int (nI S)), some (.int (nI (pt mk i))), some (.int (nI i))]) (st' := [.ref 78, .int (nI nx), .ref 79]) (σ' := σ3) rfl ?_
          refine am_invv (y := 54) (b := 78) (as := []) (rest := [.int (nI nx), .ref 79]) rfl rfl rfl rfl rfl rfl rfl (Nat.le_of_ble_eq_true rfl) ?_
          refine am_enter' rfl rfl rfl (by omega) (ls := [some (.ref 78)]) rfl (fun d_7 hd_7 => ?_)
          refine am_run 2 (pc' := 4) (ls' := [some (.ref 78)]) (st' := [.int (σ3.1 78 3)]) (σ' := σ3) rfl ?_
          refine am_top (v' := nI nx') q3 ?_
          refine am_reti rfl rfl ?_
          show am_G _ M_X9_compareFrom _ 109 [some (.ref 41), some (.ref t), some (.ref t'), some (.int (nI k)), some (.int (nI mk)), some (.int (nI S)), some (.int (nI (pt mk i))), some (.int (nI i))] [.int (nI nx'), .int (nI nx), .ref 79] σ3
          refine am_run 1 (pc' := 111) (ls' := [some (.ref 41), some (.ref t), some (.ref t'), some (.int (nI k)), some (.int (nI mk)), some (.int (nI S)), some (.int (nI (pt mk i))), some (.int (nI i))]) (st' := [.int (nI S), .int (nI nx'), .int (nI nx), .ref 79]) (σ' := σ3) rfl ?_
          refine am_invv (y := 78) (b := 79) (as := [.int (nI nx), .int (nI nx'), .int (nI S)]) (rest := []) rfl rfl rfl rfl rfl rfl rfl (Nat.le_of_ble_eq_true rfl) ?_
          refine c_reach (by omega) hT3_ (by omega) (by omega) (fun _ => ?_) (fun z => absurd hfn (by omega)) (fun z => absurd hfn (by omega))
          show am_G _ M_X9_compareFrom _ 114 [some (.ref 41), some (.ref t), some (.ref t'), some (.int (nI k)), some (.int (nI mk)), some (.int (nI S)), some (.int (nI (pt mk i))), some (.int (nI i))] [.int (nI (fnd f g nx nx' c))] σ3
          refine am_run 1 (pc' := 115) (ls' := [some (.ref 41), some (.ref t), some (.ref t'), some (.int (nI k)), some (.int (nI mk)), some (.int (nI S)), some (.int (nI (pt mk i))), some (.int (nI i))]) (st' := [.int (-1), .int (nI (fnd f g nx nx' c))]) (σ' := σ3) rfl ?_
          refine am_ic (ty := 118) (tn := 121) rfl (by decide) rfl rfl (fun (h_8 : nI (fnd f g nx nx' c) = -1) => ?_) (fun (h_8 : ¬ (nI (fnd f g nx nx' c) = -1)) => ?_)
          · exact absurd h_8 (am_nm1 (by omega))
          refine am_run 2 (pc' := 125) (ls' := [some (.ref 41), some (.ref t), some (.ref t'), some (.int (nI k)), some (.int (nI mk)), some (.int (nI S)), some (.int (nI (pt mk i))), some (.int (nI i))]) (st' := [.int (nI mk), .int (nI (pt mk i))]) (σ' := σ3) rfl ?_
          refine am_invs (y := 144) (as := [.int (nI (pt mk i)), .int (nI mk)]) (rest := []) rfl rfl rfl rfl rfl rfl (Nat.le_of_ble_eq_true rfl) ?_
          refine c_subsetAfter (by omega) hmk hmv (by omega) ?_
          show am_G _ M_X9_compareFrom _ 128 [some (.ref 41), some (.ref t), some (.ref t'), some (.int (nI k)), some (.int (nI mk)), some (.int (nI S)), some (.int (nI (pt mk i))), some (.int (nI i))] [.int (nI (pt mk (i + 1)))] σ3
          refine am_run 2 (pc' := 133) (ls' := [some (.ref 41), some (.ref t), some (.ref t'), some (.int (nI k)), some (.int (nI mk)), some (.int (nI S)), some (.int (nI (pt mk (i + 1)))), some (.int (nI i + nI 1))]) (st' := []) (σ' := σ3) rfl ?_
          refine am_ls (ls' := [some (.ref 41), some (.ref t), some (.ref t'), some (.int (nI k)), some (.int (nI mk)), some (.int (nI S)), some (.int (nI (pt mk (i + 1)))), some (.int (nI (i + 1)))]) (by rw [nI_add]) ?_
          refine am_run 1 (pc' := 18) (ls' := [some (.ref 41), some (.ref t), some (.ref t'), some (.int (nI k)), some (.int (nI mk)), some (.int (nI S)), some (.int (nI (pt mk (i + 1)))), some (.int (nI (i + 1)))]) (st' := []) (σ' := σ3) rfl ?_
          have e : (pa_in p (r + 1) p' (r' + 1) mk (m + 1) i k c f g h) = (pa_in p (r + 1) p' (r' + 1) mk m (i + 1) k c f g h) := by show (if dif (oc p (r + 1) (f k) (pt mk i)).2.2.1 (oc p (r + 1) (f k) (pt mk i)).1 (oc p' (r' + 1) (g k) (pt mk i)).2.2.1 (oc p' (r' + 1) (g k) (pt mk i)).1 = true then _ else _) = _; rw [hz, hz']; rw [if_neg (show ¬ dif (P, A, 0, c1, nx, rd).2.2.1 (P, A, 0, c1, nx, rd).1 (P', A', w', c1', nx', rd').2.2.1 (P', A', w', c1', nx', rd').1 = true from nfl hsh), if_pos rfl, if_pos hfn]
          rw [e] at hA hN
          exact c_comp_loop hd hW hR hrn hro hV hW' hR' hrn' hro' hV' hmk hmv m (i + 1) _ c f g h (by omega) hK3 hT3_ hkc hVA hVB hh hA hN
        · by_cases hc100 : c = 200
          · skip
            refine am_run 2 (pc' := 22) (ls' := [some (.ref 41), some (.ref t), some (.ref t'), some (.int (nI k)), some (.int (nI mk)), some (.int (nI S)), some (.int (nI (pt mk i))), some (.int (nI i))]) (st' := [.int (nI mk), .int (nI i)]) (σ' := σ') rfl ?_
            refine am_invs (y := 143) (as := [.int (nI mk)]) (rest := [.int (nI i)]) rfl rfl rfl rfl rfl rfl (Nat.le_of_ble_eq_true rfl) ?_
            refine c_subsetsOf (by omega) hmk hmv ?_
            show am_G _ M_X9_compareFrom _ 25 [some (.ref 41), some (.ref t), some (.ref t'), some (.int (nI k)), some (.int (nI mk)), some (.int (nI S)), some (.int (nI (pt mk i))), some (.int (nI i))] [.int (nI (2 ^ pcn mk 21)), .int (nI i)] σ'
            refine am_ic (ty := 28) (tn := 136) rfl (by decide) rfl rfl (fun (h_1 : nI i < nI (2 ^ pcn mk 21)) => ?_) (fun (h_1 : ¬ (nI i < nI (2 ^ pcn mk 21))) => ?_)
            rotate_left
            · have h_1 : ¬ (i < 2 ^ pcn mk 21) := fun z => h_1 ((nI_ltI (by omega) (by omega)).mpr z)
              omega
            have h_1 : i < 2 ^ pcn mk 21 := (nI_ltI (by omega) (by omega)).mp h_1
            refine am_run 6 (pc' := 38) (ls' := [some (.ref 41), some (.ref t), some (.ref t'), some (.int (nI k)), some (.int (nI mk)), some (.int (nI S)), some (.int (nI (pt mk i))), some (.int (nI i))]) (st' := [.int (nI k), .ref 79, .ref t, .ref 77]) (σ' := σ') rfl ?_
            refine am_invv (y := 75) (b := 79) (as := [.int (nI k)]) (rest := [.ref t, .ref 77]) rfl rfl rfl rfl rfl rfl rfl (Nat.le_of_ble_eq_true rfl) ?_
            refine c_firstAt (by omega) hT hkc ?_
            show am_G _ M_X9_compareFrom _ 41 [some (.ref 41), some (.ref t), some (.ref t'), some (.int (nI k)), some (.int (nI mk)), some (.int (nI S)), some (.int (nI (pt mk i))), some (.int (nI i))] [.int (nI (f k)), .ref t, .ref 77] σ'
            refine am_run 1 (pc' := 43) (ls' := [some (.ref 41), some (.ref t), some (.ref t'), some (.int (nI k)), some (.int (nI mk)), some (.int (nI S)), some (.int (nI (pt mk i))), some (.int (nI i))]) (st' := [.int (nI (pt mk i)), .int (nI (f k)), .ref t, .ref 77]) (σ' := σ') rfl ?_
            refine am_invv (y := 56) (b := 77) (as := [.ref t, .int (nI (f k)), .int (nI (pt mk i))]) (rest := []) rfl rfl rfl rfl rfl rfl rfl (Nat.le_of_ble_eq_true rfl) ?_
            refine c_determine (by omega) hW (hK.TR hR) (show r + 1 ≤ n by omega) (hK.RT hT3 hro) (Or.inl rfl) f4 (pt_lt mk i) (fun σ2 hKc hO => ?_)
            rw [hz] at hO
            have hK2 := hK.kc hKc (Or.inl rfl)
            have hT2 := hT.keep (fun c a => hKc.1 c (by omega))
            show am_G _ M_X9_compareFrom _ 46 [some (.ref 41), some (.ref t), some (.ref t'), some (.int (nI k)), some (.int (nI mk)), some (.int (nI S)), some (.int (nI (pt mk i))), some (.int (nI i))] [] σ2
            refine am_run 6 (pc' := 56) (ls' := [some (.ref 41), some (.ref t), some (.ref t'), some (.int (nI k)), some (.int (nI mk)), some (.int (nI S)), some (.int (nI (pt mk i))), some (.int (nI i))]) (st' := [.int (nI k), .ref 79, .ref t', .ref 78]) (σ' := σ2) rfl ?_
            refine am_invv (y := 76) (b := 79) (as := [.int (nI k)]) (rest := [.ref t', .ref 78]) rfl rfl rfl rfl rfl rfl rfl (Nat.le_of_ble_eq_true rfl) ?_
            refine c_secondAt (by omega) hT2 hkc ?_
            show am_G _ M_X9_compareFrom _ 59 [some (.ref 41), some (.ref t), some (.ref t'), some (.int (nI k)), some (.int (nI mk)), some (.int (nI S)), some (.int (nI (pt mk i))), some (.int (nI i))] [.int (nI (g k)), .ref t', .ref 78] σ2
            refine am_run 1 (pc' := 61) (ls' := [some (.ref 41), some (.ref t), some (.ref t'), some (.int (nI k)), some (.int (nI mk)), some (.int (nI S)), some (.int (nI (pt mk i))), some (.int (nI i))]) (st' := [.int (nI (pt mk i)), .int (nI (g k)), .ref t', .ref 78]) (σ' := σ2) rfl ?_
            refine am_invv (y := 56) (b := 78) (as := [.ref t', .int (nI (g k)), .int (nI (pt mk i))]) (rest := []) rfl rfl rfl rfl rfl rfl rfl (Nat.le_of_ble_eq_true rfl) ?_
            refine c_determine (by omega) hW' (hK2.TR hR') (show r' + 1 ≤ n' by omega) (hK2.RT hT3' hro') (Or.inr rfl) f5 (pt_lt mk i) (fun σ3 hKc3 hO' => ?_)
            rw [hz'] at hO'
            obtain ⟨o0, o1, o2, o3, o4⟩ : σ3.1 77 0 = nI (P + 256 * A) ∧ σ3.1 77 1 = nI 0 ∧ σ3.1 77 2 = nI c1 ∧ σ3.1 77 3 = nI nx ∧ σ3.1 77 4 = nI rd := by rw [hKc3.1 77 (by decide)]; exact hO
            obtain ⟨q0, q1, q2, q3, q4⟩ : σ3.1 78 0 = nI (P' + 256 * A') ∧ σ3.1 78 1 = nI w' ∧ σ3.1 78 2 = nI c1' ∧ σ3.1 78 3 = nI nx' ∧ σ3.1 78 4 = nI rd' := hO'
            have hK3 := hK2.kc hKc3 (Or.inr rfl)
            have hT3_ := hT2.keep (fun c a => hKc3.1 c (by omega))
            show am_G _ M_X9_compareFrom _ 64 [some (.ref 41), some (.ref t), some (.ref t'), some (.int (nI k)), some (.int (nI mk)), some (.int (nI S)), some (.int (nI (pt mk i))), some (.int (nI i))] [] σ3
            refine am_run 4 (pc' := 72) (ls' := [some (.ref 41), some (.ref t), some (.ref t'), some (.int (nI k)), some (.int (nI mk)), some (.int (nI S)), some (.int (nI (pt mk i))), some (.int (nI i))]) (st' := [.ref 78, .ref 77]) (σ' := σ3) rfl ?_
            refine am_invv (y := 60) (b := 77) (as := [.ref 78]) (rest := []) rfl rfl rfl rfl rfl rfl rfl (Nat.le_of_ble_eq_true rfl) ?_
            refine c_differs (by omega) b1 b1' (by omega) (by omega) o0 o1 q0 q1 (fun z => absurd (hsh.symm.trans z) (by decide)) (fun _ => ?_)
            show am_G _ M_X9_compareFrom _ 75 [some (.ref 41), some (.ref t), some (.ref t'), some (.int (nI k)), some (.int (nI mk)), some (.int (nI S)), some (.int (nI (pt mk i))), some (.int (nI i))] [.int (nI 0)] σ3
            refine am_if (ty := 81) (tn := 78) rfl (by decide) rfl rfl (fun (h_2 : nI 0 = 0) => ?_) (fun (h_2 : ¬ (nI 0 = 0)) => ?_)
            rotate_left
            · exact absurd (by decide) h_2
            refine am_run 2 (pc' := 85) (ls' := [some (.ref 41), some (.ref t), some (.ref t'), some (.int (nI k)), some (.int (nI mk)), some (.int (nI S)), some (.int (nI (pt mk i))), some (.int (nI i))]) (st' := [.ref 77]) (σ' := σ3) rfl ?_
            refine am_invv (y := 52) (b := 77) (as := []) (rest := []) rfl rfl rfl rfl rfl rfl rfl (Nat.le_of_ble_eq_true rfl) ?_
            refine am_enter' rfl rfl rfl (by omega) (ls := [some (.ref 77)]) rfl (fun d_3 hd_3 => ?_)
            refine am_run 2 (pc' := 4) (ls' := [some (.ref 77)]) (st' := [.int (σ3.1 77 1)]) (σ' := σ3) rfl ?_
            refine am_top (v' := nI 0) o1 ?_
            refine am_if (ty := 11) (tn := 7) rfl (by decide) rfl rfl (fun (h_4 : nI 0 = 0) => ?_) (fun (h_4 : ¬ (nI 0 = 0)) => ?_)
            rotate_left
            · exact absurd (by decide) h_4
            refine am_run 1 (pc' := 12) (ls' := [some (.ref 77)]) (st' := [.int (nI 0)]) (σ' := σ3) rfl ?_
            refine am_retz rfl rfl (by decide) ?_
            show am_G _ M_X9_compareFrom _ 88 [some (.ref 41), some (.ref t), some (.ref t'), some (.int (nI k)), some (.int (nI mk)), some (.int (nI S)), some (.int (nI (pt mk i))), some (.int (nI i))] [.int (nI 0)] σ3
            refine am_if (ty := 91) (tn := 121) rfl (by decide) rfl rfl (fun (h_5 : nI 0 = 0) => ?_) (fun (h_5 : ¬ (nI 0 = 0)) => ?_)
            rotate_left
            · exact absurd (by decide) h_5
            refine am_run 4 (pc' := 99) (ls' := [some (.ref 41), some (.ref t), some (.ref t'), some (.int (nI k)), some (.int (nI mk)), some (.int (nI S)), some (.int (nI (pt mk i))), some (.int (nI i))]) (st' := [.ref 77, .ref 79]) (σ' := σ3) rfl ?_
            refine am_invv (y := 54) (b := 77) (as := []) (rest := [.ref 79]) rfl rfl rfl rfl rfl rfl rfl (Nat.le_of_ble_eq_true rfl) ?_
            refine am_enter' rfl rfl rfl (by omega) (ls := [some (.ref 77)]) rfl (fun d_6 hd_6 => ?_)
            refine am_run 2 (pc' := 4) (ls' := [some (.ref 77)]) (st' := [.int (σ3.1 77 3)]) (σ' := σ3) rfl ?_
            refine am_top (v' := nI nx) o3 ?_
            refine am_reti rfl rfl ?_
            show am_G _ M_X9_compareFrom _ 102 [some (.ref 41), some (.ref t), some (.ref t'), some (.int (nI k)), some (.int (nI mk)), some (.int (nI S)), some (.int (nI (pt mk i))), some (.int (nI i))] [.int (nI nx), .ref 79] σ3
            refine am_run 2 (pc' := 106) (ls' := [some (.ref 41), some (.ref t), some (.ref t'), some (.int (nI k)), some (.int (nI mk)), some (.int (nI S)), some (.int (nI (pt mk i))), some (.int (nI i))]) (st' := [.ref 78, .int (nI nx), .ref 79]) (σ' := σ3) rfl ?_
            refine am_invv (y := 54) (b := 78) (as := []) (rest := [.int (nI nx), .ref 79]) rfl rfl rfl rfl rfl rfl rfl (Nat.le_of_ble_eq_true rfl) ?_
            refine am_enter' rfl rfl rfl (by omega) (ls := [some (.ref 78)]) rfl (fun d_7 hd_7 => ?_)
            refine am_run 2 (pc' := 4) (ls' := [some (.ref 78)]) (st' := [.int (σ3.1 78 3)]) (σ' := σ3) rfl ?_
            refine am_top (v' := nI nx') q3 ?_
            refine am_reti rfl rfl ?_
            show am_G _ M_X9_compareFrom _ 109 [some (.ref 41), some (.ref t), some (.ref t'), some (.int (nI k)), some (.int (nI mk)), some (.int (nI S)), some (.int (nI (pt mk i))), some (.int (nI i))] [.int (nI nx'), .int (nI nx), .ref 79] σ3
            refine am_run 1 (pc' := 111) (ls' := [some (.ref 41), some (.ref t), some (.ref t'), some (.int (nI k)), some (.int (nI mk)), some (.int (nI S)), some (.int (nI (pt mk i))), some (.int (nI i))]) (st' := [.int (nI S), .int (nI nx'), .int (nI nx), .ref 79]) (σ' := σ3) rfl ?_
            refine am_invv (y := 78) (b := 79) (as := [.int (nI nx), .int (nI nx'), .int (nI S)]) (rest := []) rfl rfl rfl rfl rfl rfl rfl (Nat.le_of_ble_eq_true rfl) ?_
            refine c_reach (by omega) hT3_ (by omega) (by omega) (fun z => absurd z hfn) (fun _ z => absurd z (by omega)) (fun _ _ => ?_)
            show am_G _ M_X9_compareFrom _ 114 [some (.ref 41), some (.ref t), some (.ref t'), some (.int (nI k)), some (.int (nI mk)), some (.int (nI S)), some (.int (nI (pt mk i))), some (.int (nI i))] [.int (-1)] σ3
            refine am_run 1 (pc' := 115) (ls' := [some (.ref 41), some (.ref t), some (.ref t'), some (.int (nI k)), some (.int (nI mk)), some (.int (nI S)), some (.int (nI (pt mk i))), some (.int (nI i))]) (st' := [.int (-1), .int (-1)]) (σ' := σ3) rfl ?_
            refine am_ic (ty := 118) (tn := 121) rfl (by decide) rfl rfl (fun (h_8 : -1 = -1) => ?_) (fun (h_8 : ¬ (-1 = -1)) => ?_)
            rotate_left
            · exact absurd (by decide) h_8
            refine am_run 1 (pc' := 120) (ls' := [some (.ref 41), some (.ref t), some (.ref t'), some (.int (nI k)), some (.int (nI mk)), some (.int (nI S)), some (.int (nI (pt mk i))), some (.int (nI i))]) (st' := [.int (-1000004)]) (σ' := σ3) rfl ?_
            refine am_reti rfl rfl ?_
            have e : (pa_in p (r + 1) p' (r' + 1) mk (m + 1) i k c f g h) = (some (-1000004), c, f, g, h) := by show (if dif (oc p (r + 1) (f k) (pt mk i)).2.2.1 (oc p (r + 1) (f k) (pt mk i)).1 (oc p' (r' + 1) (g k) (pt mk i)).2.2.1 (oc p' (r' + 1) (g k) (pt mk i)).1 = true then _ else _) = _; rw [hz, hz']; rw [if_neg (show ¬ dif (P, A, 0, c1, nx, rd).2.2.1 (P, A, 0, c1, nx, rd).1 (P', A', w', c1', nx', rd').2.2.1 (P', A', w', c1', nx', rd').1 = true from nfl hsh), if_pos rfl, if_neg hfn, if_pos hc100]
            rw [e] at hA
            exact hA σ3 hK3 (fun z => by cases z)
          · skip
            refine am_run 2 (pc' := 22) (ls' := [some (.ref 41), some (.ref t), some (.ref t'), some (.int (nI k)), some (.int (nI mk)), some (.int (nI S)), some (.int (nI (pt mk i))), some (.int (nI i))]) (st' := [.int (nI mk), .int (nI i)]) (σ' := σ') rfl ?_
            refine am_invs (y := 143) (as := [.int (nI mk)]) (rest := [.int (nI i)]) rfl rfl rfl rfl rfl rfl (Nat.le_of_ble_eq_true rfl) ?_
            refine c_subsetsOf (by omega) hmk hmv ?_
            show am_G _ M_X9_compareFrom _ 25 [some (.ref 41), some (.ref t), some (.ref t'), some (.int (nI k)), some (.int (nI mk)), some (.int (nI S)), some (.int (nI (pt mk i))), some (.int (nI i))] [.int (nI (2 ^ pcn mk 21)), .int (nI i)] σ'
            refine am_ic (ty := 28) (tn := 136) rfl (by decide) rfl rfl (fun (h_1 : nI i < nI (2 ^ pcn mk 21)) => ?_) (fun (h_1 : ¬ (nI i < nI (2 ^ pcn mk 21))) => ?_)
            rotate_left
            · have h_1 : ¬ (i < 2 ^ pcn mk 21) := fun z => h_1 ((nI_ltI (by omega) (by omega)).mpr z)
              omega
            have h_1 : i < 2 ^ pcn mk 21 := (nI_ltI (by omega) (by omega)).mp h_1
            refine am_run 6 (pc' := 38) (ls' := [some (.ref 41), some (.ref t), some (.ref t'), some (.int (nI k)), some (.int (nI mk)), some (.int (nI S)), some (.int (nI (pt mk i))), some (.int (nI i))]) (st' := [.int (nI k), .ref 79, .ref t, .ref 77]) (σ' := σ') rfl ?_
            refine am_invv (y := 75) (b := 79) (as := [.int (nI k)]) (rest := [.ref t, .ref 77]) rfl rfl rfl rfl rfl rfl rfl (Nat.le_of_ble_eq_true rfl) ?_
            refine c_firstAt (by omega) hT hkc ?_
            show am_G _ M_X9_compareFrom _ 41 [some (.ref 41), some (.ref t), some (.ref t'), some (.int (nI k)), some (.int (nI mk)), some (.int (nI S)), some (.int (nI (pt mk i))), some (.int (nI i))] [.int (nI (f k)), .ref t, .ref 77] σ'
            refine am_run 1 (pc' := 43) (ls' := [some (.ref 41), some (.ref t), some (.ref t'), some (.int (nI k)), some (.int (nI mk)), some (.int (nI S)), some (.int (nI (pt mk i))), some (.int (nI i))]) (st' := [.int (nI (pt mk i)), .int (nI (f k)), .ref t, .ref 77]) (σ' := σ') rfl ?_
            refine am_invv (y := 56) (b := 77) (as := [.ref t, .int (nI (f k)), .int (nI (pt mk i))]) (rest := []) rfl rfl rfl rfl rfl rfl rfl (Nat.le_of_ble_eq_true rfl) ?_
            refine c_determine (by omega) hW (hK.TR hR) (show r + 1 ≤ n by omega) (hK.RT hT3 hro) (Or.inl rfl) f4 (pt_lt mk i) (fun σ2 hKc hO => ?_)
            rw [hz] at hO
            have hK2 := hK.kc hKc (Or.inl rfl)
            have hT2 := hT.keep (fun c a => hKc.1 c (by omega))
            show am_G _ M_X9_compareFrom _ 46 [some (.ref 41), some (.ref t), some (.ref t'), some (.int (nI k)), some (.int (nI mk)), some (.int (nI S)), some (.int (nI (pt mk i))), some (.int (nI i))] [] σ2
            refine am_run 6 (pc' := 56) (ls' := [some (.ref 41), some (.ref t), some (.ref t'), some (.int (nI k)), some (.int (nI mk)), some (.int (nI S)), some (.int (nI (pt mk i))), some (.int (nI i))]) (st' := [.int (nI k), .ref 79, .ref t', .ref 78]) (σ' := σ2) rfl ?_
            refine am_invv (y := 76) (b := 79) (as := [.int (nI k)]) (rest := [.ref t', .ref 78]) rfl rfl rfl rfl rfl rfl rfl (Nat.le_of_ble_eq_true rfl) ?_
            refine c_secondAt (by omega) hT2 hkc ?_
            show am_G _ M_X9_compareFrom _ 59 [some (.ref 41), some (.ref t), some (.ref t'), some (.int (nI k)), some (.int (nI mk)), some (.int (nI S)), some (.int (nI (pt mk i))), some (.int (nI i))] [.int (nI (g k)), .ref t', .ref 78] σ2
            refine am_run 1 (pc' := 61) (ls' := [some (.ref 41), some (.ref t), some (.ref t'), some (.int (nI k)), some (.int (nI mk)), some (.int (nI S)), some (.int (nI (pt mk i))), some (.int (nI i))]) (st' := [.int (nI (pt mk i)), .int (nI (g k)), .ref t', .ref 78]) (σ' := σ2) rfl ?_
            refine am_invv (y := 56) (b := 78) (as := [.ref t', .int (nI (g k)), .int (nI (pt mk i))]) (rest := []) rfl rfl rfl rfl rfl rfl rfl (Nat.le_of_ble_eq_true rfl) ?_
            refine c_determine (by omega) hW' (hK2.TR hR') (show r' + 1 ≤ n' by omega) (hK2.RT hT3' hro') (Or.inr rfl) f5 (pt_lt mk i) (fun σ3 hKc3 hO' => ?_)
            rw [hz'] at hO'
            obtain ⟨o0, o1, o2, o3, o4⟩ : σ3.1 77 0 = nI (P + 256 * A) ∧ σ3.1 77 1 = nI 0 ∧ σ3.1 77 2 = nI c1 ∧ σ3.1 77 3 = nI nx ∧ σ3.1 77 4 = nI rd := by rw [hKc3.1 77 (by decide)]; exact hO
            obtain ⟨q0, q1, q2, q3, q4⟩ : σ3.1 78 0 = nI (P' + 256 * A') ∧ σ3.1 78 1 = nI w' ∧ σ3.1 78 2 = nI c1' ∧ σ3.1 78 3 = nI nx' ∧ σ3.1 78 4 = nI rd' := hO'
            have hK3 := hK2.kc hKc3 (Or.inr rfl)
            have hT3_ := hT2.keep (fun c a => hKc3.1 c (by omega))
            show am_G _ M_X9_compareFrom _ 64 [some (.ref 41), some (.ref t), some (.ref t'), some (.int (nI k)), some (.int (nI mk)), some (.int (nI S)), some (.int (nI (pt mk i))), some (.int (nI i))] [] σ3
            refine am_run 4 (pc' := 72) (ls' := [some (.ref 41), some (.ref t), some (.ref t'), some (.int (nI k)), some (.int (nI mk)), some (.int (nI S)), some (.int (nI (pt mk i))), some (.int (nI i))]) (st' := [.ref 78, .ref 77]) (σ' := σ3) rfl ?_
            refine am_invv (y := 60) (b := 77) (as := [.ref 78]) (rest := []) rfl rfl rfl rfl rfl rfl rfl (Nat.le_of_ble_eq_true rfl) ?_
            refine c_differs (by omega) b1 b1' (by omega) (by omega) o0 o1 q0 q1 (fun z => absurd (hsh.symm.trans z) (by decide)) (fun _ => ?_)
            show am_G _ M_X9_compareFrom _ 75 [some (.ref 41), some (.ref t), some (.ref t'), some (.int (nI k)), some (.int (nI mk)), some (.int (nI S)), some (.int (nI (pt mk i))), some (.int (nI i))] [.int (nI 0)] σ3
            refine am_if (ty := 81) (tn := 78) rfl (by decide) rfl rfl (fun (h_2 : nI 0 = 0) => ?_) (fun (h_2 : ¬ (nI 0 = 0)) => ?_)
            rotate_left
            · exact absurd (by decide) h_2
            refine am_run 2 (pc' := 85) (ls' := [some (.ref 41), some (.ref t), some (.ref t'), some (.int (nI k)), some (.int (nI mk)), some (.int (nI S)), some (.int (nI (pt mk i))), some (.int (nI i))]) (st' := [.ref 77]) (σ' := σ3) rfl ?_
            refine am_invv (y := 52) (b := 77) (as := []) (rest := []) rfl rfl rfl rfl rfl rfl rfl (Nat.le_of_ble_eq_true rfl) ?_
            refine am_enter' rfl rfl rfl (by omega) (ls := [some (.ref 77)]) rfl (fun d_3 hd_3 => ?_)
            refine am_run 2 (pc' := 4) (ls' := [some (.ref 77)]) (st' := [.int (σ3.1 77 1)]) (σ' := σ3) rfl ?_
            refine am_top (v' := nI 0) o1 ?_
            refine am_if (ty := 11) (tn := 7) rfl (by decide) rfl rfl (fun (h_4 : nI 0 = 0) => ?_) (fun (h_4 : ¬ (nI 0 = 0)) => ?_)
            rotate_left
            · exact absurd (by decide) h_4
            refine am_run 1 (pc' := 12) (ls' := [some (.ref 77)]) (st' := [.int (nI 0)]) (σ' := σ3) rfl ?_
            refine am_retz rfl rfl (by decide) ?_
            show am_G _ M_X9_compareFrom _ 88 [some (.ref 41), some (.ref t), some (.ref t'), some (.int (nI k)), some (.int (nI mk)), some (.int (nI S)), some (.int (nI (pt mk i))), some (.int (nI i))] [.int (nI 0)] σ3
            refine am_if (ty := 91) (tn := 121) rfl (by decide) rfl rfl (fun (h_5 : nI 0 = 0) => ?_) (fun (h_5 : ¬ (nI 0 = 0)) => ?_)
            rotate_left
            · exact absurd (by decide) h_5
            refine am_run 4 (pc' := 99) (ls' := [some (.ref 41), some (.ref t), some (.ref t'), some (.int (nI k)), some (.int (nI mk)), some (.int (nI S)), some (.int (nI (pt mk i))), some (.int (nI i))]) (st' := [.ref 77, .ref 79]) (σ' := σ3) rfl ?_
            refine am_invv (y := 54) (b := 77) (as := []) (rest := [.ref 79]) rfl rfl rfl rfl rfl rfl rfl (Nat.le_of_ble_eq_true rfl) ?_
            refine am_enter' rfl rfl rfl (by omega) (ls := [some (.ref 77)]) rfl (fun d_6 hd_6 => ?_)
            refine am_run 2 (pc' := 4) (ls' := [some (.ref 77)]) (st' := [.int (σ3.1 77 3)]) (σ' := σ3) rfl ?_
            refine am_top (v' := nI nx) o3 ?_
            refine am_reti rfl rfl ?_
            show am_G _ M_X9_compareFrom _ 102 [some (.ref 41), some (.ref t), some (.ref t'), some (.int (nI k)), some (.int (nI mk)), some (.int (nI S)), some (.int (nI (pt mk i))), some (.int (nI i))] [.int (nI nx), .ref 79] σ3
            refine am_run 2 (pc' := 106) (ls' := [some (.ref 41), some (.ref t), some (.ref t'), some (.int (nI k)), some (.int (nI mk)), some (.int (nI S)), some (.int (nI (pt mk i))), some (.int (nI i))]) (st' := [.ref 78, .int (nI nx), .ref 79]) (σ' := σ3) rfl ?_
            refine am_invv (y := 54) (b := 78) (as := []) (rest := [.int (nI nx), .ref 79]) rfl rfl rfl rfl rfl rfl rfl (Nat.le_of_ble_eq_true rfl) ?_
            refine am_enter' rfl rfl rfl (by omega) (ls := [some (.ref 78)]) rfl (fun d_7 hd_7 => ?_)
            refine am_run 2 (pc' := 4) (ls' := [some (.ref 78)]) (st' := [.int (σ3.1 78 3)]) (σ' := σ3) rfl ?_
            refine am_top (v' := nI nx') q3 ?_
            refine am_reti rfl rfl ?_
            show am_G _ M_X9_compareFrom _ 109 [some (.ref 41), some (.ref t), some (.ref t'), some (.int (nI k)), some (.int (nI mk)), some (.int (nI S)), some (.int (nI (pt mk i))), some (.int (nI i))] [.int (nI nx'), .int (nI nx), .ref 79] σ3
            refine am_run 1 (pc' := 111) (ls' := [some (.ref 41), some (.ref t), some (.ref t'), some (.int (nI k)), some (.int (nI mk)), some (.int (nI S)), some (.int (nI (pt mk i))), some (.int (nI i))]) (st' := [.int (nI S), .int (nI nx'), .int (nI nx), .ref 79]) (σ' := σ3) rfl ?_
            refine am_invv (y := 78) (b := 79) (as := [.int (nI nx), .int (nI nx'), .int (nI S)]) (rest := []) rfl rfl rfl rfl rfl rfl rfl (Nat.le_of_ble_eq_true rfl) ?_
            refine c_reach (by omega) hT3_ (by omega) (by omega) (fun z => absurd z hfn) (fun _ _ => ?_) (fun _ z => absurd z hc100)
            show am_G _ M_X9_compareFrom _ 114 [some (.ref 41), some (.ref t), some (.ref t'), some (.int (nI k)), some (.int (nI mk)), some (.int (nI S)), some (.int (nI (pt mk i))), some (.int (nI i))] [.int (nI c)] (am_wr (am_wr (am_wr (am_wr σ3 80 c (nI nx)) 81 c (nI nx')) 82 c (nI S)) 79 3 (nI (c + 1)))
            refine am_run 1 (pc' := 115) (ls' := [some (.ref 41), some (.ref t), some (.ref t'), some (.int (nI k)), some (.int (nI mk)), some (.int (nI S)), some (.int (nI (pt mk i))), some (.int (nI i))]) (st' := [.int (-1), .int (nI c)]) (σ' := (am_wr (am_wr (am_wr (am_wr σ3 80 c (nI nx)) 81 c (nI nx')) 82 c (nI S)) 79 3 (nI (c + 1)))) rfl ?_
            refine am_ic (ty := 118) (tn := 121) rfl (by decide) rfl rfl (fun (h_8 : nI c = -1) => ?_) (fun (h_8 : ¬ (nI c = -1)) => ?_)
            · exact absurd h_8 (am_nm1 (by omega))
            refine am_run 2 (pc' := 125) (ls' := [some (.ref 41), some (.ref t), some (.ref t'), some (.int (nI k)), some (.int (nI mk)), some (.int (nI S)), some (.int (nI (pt mk i))), some (.int (nI i))]) (st' := [.int (nI mk), .int (nI (pt mk i))]) (σ' := (am_wr (am_wr (am_wr (am_wr σ3 80 c (nI nx)) 81 c (nI nx')) 82 c (nI S)) 79 3 (nI (c + 1)))) rfl ?_
            refine am_invs (y := 144) (as := [.int (nI (pt mk i)), .int (nI mk)]) (rest := []) rfl rfl rfl rfl rfl rfl (Nat.le_of_ble_eq_true rfl) ?_
            refine c_subsetAfter (by omega) hmk hmv (by omega) ?_
            show am_G _ M_X9_compareFrom _ 128 [some (.ref 41), some (.ref t), some (.ref t'), some (.int (nI k)), some (.int (nI mk)), some (.int (nI S)), some (.int (nI (pt mk i))), some (.int (nI i))] [.int (nI (pt mk (i + 1)))] (am_wr (am_wr (am_wr (am_wr σ3 80 c (nI nx)) 81 c (nI nx')) 82 c (nI S)) 79 3 (nI (c + 1)))
            refine am_run 2 (pc' := 133) (ls' := [some (.ref 41), some (.ref t), some (.ref t'), some (.int (nI k)), some (.int (nI mk)), some (.int (nI S)), some (.int (nI (pt mk (i + 1)))), some (.int (nI i + nI 1))]) (st' := []) (σ' := (am_wr (am_wr (am_wr (am_wr σ3 80 c (nI nx)) 81 c (nI nx')) 82 c (nI S)) 79 3 (nI (c + 1)))) rfl ?_
            refine am_ls (ls' := [some (.ref 41), some (.ref t), some (.ref t'), some (.int (nI k)), some (.int (nI mk)), some (.int (nI S)), some (.int (nI (pt mk (i + 1)))), some (.int (nI (i + 1)))]) (by rw [nI_add]) ?_
            refine am_run 1 (pc' := 18) (ls' := [some (.ref 41), some (.ref t), some (.ref t'), some (.int (nI k)), some (.int (nI mk)), some (.int (nI S)), some (.int (nI (pt mk (i + 1)))), some (.int (nI (i + 1)))]) (st' := []) (σ' := (am_wr (am_wr (am_wr (am_wr σ3 80 c (nI nx)) 81 c (nI nx')) 82 c (nI S)) 79 3 (nI (c + 1)))) rfl ?_
            have e : (pa_in p (r + 1) p' (r' + 1) mk (m + 1) i k c f g h) = (pa_in p (r + 1) p' (r' + 1) mk m (i + 1) k (c + 1) (up1 f c nx) (up1 g c nx') (up1 h c (h k + 1))) := by show (if dif (oc p (r + 1) (f k) (pt mk i)).2.2.1 (oc p (r + 1) (f k) (pt mk i)).1 (oc p' (r' + 1) (g k) (pt mk i)).2.2.1 (oc p' (r' + 1) (g k) (pt mk i)).1 = true then _ else _) = _; rw [hz, hz']; rw [if_neg (show ¬ dif (P, A, 0, c1, nx, rd).2.2.1 (P, A, 0, c1, nx, rd).1 (P', A', w', c1', nx', rd').2.2.1 (P', A', w', c1', nx', rd').1 = true from nfl hsh), if_pos rfl, if_neg hfn, if_neg hc100]
            rw [e] at hA hN
            subst hh
            have hkne : k ≠ c := by omega
            refine c_comp_loop hd hW hR hrn hro hV hW' hR' hrn' hro' hV' hmk hmv m (i + 1) _ (c + 1) (up1 f c nx) (up1 g c nx') (up1 h c (h k + 1)) (by omega) ((((hK3.wr (by decide) _ _).wr (by decide) _ _).wr (by decide) _ _).wr (by decide) _ _) (hT3_.add (by omega) (by omega) (by omega) (by omega)) (by omega) (hVA.add hnv) (hVB.add hnv') (by rw [up1_o h _ hkne]) hA hN
      · skip
        refine am_run 2 (pc' := 22) (ls' := [some (.ref 41), some (.ref t), some (.ref t'), some (.int (nI k)), some (.int (nI mk)), some (.int (nI S)), some (.int (nI (pt mk i))), some (.int (nI i))]) (st' := [.int (nI mk), .int (nI i)]) (σ' := σ') rfl ?_
        refine am_invs (y := 143) (as := [.int (nI mk)]) (rest := [.int (nI i)]) rfl rfl rfl rfl rfl rfl (Nat.le_of_ble_eq_true rfl) ?_
        refine c_subsetsOf (by omega) hmk hmv ?_
        show am_G _ M_X9_compareFrom _ 25 [some (.ref 41), some (.ref t), some (.ref t'), some (.int (nI k)), some (.int (nI mk)), some (.int (nI S)), some (.int (nI (pt mk i))), some (.int (nI i))] [.int (nI (2 ^ pcn mk 21)), .int (nI i)] σ'
        refine am_ic (ty := 28) (tn := 136) rfl (by decide) rfl rfl (fun (h_1 : nI i < nI (2 ^ pcn mk 21)) => ?_) (fun (h_1 : ¬ (nI i < nI (2 ^ pcn mk 21))) => ?_)
        rotate_left
        · have h_1 : ¬ (i < 2 ^ pcn mk 21) := fun z => h_1 ((nI_ltI (by omega) (by omega)).mpr z)
          omega
        have h_1 : i < 2 ^ pcn mk 21 := (nI_ltI (by omega) (by omega)).mp h_1
        refine am_run 6 (pc' := 38) (ls' := [some (.ref 41), some (.ref t), some (.ref t'), some (.int (nI k)), some (.int (nI mk)), some (.int (nI S)), some (.int (nI (pt mk i))), some (.int (nI i))]) (st' := [.int (nI k), .ref 79, .ref t, .ref 77]) (σ' := σ') rfl ?_
        refine am_invv (y := 75) (b := 79) (as := [.int (nI k)]) (rest := [.ref t, .ref 77]) rfl rfl rfl rfl rfl rfl rfl (Nat.le_of_ble_eq_true rfl) ?_
        refine c_firstAt (by omega) hT hkc ?_
        show am_G _ M_X9_compareFrom _ 41 [some (.ref 41), some (.ref t), some (.ref t'), some (.int (nI k)), some (.int (nI mk)), some (.int (nI S)), some (.int (nI (pt mk i))), some (.int (nI i))] [.int (nI (f k)), .ref t, .ref 77] σ'
        refine am_run 1 (pc' := 43) (ls' := [some (.ref 41), some (.ref t), some (.ref t'), some (.int (nI k)), some (.int (nI mk)), some (.int (nI S)), some (.int (nI (pt mk i))), some (.int (nI i))]) (st' := [.int (nI (pt mk i)), .int (nI (f k)), .ref t, .ref 77]) (σ' := σ') rfl ?_
        refine am_invv (y := 56) (b := 77) (as := [.ref t, .int (nI (f k)), .int (nI (pt mk i))]) (rest := []) rfl rfl rfl rfl rfl rfl rfl (Nat.le_of_ble_eq_true rfl) ?_
        refine c_determine (by omega) hW (hK.TR hR) (show r + 1 ≤ n by omega) (hK.RT hT3 hro) (Or.inl rfl) f4 (pt_lt mk i) (fun σ2 hKc hO => ?_)
        rw [hz] at hO
        have hK2 := hK.kc hKc (Or.inl rfl)
        have hT2 := hT.keep (fun c a => hKc.1 c (by omega))
        show am_G _ M_X9_compareFrom _ 46 [some (.ref 41), some (.ref t), some (.ref t'), some (.int (nI k)), some (.int (nI mk)), some (.int (nI S)), some (.int (nI (pt mk i))), some (.int (nI i))] [] σ2
        refine am_run 6 (pc' := 56) (ls' := [some (.ref 41), some (.ref t), some (.ref t'), some (.int (nI k)), some (.int (nI mk)), some (.int (nI S)), some (.int (nI (pt mk i))), some (.int (nI i))]) (st' := [.int (nI k), .ref 79, .ref t', .ref 78]) (σ' := σ2) rfl ?_
        refine am_invv (y := 76) (b := 79) (as := [.int (nI k)]) (rest := [.ref t', .ref 78]) rfl rfl rfl rfl rfl rfl rfl (Nat.le_of_ble_eq_true rfl) ?_
        refine c_secondAt (by omega) hT2 hkc ?_
        show am_G _ M_X9_compareFrom _ 59 [some (.ref 41), some (.ref t), some (.ref t'), some (.int (nI k)), some (.int (nI mk)), some (.int (nI S)), some (.int (nI (pt mk i))), some (.int (nI i))] [.int (nI (g k)), .ref t', .ref 78] σ2
        refine am_run 1 (pc' := 61) (ls' := [some (.ref 41), some (.ref t), some (.ref t'), some (.int (nI k)), some (.int (nI mk)), some (.int (nI S)), some (.int (nI (pt mk i))), some (.int (nI i))]) (st' := [.int (nI (pt mk i)), .int (nI (g k)), .ref t', .ref 78]) (σ' := σ2) rfl ?_
        refine am_invv (y := 56) (b := 78) (as := [.ref t', .int (nI (g k)), .int (nI (pt mk i))]) (rest := []) rfl rfl rfl rfl rfl rfl rfl (Nat.le_of_ble_eq_true rfl) ?_
        refine c_determine (by omega) hW' (hK2.TR hR') (show r' + 1 ≤ n' by omega) (hK2.RT hT3' hro') (Or.inr rfl) f5 (pt_lt mk i) (fun σ3 hKc3 hO' => ?_)
        rw [hz'] at hO'
        obtain ⟨o0, o1, o2, o3, o4⟩ : σ3.1 77 0 = nI (P + 256 * A) ∧ σ3.1 77 1 = nI w ∧ σ3.1 77 2 = nI c1 ∧ σ3.1 77 3 = nI nx ∧ σ3.1 77 4 = nI rd := by rw [hKc3.1 77 (by decide)]; exact hO
        obtain ⟨q0, q1, q2, q3, q4⟩ : σ3.1 78 0 = nI (P' + 256 * A') ∧ σ3.1 78 1 = nI w' ∧ σ3.1 78 2 = nI c1' ∧ σ3.1 78 3 = nI nx' ∧ σ3.1 78 4 = nI rd' := hO'
        have hK3 := hK2.kc hKc3 (Or.inr rfl)
        have hT3_ := hT2.keep (fun c a => hKc3.1 c (by omega))
        show am_G _ M_X9_compareFrom _ 64 [some (.ref 41), some (.ref t), some (.ref t'), some (.int (nI k)), some (.int (nI mk)), some (.int (nI S)), some (.int (nI (pt mk i))), some (.int (nI i))] [] σ3
        refine am_run 4 (pc' := 72) (ls' := [some (.ref 41), some (.ref t), some (.ref t'), some (.int (nI k)), some (.int (nI mk)), some (.int (nI S)), some (.int (nI (pt mk i))), some (.int (nI i))]) (st' := [.ref 78, .ref 77]) (σ' := σ3) rfl ?_
        refine am_invv (y := 60) (b := 77) (as := [.ref 78]) (rest := []) rfl rfl rfl rfl rfl rfl rfl (Nat.le_of_ble_eq_true rfl) ?_
        refine c_differs (by omega) b1 b1' (by omega) (by omega) o0 o1 q0 q1 (fun z => absurd (hsh.symm.trans z) (by decide)) (fun _ => ?_)
        show am_G _ M_X9_compareFrom _ 75 [some (.ref 41), some (.ref t), some (.ref t'), some (.int (nI k)), some (.int (nI mk)), some (.int (nI S)), some (.int (nI (pt mk i))), some (.int (nI i))] [.int (nI 0)] σ3
        refine am_if (ty := 81) (tn := 78) rfl (by decide) rfl rfl (fun (h_2 : nI 0 = 0) => ?_) (fun (h_2 : ¬ (nI 0 = 0)) => ?_)
        rotate_left
        · exact absurd (by decide) h_2
        refine am_run 2 (pc' := 85) (ls' := [some (.ref 41), some (.ref t), some (.ref t'), some (.int (nI k)), some (.int (nI mk)), some (.int (nI S)), some (.int (nI (pt mk i))), some (.int (nI i))]) (st' := [.ref 77]) (σ' := σ3) rfl ?_
        refine am_invv (y := 52) (b := 77) (as := []) (rest := []) rfl rfl rfl rfl rfl rfl rfl (Nat.le_of_ble_eq_true rfl) ?_
        refine am_enter' rfl rfl rfl (by omega) (ls := [some (.ref 77)]) rfl (fun d_3 hd_3 => ?_)
        refine am_run 2 (pc' := 4) (ls' := [some (.ref 77)]) (st' := [.int (σ3.1 77 1)]) (σ' := σ3) rfl ?_
        refine am_top (v' := nI w) o1 ?_
        refine am_if (ty := 11) (tn := 7) rfl (by decide) rfl rfl (fun (h_4 : nI w = 0) => ?_) (fun (h_4 : ¬ (nI w = 0)) => ?_)
        · have h_4 : w = 0 := (am_n0 (by omega)).mp h_4
          omega
        have h_4 : ¬ (w = 0) := fun z => h_4 ((am_n0 (by omega)).mpr z)
        refine am_run 2 (pc' := 12) (ls' := [some (.ref 77)]) (st' := [.int (nI 1)]) (σ' := σ3) rfl ?_
        refine am_retz rfl rfl (by decide) ?_
        show am_G _ M_X9_compareFrom _ 88 [some (.ref 41), some (.ref t), some (.ref t'), some (.int (nI k)), some (.int (nI mk)), some (.int (nI S)), some (.int (nI (pt mk i))), some (.int (nI i))] [.int (nI 1)] σ3
        refine am_if (ty := 91) (tn := 121) rfl (by decide) rfl rfl (fun (h_5 : nI 1 = 0) => ?_) (fun (h_5 : ¬ (nI 1 = 0)) => ?_)
        · exact absurd h_5 (by decide)
        refine am_run 2 (pc' := 125) (ls' := [some (.ref 41), some (.ref t), some (.ref t'), some (.int (nI k)), some (.int (nI mk)), some (.int (nI S)), some (.int (nI (pt mk i))), some (.int (nI i))]) (st' := [.int (nI mk), .int (nI (pt mk i))]) (σ' := σ3) rfl ?_
        refine am_invs (y := 144) (as := [.int (nI (pt mk i)), .int (nI mk)]) (rest := []) rfl rfl rfl rfl rfl rfl (Nat.le_of_ble_eq_true rfl) ?_
        refine c_subsetAfter (by omega) hmk hmv (by omega) ?_
        show am_G _ M_X9_compareFrom _ 128 [some (.ref 41), some (.ref t), some (.ref t'), some (.int (nI k)), some (.int (nI mk)), some (.int (nI S)), some (.int (nI (pt mk i))), some (.int (nI i))] [.int (nI (pt mk (i + 1)))] σ3
        refine am_run 2 (pc' := 133) (ls' := [some (.ref 41), some (.ref t), some (.ref t'), some (.int (nI k)), some (.int (nI mk)), some (.int (nI S)), some (.int (nI (pt mk (i + 1)))), some (.int (nI i + nI 1))]) (st' := []) (σ' := σ3) rfl ?_
        refine am_ls (ls' := [some (.ref 41), some (.ref t), some (.ref t'), some (.int (nI k)), some (.int (nI mk)), some (.int (nI S)), some (.int (nI (pt mk (i + 1)))), some (.int (nI (i + 1)))]) (by rw [nI_add]) ?_
        refine am_run 1 (pc' := 18) (ls' := [some (.ref 41), some (.ref t), some (.ref t'), some (.int (nI k)), some (.int (nI mk)), some (.int (nI S)), some (.int (nI (pt mk (i + 1)))), some (.int (nI (i + 1)))]) (st' := []) (σ' := σ3) rfl ?_
        have e : (pa_in p (r + 1) p' (r' + 1) mk (m + 1) i k c f g h) = (pa_in p (r + 1) p' (r' + 1) mk m (i + 1) k c f g h) := by show (if dif (oc p (r + 1) (f k) (pt mk i)).2.2.1 (oc p (r + 1) (f k) (pt mk i)).1 (oc p' (r' + 1) (g k) (pt mk i)).2.2.1 (oc p' (r' + 1) (g k) (pt mk i)).1 = true then _ else _) = _; rw [hz, hz']; rw [if_neg (show ¬ dif (P, A, w, c1, nx, rd).2.2.1 (P, A, w, c1, nx, rd).1 (P', A', w', c1', nx', rd').2.2.1 (P', A', w', c1', nx', rd').1 = true from nfl hsh), if_neg (show ¬ (P, A, w, c1, nx, rd).2.2.1 = 0 from hw0)]
        rw [e] at hA hN
        exact c_comp_loop hd hW hR hrn hro hV hW' hR' hrn' hro' hV' hmk hmv m (i + 1) _ c f g h (by omega) hK3 hT3_ hkc hVA hVB hh hA hN
set_option maxRecDepth 10000 in
set_option maxHeartbeats 2000000 in
theorem c_comp {d : Nat} (hd : 521 ≤ d) {σ0 : am_M} {t n r t' n' r' mk k : Nat} {p p' : Pg} (hW : PW p n) (hR : TR σ0 t p n) (hrn : r < n) (hro : ROOT σ0 t (r + 1)) (hV : ∀ s u, u < 256 → VS p r (oc p (r + 1) s u).2.2.2.2.1) (hW' : PW p' n') (hR' : TR σ0 t' p' n') (hrn' : r' < n') (hro' : ROOT σ0 t' (r' + 1)) (hV' : ∀ s u, u < 256 → VS p' r' (oc p' (r' + 1) s u).2.2.2.2.1) (hmk : mk < 256) (hmv : mkv mk) {σ : am_M} {c : Nat} {f g h : Nat → Nat} (hK : KX σ0 σ) (hT : TX σ 200 c f g h) (hkc : k < c) (hVA : VA p r c f) (hVB : VA p' r' c g) {Q : am_Q} (hA : ∀ σ'', KX σ0 σ'' → (pa_in p (r + 1) p' (r' + 1) mk (2 ^ pcn mk 21) 0 k c f g h).1 ≠ none → Q (some (.int ((pa_in p (r + 1) p' (r' + 1) mk (2 ^ pcn mk 21) 0 k c f g h).1.getD 0))) σ'') (hN : ∀ σ'', KX σ0 σ'' → (pa_in p (r + 1) p' (r' + 1) mk (2 ^ pcn mk 21) 0 k c f g h).1 = none → TX σ'' 200 (pa_in p (r + 1) p' (r' + 1) mk (2 ^ pcn mk 21) 0 k c f g h).2.1 (pa_in p (r + 1) p' (r' + 1) mk (2 ^ pcn mk 21) 0 k c f g h).2.2.1 (pa_in p (r + 1) p' (r' + 1) mk (2 ^ pcn mk 21) 0 k c f g h).2.2.2.1 (pa_in p (r + 1) p' (r' + 1) mk (2 ^ pcn mk 21) 0 k c f g h).2.2.2.2 → VA p r (pa_in p (r + 1) p' (r' + 1) mk (2 ^ pcn mk 21) 0 k c f g h).2.1 (pa_in p (r + 1) p' (r' + 1) mk (2 ^ pcn mk 21) 0 k c f g h).2.2.1 → VA p' r' (pa_in p (r + 1) p' (r' + 1) mk (2 ^ pcn mk 21) 0 k c f g h).2.1 (pa_in p (r + 1) p' (r' + 1) mk (2 ^ pcn mk 21) 0 k c f g h).2.2.2.1 → Q (some (.int (-1))) σ'') : am_C d 147 [.ref 41, .ref t, .ref t', .int (nI k), .int (nI mk)] σ Q := by
  have h8 := ((mk_f mk hmk).2 hmv.2).2.1
  refine am_enter' (M := M_X9_compareFrom) rfl rfl rfl (by omega) (ls := [some (.ref 41), some (.ref t), some (.ref t'), some (.int (nI k)), some (.int (nI mk)), none, none, none]) rfl (fun d' hd' => ?_)
  refine am_run 3 (pc' := 5) (ls' := [some (.ref 41), some (.ref t), some (.ref t'), some (.int (nI k)), some (.int (nI mk)), none, none, none]) (st' := [.int (nI k), .ref 79]) (σ' := σ) rfl ?_
  refine am_invv (y := 77) (b := 79) (as := [.int (nI k)]) (rest := []) rfl rfl rfl rfl rfl rfl rfl (Nat.le_of_ble_eq_true rfl) ?_
  refine c_stepsAt (by omega) hT hkc ?_
  show am_G _ M_X9_compareFrom _ 8 [some (.ref 41), some (.ref t), some (.ref t'), some (.int (nI k)), some (.int (nI mk)), none, none, none] [.int (nI (h k))] σ
  refine am_run 2 (pc' := 10) (ls' := [some (.ref 41), some (.ref t), some (.ref t'), some (.int (nI k)), some (.int (nI mk)), none, none, none]) (st' := [.int (nI (h k) + nI 1)]) (σ' := σ) rfl ?_
  refine am_top (v' := nI (h k + 1)) (nI_add _ _) ?_
  refine am_run 5 (pc' := 18) (ls' := [some (.ref 41), some (.ref t), some (.ref t'), some (.int (nI k)), some (.int (nI mk)), some (.int (nI (h k + 1))), some (.int (nI 0)), some (.int (nI 0))]) (st' := []) (σ' := σ) rfl ?_
  refine am_ls (ls' := [some (.ref 41), some (.ref t), some (.ref t'), some (.int (nI k)), some (.int (nI mk)), some (.int (nI (h k + 1))), some (.int (nI (pt mk 0))), some (.int (nI 0))]) (by rw [h8]) ?_
  exact c_comp_loop (by omega) hW hR hrn hro hV hW' hR' hrn' hro' hV' hmk hmv (2 ^ pcn mk 21) 0 σ c f g h (by omega) hK hT hkc hVA hVB rfl hA hN
set_option maxRecDepth 10000 in
set_option maxHeartbeats 2000000 in
theorem c_part_out {d : Nat} (hd : 522 ≤ d) {σ0 : am_M} {n r n' r' mk : Nat} {p p' : Pg} (hW : PW p n) (hR : TR σ0 (σ0.2 73 1) p n) (hrn : r < n) (hro : ROOT σ0 (σ0.2 73 1) (r + 1)) (hV : ∀ s u, u < 256 → VS p r (oc p (r + 1) s u).2.2.2.2.1) (hW' : PW p' n') (hR' : TR σ0 (σ0.2 75 1) p' n') (hrn' : r' < n') (hro' : ROOT σ0 (σ0.2 75 1) (r' + 1)) (hV' : ∀ s u, u < 256 → VS p' r' (oc p' (r' + 1) s u).2.2.2.2.1) (hmk : mk < 256) (hmv : mkv mk) {Q : am_Q} : ∀ (M k : Nat) (σ' : am_M) (c : Nat) (f g h : Nat → Nat) (v5 : Option Value), k + M = 200 → KX σ0 σ' → TX σ' 200 c f g h → VA p r c f → VA p' r' c g → (∀ σ'', KX σ0 σ'' → Q (some (.int (pa_out p (r + 1) p' (r' + 1) mk M k c f g h))) σ'') → am_G d M_X9_part Q 50 [some (.ref 41), some (.int (nI mk)), some (.ref 73), some (.ref 75), some (.int (nI k)), v5] [] σ'
  | 0, k, σ', c, f, g, h, v5, hm, hK, hT, hVA, hVB, hq => by
    have e : k = 200 := by omega
    subst e
    refine am_run 2 (pc' := 55) (ls' := [some (.ref 41), some (.int (nI mk)), some (.ref 73), some (.ref 75), some (.int (nI 200)), v5]) (st' := [.int (nI 200), .int (nI 200)]) (σ' := σ') rfl ?_
    refine am_ic (ty := 58) (tn := 102) rfl (by decide) rfl rfl (fun (h_1 : nI 200 < nI 200) => ?_) (fun (h_1 : ¬ (nI 200 < nI 200)) => ?_)
    · exact absurd h_1 (by decide)
    refine am_run 1 (pc' := 103) (ls' := [some (.ref 41), some (.int (nI mk)), some (.ref 73), some (.ref 75), some (.int (nI 200)), v5]) (st' := [.int (-1)]) (σ' := σ') rfl ?_
    refine am_reti rfl rfl ?_
    exact hq σ' hK
  | M + 1, k, σ', c, f, g, h, v5, hm, hK, hT, hVA, hVB, hq => by
    have hcl := hT.1
    by_cases hkc : k < c
    · skip
      refine am_run 2 (pc' := 55) (ls' := [some (.ref 41), some (.int (nI mk)), some (.ref 73), some (.ref 75), some (.int (nI k)), v5]) (st' := [.int (nI 200), .int (nI k)]) (σ' := σ') rfl ?_
      refine am_ic (ty := 58) (tn := 102) rfl (by decide) rfl rfl (fun (h_1 : nI k < nI 200) => ?_) (fun (h_1 : ¬ (nI k < nI 200)) => ?_)
      rotate_left
      · have h_1 : ¬ (k < 200) := fun z => h_1 ((nI_ltI (by omega) (by omega)).mpr z)
        omega
      have h_1 : k < 200 := (nI_ltI (by omega) (by omega)).mp h_1
      refine am_run 3 (pc' := 64) (ls' := [some (.ref 41), some (.int (nI mk)), some (.ref 73), some (.ref 75), some (.int (nI k)), v5]) (st' := [.ref 79, .int (nI k)]) (σ' := σ') rfl ?_
      refine am_invv (y := 74) (b := 79) (as := []) (rest := [.int (nI k)]) rfl rfl rfl rfl rfl rfl rfl (Nat.le_of_ble_eq_true rfl) ?_
      refine c_rsize (by omega) hT ?_
      show am_G _ M_X9_part _ 67 [some (.ref 41), some (.int (nI mk)), some (.ref 73), some (.ref 75), some (.int (nI k)), v5] [.int (nI c), .int (nI k)] σ'
      refine am_ic (ty := 70) (tn := 102) rfl (by decide) rfl rfl (fun (h_2 : nI k < nI c) => ?_) (fun (h_2 : ¬ (nI k < nI c)) => ?_)
      rotate_left
      · have h_2 : ¬ (k < c) := fun z => h_2 ((nI_ltI (by omega) (by omega)).mpr z)
        omega
      have h_2 : k < c := (nI_ltI (by omega) (by omega)).mp h_2
      refine am_run 2 (pc' := 72) (ls' := [some (.ref 41), some (.int (nI mk)), some (.ref 73), some (.ref 75), some (.int (nI k)), v5]) (st' := [.ref 73, .ref 41]) (σ' := σ') rfl ?_
      refine am_invv (y := 66) (b := 73) (as := []) (rest := [.ref 41]) rfl rfl rfl rfl rfl rfl rfl (Nat.le_of_ble_eq_true rfl) ?_
      refine am_enter' rfl rfl rfl (by omega) (ls := [some (.ref 73)]) rfl (fun d_3 hd_3 => ?_)
      refine am_run 2 (pc' := 4) (ls' := [some (.ref 73)]) (st' := [.ref (σ'.2 73 1)]) (σ' := σ') rfl ?_
      refine am_reta rfl rfl (Or.inr ⟨_, rfl⟩) ?_
      show am_G _ M_X9_part _ 75 [some (.ref 41), some (.int (nI mk)), some (.ref 73), some (.ref 75), some (.int (nI k)), v5] [.ref (σ'.2 73 1), .ref 41] σ'
      refine am_run 1 (pc' := 76) (ls' := [some (.ref 41), some (.int (nI mk)), some (.ref 73), some (.ref 75), some (.int (nI k)), v5]) (st' := [.ref 75, .ref (σ'.2 73 1), .ref 41]) (σ' := σ') rfl ?_
      refine am_invv (y := 66) (b := 75) (as := []) (rest := [.ref (σ'.2 73 1), .ref 41]) rfl rfl rfl rfl rfl rfl rfl (Nat.le_of_ble_eq_true rfl) ?_
      refine am_enter' rfl rfl rfl (by omega) (ls := [some (.ref 75)]) rfl (fun d_4 hd_4 => ?_)
      refine am_run 2 (pc' := 4) (ls' := [some (.ref 75)]) (st' := [.ref (σ'.2 75 1)]) (σ' := σ') rfl ?_
      refine am_reta rfl rfl (Or.inr ⟨_, rfl⟩) ?_
      show am_G _ M_X9_part _ 79 [some (.ref 41), some (.int (nI mk)), some (.ref 73), some (.ref 75), some (.int (nI k)), v5] [.ref (σ'.2 75 1), .ref (σ'.2 73 1), .ref 41] σ'
      refine am_run 2 (pc' := 82) (ls' := [some (.ref 41), some (.int (nI mk)), some (.ref 73), some (.ref 75), some (.int (nI k)), v5]) (st' := [.int (nI mk), .int (nI k), .ref (σ'.2 75 1), .ref (σ'.2 73 1), .ref 41]) (σ' := σ') rfl ?_
      refine am_invv (y := 147) (b := 41) (as := [.ref (σ'.2 73 1), .ref (σ'.2 75 1), .int (nI k), .int (nI mk)]) (rest := []) rfl rfl rfl rfl rfl rfl rfl (Nat.le_of_ble_eq_true rfl) ?_
      rw [show σ'.2 73 1 = σ0.2 73 1 by rw [hK.2.1 73 (by decide)], show σ'.2 75 1 = σ0.2 75 1 by rw [hK.2.1 75 (by decide)]]
      refine c_comp (by omega) hW hR hrn hro hV hW' hR' hrn' hro' hV' hmk hmv hK hT hkc hVA hVB (fun σ2 hK2 he => ?_) (fun σ2 hK2 he hT2 hVA2 hVB2 => ?_)
      · have hq2 := hq σ2 hK2
        rw [show (pa_out p (r + 1) p' (r' + 1) mk (M + 1) k c f g h) = (pa_in p (r + 1) p' (r' + 1) mk (2 ^ pcn mk 21) 0 k c f g h).1.getD 0 by show (if k < c then _ else _) = _; rw [if_pos hkc, if_neg he]] at hq2
        show am_G _ M_X9_part _ 85 [some (.ref 41), some (.int (nI mk)), some (.ref 73), some (.ref 75), some (.int (nI k)), v5] [.int ((pa_in p (r + 1) p' (r' + 1) mk (2 ^ pcn mk 21) 0 k c f g h).1.getD 0)] σ2
        refine am_run 3 (pc' := 90) (ls' := [some (.ref 41), some (.int (nI mk)), some (.ref 73), some (.ref 75), some (.int (nI k)), some (.int ((pa_in p (r + 1) p' (r' + 1) mk (2 ^ pcn mk 21) 0 k c f g h).1.getD 0))]) (st' := [.int (-1), .int ((pa_in p (r + 1) p' (r' + 1) mk (2 ^ pcn mk 21) 0 k c f g h).1.getD 0)]) (σ' := σ2) rfl ?_
        refine am_ic (ty := 96) (tn := 93) rfl (by decide) rfl rfl (fun (h_5 : (pa_in p (r + 1) p' (r' + 1) mk (2 ^ pcn mk 21) 0 k c f g h).1.getD 0 = -1) => ?_) (fun (h_5 : ¬ ((pa_in p (r + 1) p' (r' + 1) mk (2 ^ pcn mk 21) 0 k c f g h).1.getD 0 = -1)) => ?_)
        · refine am_run 1 (pc' := 99) (ls' := [some (.ref 41), some (.int (nI mk)), some (.ref 73), some (.ref 75), some (.int (nI k + nI 1)), some (.int ((pa_in p (r + 1) p' (r' + 1) mk (2 ^ pcn mk 21) 0 k c f g h).1.getD 0))]) (st' := []) (σ' := σ2) rfl ?_
          refine am_ls (ls' := [some (.ref 41), some (.int (nI mk)), some (.ref 73), some (.ref 75), some (.int (nI (k + 1))), some (.int ((pa_in p (r + 1) p' (r' + 1) mk (2 ^ pcn mk 21) 0 k c f g h).1.getD 0))]) (by rw [nI_add]) ?_
          refine am_run 1 (pc' := 50) (ls' := [some (.ref 41), some (.int (nI mk)), some (.ref 73), some (.ref 75), some (.int (nI (k + 1))), some (.int ((pa_in p (r + 1) p' (r' + 1) mk (2 ^ pcn mk 21) 0 k c f g h).1.getD 0))]) (st' := []) (σ' := σ2) rfl ?_
          exact absurd (show (pa_in p (r + 1) p' (r' + 1) mk (2 ^ pcn mk 21) 0 k c f g h).1.getD 0 = -1 by assumption) (pa_nn hkc (Nat.le_trans (hT.2.2.2.2 k hkc).2.2.2.2.2 (by omega)) he)
        · refine am_run 1 (pc' := 95) (ls' := [some (.ref 41), some (.int (nI mk)), some (.ref 73), some (.ref 75), some (.int (nI k)), some (.int ((pa_in p (r + 1) p' (r' + 1) mk (2 ^ pcn mk 21) 0 k c f g h).1.getD 0))]) (st' := [.int ((pa_in p (r + 1) p' (r' + 1) mk (2 ^ pcn mk 21) 0 k c f g h).1.getD 0)]) (σ' := σ2) rfl ?_
          refine am_reti rfl rfl ?_
          exact hq2
      · rw [show (pa_out p (r + 1) p' (r' + 1) mk (M + 1) k c f g h) = pa_out p (r + 1) p' (r' + 1) mk M (k + 1) (pa_in p (r + 1) p' (r' + 1) mk (2 ^ pcn mk 21) 0 k c f g h).2.1 (pa_in p (r + 1) p' (r' + 1) mk (2 ^ pcn mk 21) 0 k c f g h).2.2.1 (pa_in p (r + 1) p' (r' + 1) mk (2 ^ pcn mk 21) 0 k c f g h).2.2.2.1 (pa_in p (r + 1) p' (r' + 1) mk (2 ^ pcn mk 21) 0 k c f g h).2.2.2.2 by show (if k < c then _ else _) = _; rw [if_pos hkc, if_pos he]] at hq
        show am_G _ M_X9_part _ 85 [some (.ref 41), some (.int (nI mk)), some (.ref 73), some (.ref 75), some (.int (nI k)), v5] [.int (-1)] σ2
        refine am_run 3 (pc' := 90) (ls' := [some (.ref 41), some (.int (nI mk)), some (.ref 73), some (.ref 75), some (.int (nI k)), some (.int (-1))]) (st' := [.int (-1), .int (-1)]) (σ' := σ2) rfl ?_
        refine am_ic (ty := 96) (tn := 93) rfl (by decide) rfl rfl (fun (h_6 : -1 = -1) => ?_) (fun (h_6 : ¬ (-1 = -1)) => ?_)
        rotate_left
        · exact absurd (by decide) h_6
        refine am_run 1 (pc' := 99) (ls' := [some (.ref 41), some (.int (nI mk)), some (.ref 73), some (.ref 75), some (.int (nI k + nI 1)), some (.int (-1))]) (st' := []) (σ' := σ2) rfl ?_
        refine am_ls (ls' := [some (.ref 41), some (.int (nI mk)), some (.ref 73), some (.ref 75), some (.int (nI (k + 1))), some (.int (-1))]) (by rw [nI_add]) ?_
        refine am_run 1 (pc' := 50) (ls' := [some (.ref 41), some (.int (nI mk)), some (.ref 73), some (.ref 75), some (.int (nI (k + 1))), some (.int (-1))]) (st' := []) (σ' := σ2) rfl ?_
        exact c_part_out hd hW hR hrn hro hV hW' hR' hrn' hro' hV' hmk hmv M (k + 1) σ2 _ _ _ _ _ (by omega) hK2 hT2 hVA2 hVB2 hq
    · rw [show (pa_out p (r + 1) p' (r' + 1) mk (M + 1) k c f g h) = -1 by show (if k < c then _ else _) = _; rw [if_neg hkc]] at hq
      refine am_run 2 (pc' := 55) (ls' := [some (.ref 41), some (.int (nI mk)), some (.ref 73), some (.ref 75), some (.int (nI k)), v5]) (st' := [.int (nI 200), .int (nI k)]) (σ' := σ') rfl ?_
      refine am_ic (ty := 58) (tn := 102) rfl (by decide) rfl rfl (fun (h_1 : nI k < nI 200) => ?_) (fun (h_1 : ¬ (nI k < nI 200)) => ?_)
      rotate_left
      · have h_1 : ¬ (k < 200) := fun z => h_1 ((nI_ltI (by omega) (by omega)).mpr z)
        omega
      have h_1 : k < 200 := (nI_ltI (by omega) (by omega)).mp h_1
      refine am_run 3 (pc' := 64) (ls' := [some (.ref 41), some (.int (nI mk)), some (.ref 73), some (.ref 75), some (.int (nI k)), v5]) (st' := [.ref 79, .int (nI k)]) (σ' := σ') rfl ?_
      refine am_invv (y := 74) (b := 79) (as := []) (rest := [.int (nI k)]) rfl rfl rfl rfl rfl rfl rfl (Nat.le_of_ble_eq_true rfl) ?_
      refine c_rsize (by omega) hT ?_
      show am_G _ M_X9_part _ 67 [some (.ref 41), some (.int (nI mk)), some (.ref 73), some (.ref 75), some (.int (nI k)), v5] [.int (nI c), .int (nI k)] σ'
      refine am_ic (ty := 70) (tn := 102) rfl (by decide) rfl rfl (fun (h_2 : nI k < nI c) => ?_) (fun (h_2 : ¬ (nI k < nI c)) => ?_)
      · have h_2 : k < c := (nI_ltI (by omega) (by omega)).mp h_2
        omega
      have h_2 : ¬ (k < c) := fun z => h_2 ((nI_ltI (by omega) (by omega)).mpr z)
      refine am_run 1 (pc' := 103) (ls' := [some (.ref 41), some (.int (nI mk)), some (.ref 73), some (.ref 75), some (.int (nI k)), v5]) (st' := [.int (-1)]) (σ' := σ') rfl ?_
      refine am_reti rfl rfl ?_
      exact hq σ' hK
set_option maxRecDepth 10000 in
set_option maxHeartbeats 2000000 in
theorem c_comes_old {d : Nat} {σ : am_M} {c a b st : Nat} {f g h : Nat → Nat} (hT : TP σ c f g h) (ha : a ≤ 1048576) (hb : b ≤ 1048576) {Q : am_Q} (h1 : fnd f g a b c < c → Q none σ) (h2 : fnd f g a b c = c → Q none (am_wr (am_wr (am_wr (am_wr σ 38 c (nI a)) 39 c (nI b)) 40 c (nI st)) 0 58 (nI (c + 1)))) : ∀ (m k : Nat), k + m = c → fnd f g a b c < c → am_G d M_X10_comesPair Q 6 [some (.ref 0), some (.int (nI a)), some (.int (nI b)), some (.int (nI st)), some (.int (nI 0)), some (.int (nI k))] [] σ
  | 0, k, hm, hf => by
    obtain ⟨t1, t3, t5⟩ := id hT
    refine am_run 3 (pc' := 12) (ls' := [some (.ref 0), some (.int (nI a)), some (.int (nI b)), some (.int (nI st)), some (.int (nI 0)), some (.int (nI k))]) (st' := [.int (σ.1 0 58), .int (nI k)]) (σ' := σ) rfl ?_
    refine am_top (v' := nI c) t3 ?_
    refine am_ic (ty := 15) (tn := 55) rfl (by decide) rfl rfl (fun (h_1 : nI k < nI c) => ?_) (fun (h_1 : ¬ (nI k < nI c)) => ?_)
    · have h_1 : k < c := (nI_ltI (by omega) (by omega)).mp h_1
      omega
    have h_1 : ¬ (k < c) := fun z => h_1 ((nI_ltI (by omega) (by omega)).mpr z)
    refine am_run 1 (pc' := 57) (ls' := [some (.ref 0), some (.int (nI a)), some (.int (nI b)), some (.int (nI st)), some (.int (nI 0)), some (.int (nI k))]) (st' := [.int (nI 0)]) (σ' := σ) rfl ?_
    refine am_if (ty := 100) (tn := 60) rfl (by decide) rfl rfl (fun (h_2 : nI 0 = 0) => ?_) (fun (h_2 : ¬ (nI 0 = 0)) => ?_)
    rotate_left
    · exact absurd (by decide) h_2
    refine am_retv rfl rfl ?_
    exact h1 hf
  | m + 1, k, hm, hf => by
    obtain ⟨t1, t3, t5⟩ := id hT
    refine am_run 3 (pc' := 12) (ls' := [some (.ref 0), some (.int (nI a)), some (.int (nI b)), some (.int (nI st)), some (.int (nI 0)), some (.int (nI k))]) (st' := [.int (σ.1 0 58), .int (nI k)]) (σ' := σ) rfl ?_
    refine am_top (v' := nI c) t3 ?_
    refine am_ic (ty := 15) (tn := 55) rfl (by decide) rfl rfl (fun (h_1 : nI k < nI c) => ?_) (fun (h_1 : ¬ (nI k < nI c)) => ?_)
    rotate_left
    · have h_1 : ¬ (k < c) := fun z => h_1 ((nI_ltI (by omega) (by omega)).mpr z)
      omega
    have h_1 : k < c := (nI_ltI (by omega) (by omega)).mp h_1
    refine am_run 1 (pc' := 17) (ls' := [some (.ref 0), some (.int (nI a)), some (.int (nI b)), some (.int (nI st)), some (.int (nI 0)), some (.int (nI k))]) (st' := [.int (nI 0)]) (σ' := σ) rfl ?_
    refine am_if (ty := 46) (tn := 20) rfl (by decide) rfl rfl (fun (h_2 : nI 0 = 0) => ?_) (fun (h_2 : ¬ (nI 0 = 0)) => ?_)
    rotate_left
    · exact absurd (by decide) h_2
    refine am_run 3 (pc' := 52) (ls' := [some (.ref 0), some (.int (nI a)), some (.int (nI b)), some (.int (nI st)), some (.int (nI 0)), some (.int (nI k + nI 1))]) (st' := []) (σ' := σ) rfl ?_
    refine am_ls (ls' := [some (.ref 0), some (.int (nI a)), some (.int (nI b)), some (.int (nI st)), some (.int (nI 0)), some (.int (nI (k + 1)))]) (by rw [nI_add]) ?_
    refine am_run 1 (pc' := 6) (ls' := [some (.ref 0), some (.int (nI a)), some (.int (nI b)), some (.int (nI st)), some (.int (nI 0)), some (.int (nI (k + 1)))]) (st' := []) (σ' := σ) rfl ?_
    exact c_comes_old hT ha hb h1 h2 m (k + 1) (by omega) hf
set_option maxRecDepth 10000 in
set_option maxHeartbeats 2000000 in
theorem c_comes_loop {d : Nat} {σ : am_M} {c a b st : Nat} {f g h : Nat → Nat} (hT : TP σ c f g h) (ha : a ≤ 1048576) (hb : b ≤ 1048576) {Q : am_Q} (h1 : fnd f g a b c < c → Q none σ) (h2 : fnd f g a b c = c → Q none (am_wr (am_wr (am_wr (am_wr σ 38 c (nI a)) 39 c (nI b)) 40 c (nI st)) 0 58 (nI (c + 1)))) : ∀ (m k : Nat), k + m = c → (∀ k', k' < k → ¬ (f k' = a ∧ g k' = b)) → am_G d M_X10_comesPair Q 6 [some (.ref 0), some (.int (nI a)), some (.int (nI b)), some (.int (nI st)), some (.int (nI 1)), some (.int (nI k))] [] σ
  | 0, k, hm, hk => by
    obtain ⟨t1, t3, t5⟩ := id hT
    have e : k = c := by omega
    subst e
    have en := fnd_no k hk
    refine am_run 3 (pc' := 12) (ls' := [some (.ref 0), some (.int (nI a)), some (.int (nI b)), some (.int (nI st)), some (.int (nI 1)), some (.int (nI k))]) (st' := [.int (σ.1 0 58), .int (nI k)]) (σ' := σ) rfl ?_
    refine am_top (v' := nI k) t3 ?_
    refine am_ic (ty := 15) (tn := 55) rfl (by decide) rfl rfl (fun (h_1 : nI k < nI k) => ?_) (fun (h_1 : ¬ (nI k < nI k)) => ?_)
    · have h_1 : k < k := (nI_ltI (by omega) (by omega)).mp h_1
      omega
    have h_1 : ¬ (k < k) := fun z => h_1 ((nI_ltI (by omega) (by omega)).mpr z)
    refine am_run 1 (pc' := 57) (ls' := [some (.ref 0), some (.int (nI a)), some (.int (nI b)), some (.int (nI st)), some (.int (nI 1)), some (.int (nI k))]) (st' := [.int (nI 1)]) (σ' := σ) rfl ?_
    refine am_if (ty := 100) (tn := 60) rfl (by decide) rfl rfl (fun (h_2 : nI 1 = 0) => ?_) (fun (h_2 : ¬ (nI 1 = 0)) => ?_)
    · exact absurd h_2 (by decide)
    refine am_run 4 (pc' := 68) (ls' := [some (.ref 0), some (.int (nI a)), some (.int (nI b)), some (.int (nI st)), some (.int (nI 1)), some (.int (nI k))]) (st' := [.int (σ.1 0 58), .ref 38]) (σ' := σ) rfl ?_
    refine am_top (v' := nI k) t3 ?_
    refine am_run 1 (pc' := 69) (ls' := [some (.ref 0), some (.int (nI a)), some (.int (nI b)), some (.int (nI st)), some (.int (nI 1)), some (.int (nI k))]) (st' := [.int (nI a), .int (nI k), .ref 38]) (σ' := σ) rfl ?_
    refine am_iastN (n := 201) rfl rfl rfl (by omega) (by decide) ?_
    refine am_run 4 (pc' := 78) (ls' := [some (.ref 0), some (.int (nI a)), some (.int (nI b)), some (.int (nI st)), some (.int (nI 1)), some (.int (nI k))]) (st' := [.int (σ.1 0 58), .ref 39]) (σ' := (am_wr σ 38 k (nI a))) rfl ?_
    refine am_top (v' := nI k) t3 ?_
    refine am_run 1 (pc' := 79) (ls' := [some (.ref 0), some (.int (nI a)), some (.int (nI b)), some (.int (nI st)), some (.int (nI 1)), some (.int (nI k))]) (st' := [.int (nI b), .int (nI k), .ref 39]) (σ' := (am_wr σ 38 k (nI a))) rfl ?_
    refine am_iastN (n := 201) rfl rfl rfl (by omega) (by decide) ?_
    refine am_run 4 (pc' := 88) (ls' := [some (.ref 0), some (.int (nI a)), some (.int (nI b)), some (.int (nI st)), some (.int (nI 1)), some (.int (nI k))]) (st' := [.int (σ.1 0 58), .ref 40]) (σ' := (am_wr (am_wr σ 38 k (nI a)) 39 k (nI b))) rfl ?_
    refine am_top (v' := nI k) t3 ?_
    refine am_run 1 (pc' := 89) (ls' := [some (.ref 0), some (.int (nI a)), some (.int (nI b)), some (.int (nI st)), some (.int (nI 1)), some (.int (nI k))]) (st' := [.int (nI st), .int (nI k), .ref 40]) (σ' := (am_wr (am_wr σ 38 k (nI a)) 39 k (nI b))) rfl ?_
    refine am_iastN (n := 201) rfl rfl rfl (by omega) (by decide) ?_
    refine am_run 3 (pc' := 95) (ls' := [some (.ref 0), some (.int (nI a)), some (.int (nI b)), some (.int (nI st)), some (.int (nI 1)), some (.int (nI k))]) (st' := [.int (σ.1 0 58), .ref 0]) (σ' := (am_wr (am_wr (am_wr σ 38 k (nI a)) 39 k (nI b)) 40 k (nI st))) rfl ?_
    refine am_top (v' := nI k) t3 ?_
    refine am_run 2 (pc' := 97) (ls' := [some (.ref 0), some (.int (nI a)), some (.int (nI b)), some (.int (nI st)), some (.int (nI 1)), some (.int (nI k))]) (st' := [.int (nI k + nI 1), .ref 0]) (σ' := (am_wr (am_wr (am_wr σ 38 k (nI a)) 39 k (nI b)) 40 k (nI st))) rfl ?_
    refine am_top (v' := nI (k + 1)) (nI_add _ _) ?_
    refine am_run 1 (pc' := 100) (ls' := [some (.ref 0), some (.int (nI a)), some (.int (nI b)), some (.int (nI st)), some (.int (nI 1)), some (.int (nI k))]) (st' := []) (σ' := (am_wr (am_wr (am_wr (am_wr σ 38 k (nI a)) 39 k (nI b)) 40 k (nI st)) 0 58 (nI (k + 1)))) rfl ?_
    refine am_retv rfl rfl ?_
    exact h2 en
  | m + 1, k, hm, hk => by
    obtain ⟨t1, t3, t5⟩ := id hT
    obtain ⟨f1, f2, f3, f4, f5, f6⟩ := t5 k (by omega)
    refine am_run 3 (pc' := 12) (ls' := [some (.ref 0), some (.int (nI a)), some (.int (nI b)), some (.int (nI st)), some (.int (nI 1)), some (.int (nI k))]) (st' := [.int (σ.1 0 58), .int (nI k)]) (σ' := σ) rfl ?_
    refine am_top (v' := nI c) t3 ?_
    refine am_ic (ty := 15) (tn := 55) rfl (by decide) rfl rfl (fun (h_1 : nI k < nI c) => ?_) (fun (h_1 : ¬ (nI k < nI c)) => ?_)
    rotate_left
    · have h_1 : ¬ (k < c) := fun z => h_1 ((nI_ltI (by omega) (by omega)).mpr z)
      omega
    have h_1 : k < c := (nI_ltI (by omega) (by omega)).mp h_1
    refine am_run 1 (pc' := 17) (ls' := [some (.ref 0), some (.int (nI a)), some (.int (nI b)), some (.int (nI st)), some (.int (nI 1)), some (.int (nI k))]) (st' := [.int (nI 1)]) (σ' := σ) rfl ?_
    refine am_if (ty := 46) (tn := 20) rfl (by decide) rfl rfl (fun (h_2 : nI 1 = 0) => ?_) (fun (h_2 : ¬ (nI 1 = 0)) => ?_)
    · exact absurd h_2 (by decide)
    refine am_run 3 (pc' := 26) (ls' := [some (.ref 0), some (.int (nI a)), some (.int (nI b)), some (.int (nI st)), some (.int (nI 1)), some (.int (nI k))]) (st' := [.int (nI k), .ref 38]) (σ' := σ) rfl ?_
    refine am_ialdN (n := 201) (v := nI (f k)) rfl rfl rfl (by omega) f1 (by decide) ?_
    refine am_run 1 (pc' := 28) (ls' := [some (.ref 0), some (.int (nI a)), some (.int (nI b)), some (.int (nI st)), some (.int (nI 1)), some (.int (nI k))]) (st' := [.int (nI a), .int (nI (f k))]) (σ' := σ) rfl ?_
    refine am_ic (ty := 31) (tn := 42) rfl (by decide) rfl rfl (fun (h_3 : nI (f k) = nI a) => ?_) (fun (h_3 : ¬ (nI (f k) = nI a)) => ?_)
    · have h_3 : f k = a := (nI_eq (by omega) (by omega)).mp h_3
      refine am_run 3 (pc' := 37) (ls' := [some (.ref 0), some (.int (nI a)), some (.int (nI b)), some (.int (nI st)), some (.int (nI 1)), some (.int (nI k))]) (st' := [.int (nI k), .ref 39]) (σ' := σ) rfl ?_
      refine am_ialdN (n := 201) (v := nI (g k)) rfl rfl rfl (by omega) f2 (by decide) ?_
      refine am_run 1 (pc' := 39) (ls' := [some (.ref 0), some (.int (nI a)), some (.int (nI b)), some (.int (nI st)), some (.int (nI 1)), some (.int (nI k))]) (st' := [.int (nI b), .int (nI (g k))]) (σ' := σ) rfl ?_
      refine am_ic (ty := 46) (tn := 42) rfl (by decide) rfl rfl (fun (h_4 : nI (g k) = nI b) => ?_) (fun (h_4 : ¬ (nI (g k) = nI b)) => ?_)
      · have h_4 : g k = b := (nI_eq (by omega) (by omega)).mp h_4
        refine am_run 3 (pc' := 52) (ls' := [some (.ref 0), some (.int (nI a)), some (.int (nI b)), some (.int (nI st)), some (.int (nI 0)), some (.int (nI k + nI 1))]) (st' := []) (σ' := σ) rfl ?_
        refine am_ls (ls' := [some (.ref 0), some (.int (nI a)), some (.int (nI b)), some (.int (nI st)), some (.int (nI 0)), some (.int (nI (k + 1)))]) (by rw [nI_add]) ?_
        refine am_run 1 (pc' := 6) (ls' := [some (.ref 0), some (.int (nI a)), some (.int (nI b)), some (.int (nI st)), some (.int (nI 0)), some (.int (nI (k + 1)))]) (st' := []) (σ' := σ) rfl ?_
        have ey := fnd_yes (f := f) (g := g) (a := a) (b := b) (k := k) ⟨by assumption, by assumption⟩ hk c (by omega)
        exact c_comes_old hT ha hb h1 h2 m (k + 1) (by omega) (by omega)
      · have h_4 : ¬ (g k = b) := fun z => h_4 ((nI_eq (by omega) (by omega)).mpr z)
        refine am_run 4 (pc' := 52) (ls' := [some (.ref 0), some (.int (nI a)), some (.int (nI b)), some (.int (nI st)), some (.int (nI 1)), some (.int (nI k + nI 1))]) (st' := []) (σ' := σ) rfl ?_
        refine am_ls (ls' := [some (.ref 0), some (.int (nI a)), some (.int (nI b)), some (.int (nI st)), some (.int (nI 1)), some (.int (nI (k + 1)))]) (by rw [nI_add]) ?_
        refine am_run 1 (pc' := 6) (ls' := [some (.ref 0), some (.int (nI a)), some (.int (nI b)), some (.int (nI st)), some (.int (nI 1)), some (.int (nI (k + 1)))]) (st' := []) (σ' := σ) rfl ?_
        refine c_comes_loop hT ha hb h1 h2 m (k + 1) (by omega) (fun k' hk' => ?_)
        by_cases e : k' = k
        · subst e; intro z; simp_all
        · exact hk k' (by omega)
    · have h_3 : ¬ (f k = a) := fun z => h_3 ((nI_eq (by omega) (by omega)).mpr z)
      refine am_run 4 (pc' := 52) (ls' := [some (.ref 0), some (.int (nI a)), some (.int (nI b)), some (.int (nI st)), some (.int (nI 1)), some (.int (nI k + nI 1))]) (st' := []) (σ' := σ) rfl ?_
      refine am_ls (ls' := [some (.ref 0), some (.int (nI a)), some (.int (nI b)), some (.int (nI st)), some (.int (nI 1)), some (.int (nI (k + 1)))]) (by rw [nI_add]) ?_
      refine am_run 1 (pc' := 6) (ls' := [some (.ref 0), some (.int (nI a)), some (.int (nI b)), some (.int (nI st)), some (.int (nI 1)), some (.int (nI (k + 1)))]) (st' := []) (σ' := σ) rfl ?_
      refine c_comes_loop hT ha hb h1 h2 m (k + 1) (by omega) (fun k' hk' => ?_)
      by_cases e : k' = k
      · subst e; intro z; simp_all
      · exact hk k' (by omega)
set_option maxRecDepth 10000 in
set_option maxHeartbeats 2000000 in
theorem c_comesPair {d : Nat} (hd : 1 ≤ d) {σ : am_M} {c a b st : Nat} {f g h : Nat → Nat} (hT : TP σ c f g h) (ha : a ≤ 1048576) (hb : b ≤ 1048576) {Q : am_Q} (h1 : fnd f g a b c < c → Q none σ) (h2 : fnd f g a b c = c → Q none (am_wr (am_wr (am_wr (am_wr σ 38 c (nI a)) 39 c (nI b)) 40 c (nI st)) 0 58 (nI (c + 1)))) : am_C d 249 [.ref 0, .int (nI a), .int (nI b), .int (nI st)] σ Q := by
  refine am_enter' (M := M_X10_comesPair) rfl rfl rfl (by omega) (ls := [some (.ref 0), some (.int (nI a)), some (.int (nI b)), some (.int (nI st)), none, none]) rfl (fun d' hd' => ?_)
  refine am_run 4 (pc' := 6) (ls' := [some (.ref 0), some (.int (nI a)), some (.int (nI b)), some (.int (nI st)), some (.int (nI 1)), some (.int (nI 0))]) (st' := []) (σ' := σ) rfl ?_
  exact c_comes_loop hT ha hb h1 h2 c 0 (by omega) (fun _ z => absurd z (Nat.not_lt_zero _))

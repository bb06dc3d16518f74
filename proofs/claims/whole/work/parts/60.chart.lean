/-! the chart: what is reached, what each instant shows (0: rejected, else the signals + 1), where it leads (+ 1), how many are rejected -/
abbrev C5 : Type := Nat × (Nat → Nat) × (Nat → Nat) × (Nat → Nat) × Nat
def ch_in (p : Pg) (x mk : Nat) : Nat → Nat → Nat → C5 → Option C5
  | 0, _, _, T => some T
  | m + 1, i, k, T =>
    if (oc p x (T.2.1 k) (pt mk i)).2.2.1 = 0 then
      (if fnd T.2.1 z0 (oc p x (T.2.1 k) (pt mk i)).2.2.2.2.1 0 T.1 < T.1 then ch_in p x mk m (i + 1) k (T.1, T.2.1, up1 T.2.2.1 (8 * k + i) ((oc p x (T.2.1 k) (pt mk i)).1 + 1), up1 T.2.2.2.1 (8 * k + i) (fnd T.2.1 z0 (oc p x (T.2.1 k) (pt mk i)).2.2.2.2.1 0 T.1 + 1), T.2.2.2.2)
      else if T.1 = 100 then none
      else ch_in p x mk m (i + 1) k (T.1 + 1, up1 T.2.1 T.1 (oc p x (T.2.1 k) (pt mk i)).2.2.2.2.1, up1 T.2.2.1 (8 * k + i) ((oc p x (T.2.1 k) (pt mk i)).1 + 1), up1 T.2.2.2.1 (8 * k + i) (T.1 + 1), T.2.2.2.2))
    else ch_in p x mk m (i + 1) k (T.1, T.2.1, up1 T.2.2.1 (8 * k + i) 0, up1 T.2.2.2.1 (8 * k + i) 0, T.2.2.2.2 + 1)
def ch_out (p : Pg) (x mk : Nat) : Nat → Nat → C5 → Option C5
  | 0, _, T => some T
  | M + 1, k, T => if k < T.1 then (match ch_in p x mk (2 ^ pcn mk 21) 0 k T with
      | none => none
      | some T' => ch_out p x mk M (k + 1) T') else some T
/-- entered so far: rows below k, and of row k the first i -/
def ent (wd k i a b : Nat) : Prop := b < wd ∧ (a < k ∨ (a = k ∧ b < i))
/-- the class's chart -/
def CX (σ : am_M) (wd k i : Nat) (T : C5) : Prop := wd ≤ 8 ∧ σ.1 83 5 = nI wd ∧ σ.1 83 6 = nI T.2.2.2.2 ∧ T.2.2.2.2 ≤ 8 * k + i ∧ ∀ a b, ent wd k i a b → σ.1 84 (8 * a + b) = oI (T.2.2.1 (8 * a + b)) ∧ T.2.2.1 (8 * a + b) ≤ 256 ∧ (¬ T.2.2.1 (8 * a + b) = 0 → σ.1 85 (8 * a + b) = nI (T.2.2.2.1 (8 * a + b) - 1)) ∧ T.2.2.2.1 (8 * a + b) ≤ T.1 ∧ (T.2.2.1 (8 * a + b) = 0 ↔ T.2.2.2.1 (8 * a + b) = 0)
theorem CX.nx {σ : am_M} {wd k : Nat} {T : C5} (h : CX σ wd k wd T) : CX σ wd (k + 1) 0 T := by
  obtain ⟨h1, h2, h3, h4, h5⟩ := h
  exact ⟨h1, h2, h3, by omega, fun a b e => h5 a b ⟨e.1, by have := e.1; have := e.2; omega⟩⟩
theorem CX.keep {σ σ' : am_M} {wd k i : Nat} {T : C5} (h : CX σ wd k i T) (hk : ∀ c, 83 ≤ c → σ'.1 c = σ.1 c) : CX σ' wd k i T := by
  unfold CX
  rw [hk 83 (by omega), hk 84 (by omega), hk 85 (by omega)]
  exact h
/-- one more entry -/
theorem CX.add {σ σ' : am_M} {wd k i : Nat} {T : C5} (h : CX σ wd k i T) (hi : i < wd) (hk : k < 100) {c' : Nat} {f' : Nat → Nat} {rj' v l : Nat} (hc : T.1 ≤ c') (h5 : σ'.1 83 5 = σ.1 83 5) (h6 : σ'.1 83 6 = nI rj') (hr : rj' ≤ 8 * k + (i + 1)) (o84 : ∀ q, ¬ q = 8 * k + i → σ'.1 84 q = σ.1 84 q) (o85 : ∀ q, ¬ q = 8 * k + i → σ'.1 85 q = σ.1 85 q) (s84 : σ'.1 84 (8 * k + i) = oI v) (hv : v ≤ 256) (s85 : ¬ v = 0 → σ'.1 85 (8 * k + i) = nI (l - 1)) (hl : l ≤ c') (hvl : v = 0 ↔ l = 0) : CX σ' wd k (i + 1) (c', f', up1 T.2.2.1 (8 * k + i) v, up1 T.2.2.2.1 (8 * k + i) l, rj') := by
  obtain ⟨g1, g2, g3, g4, g5⟩ := h
  refine ⟨g1, by rw [h5]; exact g2, h6, hr, fun a b e => ?_⟩
  show σ'.1 84 (8 * a + b) = oI (up1 T.2.2.1 (8 * k + i) v (8 * a + b)) ∧ up1 T.2.2.1 (8 * k + i) v (8 * a + b) ≤ 256 ∧ (¬ up1 T.2.2.1 (8 * k + i) v (8 * a + b) = 0 → σ'.1 85 (8 * a + b) = nI (up1 T.2.2.2.1 (8 * k + i) l (8 * a + b) - 1)) ∧ up1 T.2.2.2.1 (8 * k + i) l (8 * a + b) ≤ c' ∧ (up1 T.2.2.1 (8 * k + i) v (8 * a + b) = 0 ↔ up1 T.2.2.2.1 (8 * k + i) l (8 * a + b) = 0)
  obtain ⟨e1, e2⟩ := e
  by_cases z : 8 * a + b = 8 * k + i
  · rw [z, up1_s, up1_s]
    exact ⟨s84, hv, s85, hl, hvl⟩
  · rw [up1_o _ _ z, up1_o _ _ z, o84 _ z, o85 _ z]
    obtain ⟨q1, q2, q3, q4, q5⟩ := g5 a b ⟨e1, by omega⟩
    exact ⟨q1, q2, q3, Nat.le_trans q4 hc, q5⟩
/-- the reference's chart -/
def CM (σ : am_M) (wd k i : Nat) (T : C5) : Prop := wd ≤ 8 ∧ σ.1 0 54 = nI T.2.2.2.2 ∧ T.2.2.2.2 ≤ 8 * k + i ∧ ∀ a b, ent wd k i a b → σ.1 35 (8 * a + b) = oI (T.2.2.1 (8 * a + b)) ∧ T.2.2.1 (8 * a + b) ≤ 256 ∧ σ.1 34 (8 * a + b) = oI (T.2.2.2.1 (8 * a + b)) ∧ T.2.2.2.1 (8 * a + b) ≤ T.1 ∧ (T.2.2.1 (8 * a + b) = 0 ↔ T.2.2.2.1 (8 * a + b) = 0)
theorem CM.nx {σ : am_M} {wd k : Nat} {T : C5} (h : CM σ wd k wd T) : CM σ wd (k + 1) 0 T := by
  obtain ⟨h1, h2, h4, h5⟩ := h
  exact ⟨h1, h2, by omega, fun a b e => h5 a b ⟨e.1, by have := e.1; have := e.2; omega⟩⟩
theorem CM.ks {σ σ' : am_M} {wd k i : Nat} {T : C5} (h : CM σ wd k i T) (hS : KS σ σ') : CM σ' wd k i T := by
  unfold CM
  rw [hS.2.1 54 (by omega), hS.1 34 (by decide) (by decide) (by decide) (by decide), hS.1 35 (by decide) (by decide) (by decide) (by decide)]
  exact h
theorem CM.add {σ σ' : am_M} {wd k i : Nat} {T : C5} (h : CM σ wd k i T) (hi : i < wd) {c' : Nat} {f' : Nat → Nat} {rj' v l : Nat} (hc : T.1 ≤ c') (h6 : σ'.1 0 54 = nI rj') (hr : rj' ≤ 8 * k + (i + 1)) (o34 : ∀ q, ¬ q = 8 * k + i → σ'.1 34 q = σ.1 34 q) (o35 : ∀ q, ¬ q = 8 * k + i → σ'.1 35 q = σ.1 35 q) (s35 : σ'.1 35 (8 * k + i) = oI v) (hv : v ≤ 256) (s34 : σ'.1 34 (8 * k + i) = oI l) (hl : l ≤ c') (hvl : v = 0 ↔ l = 0) : CM σ' wd k (i + 1) (c', f', up1 T.2.2.1 (8 * k + i) v, up1 T.2.2.2.1 (8 * k + i) l, rj') := by
  obtain ⟨g1, g3, g4, g5⟩ := h
  refine ⟨g1, h6, hr, fun a b e => ?_⟩
  show σ'.1 35 (8 * a + b) = oI (up1 T.2.2.1 (8 * k + i) v (8 * a + b)) ∧ up1 T.2.2.1 (8 * k + i) v (8 * a + b) ≤ 256 ∧ σ'.1 34 (8 * a + b) = oI (up1 T.2.2.2.1 (8 * k + i) l (8 * a + b)) ∧ up1 T.2.2.2.1 (8 * k + i) l (8 * a + b) ≤ c' ∧ (up1 T.2.2.1 (8 * k + i) v (8 * a + b) = 0 ↔ up1 T.2.2.2.1 (8 * k + i) l (8 * a + b) = 0)
  obtain ⟨e1, e2⟩ := e
  by_cases z : 8 * a + b = 8 * k + i
  · rw [z, up1_s, up1_s]
    exact ⟨s35, hv, s34, hl, hvl⟩
  · rw [up1_o _ _ z, up1_o _ _ z, o34 _ z, o35 _ z]
    obtain ⟨q1, q2, q3, q4, q5⟩ := g5 a b ⟨e1, by omega⟩
    exact ⟨q1, q2, q3, Nat.le_trans q4 hc, q5⟩
set_option maxRecDepth 10000 in
set_option maxHeartbeats 2000000 in
theorem c_draw_in {d : Nat} (hd : 520 ≤ d) {σ0 : am_M} {t n r mk k : Nat} {p : Pg} (hW : PW p n) (hR : TR σ0 t p n) (hrn : r < n) (hro : ROOT σ0 t (r + 1)) (hmk : mk < 256) (hmv : mkv mk) (hV : ∀ s u, u < 256 → VS p r (oc p (r + 1) s u).2.2.2.2.1) {Q : am_Q} : ∀ (m i : Nat) (σ' : am_M) (c : Nat) (f tl ld : Nat → Nat) (rj : Nat) (v7 : Option Value), i + m = 2 ^ pcn mk 21 → KX σ0 σ' → TX σ' 100 c f z0 z0 → k < c → VA p r c f → CX σ' (2 ^ pcn mk 21) k i (c, f, tl, ld, rj) → (i = 0 ∨ σ'.1 83 4 = nI (k + 1)) → (∀ σ'', KX σ0 σ'' → (ch_in p (r + 1) mk m i k (c, f, tl, ld, rj)) = none → Q (some (.int (nI 0))) σ'') → (∀ σ'' c' f' tl' ld' rj' v5 v6 v7, KX σ0 σ'' → (ch_in p (r + 1) mk m i k (c, f, tl, ld, rj)) = some (c', f', tl', ld', rj') → TX σ'' 100 c' f' z0 z0 → VA p r c' f' → k < c' → CX σ'' (2 ^ pcn mk 21) k (2 ^ pcn mk 21) (c', f', tl', ld', rj') → σ''.1 83 4 = nI (k + 1) → am_G d M_X9_drawChart Q 167 [some (.ref 41), some (.ref t), some (.int (nI mk)), some (.int (nI (2 ^ pcn mk 21))), some (.int (nI k)), v5, v6, v7] [] σ'') → am_G d M_X9_drawChart Q 53 [some (.ref 41), some (.ref t), some (.int (nI mk)), some (.int (nI (2 ^ pcn mk 21))), some (.int (nI k)), some (.int (nI (pt mk i))), some (.int (nI i)), v7] [] σ'
  | 0, i, σ', c, f, tl, ld, rj, v7, hm, hK, hT, hkc, hVA, hC, h4s, hA, hN => by
    have h8 := ((mk_f mk hmk).2 hmv.2).1
    have hp2 : 0 < 2 ^ pcn mk 21 := Nat.pow_pos (by decide)
    have e : i = 2 ^ pcn mk 21 := by omega
    rw [e] at hC
    refine am_run 2 (pc' := 56) (ls' := [some (.ref 41), some (.ref t), some (.int (nI mk)), some (.int (nI (2 ^ pcn mk 21))), some (.int (nI k)), some (.int (nI (pt mk i))), some (.int (nI i)), v7]) (st' := [.int (nI (2 ^ pcn mk 21)), .int (nI i)]) (σ' := σ') rfl ?_
    refine am_ic (ty := 59) (tn := 167) rfl (by decide) rfl rfl (fun (h_1 : nI i < nI (2 ^ pcn mk 21)) => ?_) (fun (h_1 : ¬ (nI i < nI (2 ^ pcn mk 21))) => ?_)
    · have h_1 : i < 2 ^ pcn mk 21 := (nI_ltI (by omega) (by omega)).mp h_1
      omega
    have h_1 : ¬ (i < 2 ^ pcn mk 21) := fun z => h_1 ((nI_ltI (by omega) (by omega)).mpr z)
    exact hN σ' c f tl ld rj _ _ _ hK rfl hT hVA hkc hC (h4s.resolve_left (by omega))
  | m + 1, i, σ', c, f, tl, ld, rj, v7, hm, hK, hT, hkc, hVA, hC, h4s, hA, hN => by
    have h8 := ((mk_f mk hmk).2 hmv.2).1
    have hT3 := hR.t3
    obtain ⟨t1, t2, t3, t4, t5⟩ := id hT
    obtain ⟨-, -, -, f4, -, f6⟩ := t5 k hkc
    have hrj := hC.2.2.2.1
    have hrj : rj ≤ 8 * k + i := hrj
    obtain ⟨b1, b2, b3_, b4_, b5_, b6_⟩ := oc_b (s := f k) hW (show r + 1 ≤ n by omega) (pt_lt mk i)
    have hnv := hV (f k) (pt mk i) (pt_lt mk i)
    generalize hz : oc p (r + 1) (f k) (pt mk i) = z0_ at b1 b2 b3_ b4_ b5_ b6_ hnv 
    obtain ⟨P, A, w, c1, nx, rd⟩ := z0_
    have b1 : P < 256 := b1
    have b2 : A < 256 := b2
    have b3_ : w ≤ 256 := b3_
    have b4_ : c1 ≤ 6 := b4_
    have b5_ : nx < 1048576 := b5_
    have b6_ : rd ≤ 9 := b6_
    have hnv : VS p r nx := hnv
    by_cases hw0 : w = 0
    · subst hw0
      have hfl := fnd_le f z0 nx 0 c
      by_cases hfn : fnd f z0 nx 0 c < c
      · skip
        refine am_run 2 (pc' := 56) (ls' := [some (.ref 41), some (.ref t), some (.int (nI mk)), some (.int (nI (2 ^ pcn mk 21))), some (.int (nI k)), some (.int (nI (pt mk i))), some (.int (nI i)), v7]) (st' := [.int (nI (2 ^ pcn mk 21)), .int (nI i)]) (σ' := σ') rfl ?_
        refine am_ic (ty := 59) (tn := 167) rfl (by decide) rfl rfl (fun (h_1 : nI i < nI (2 ^ pcn mk 21)) => ?_) (fun (h_1 : ¬ (nI i < nI (2 ^ pcn mk 21))) => ?_)
        rotate_left
        · have h_1 : ¬ (i < 2 ^ pcn mk 21) := fun z => h_1 ((nI_ltI (by omega) (by omega)).mpr z)
          omega
        have h_1 : i < 2 ^ pcn mk 21 := (nI_ltI (by omega) (by omega)).mp h_1
        refine am_run 6 (pc' := 70) (ls' := [some (.ref 41), some (.ref t), some (.int (nI mk)), some (.int (nI (2 ^ pcn mk 21))), some (.int (nI k)), some (.int (nI (pt mk i))), some (.int (nI i)), v7]) (st' := [.int (nI k), .ref 79, .ref t, .ref 77]) (σ' := σ') rfl ?_
        refine am_invv (y := 75) (b := 79) (as := [.int (nI k)]) (rest := [.ref t, .ref 77]) rfl rfl rfl rfl rfl rfl rfl (Nat.le_of_ble_eq_true rfl) ?_
        refine c_firstAt (by omega) hT hkc ?_
        show am_G _ M_X9_drawChart _ 73 [some (.ref 41), some (.ref t), some (.int (nI mk)), some (.int (nI (2 ^ pcn mk 21))), some (.int (nI k)), some (.int (nI (pt mk i))), some (.int (nI i)), v7] [.int (nI (f k)), .ref t, .ref 77] σ'
        refine am_run 1 (pc' := 75) (ls' := [some (.ref 41), some (.ref t), some (.int (nI mk)), some (.int (nI (2 ^ pcn mk 21))), some (.int (nI k)), some (.int (nI (pt mk i))), some (.int (nI i)), v7]) (st' := [.int (nI (pt mk i)), .int (nI (f k)), .ref t, .ref 77]) (σ' := σ') rfl ?_
        refine am_invv (y := 56) (b := 77) (as := [.ref t, .int (nI (f k)), .int (nI (pt mk i))]) (rest := []) rfl rfl rfl rfl rfl rfl rfl (Nat.le_of_ble_eq_true rfl) ?_
        refine c_determine (by omega) hW (hK.TR hR) (show r + 1 ≤ n by omega) (hK.RT hT3 hro) (Or.inl rfl) f4 (pt_lt mk i) (fun σ2 hKc hO => ?_)
        rw [hz] at hO
        obtain ⟨o0, o1, o2, o3, o4⟩ : σ2.1 77 0 = nI (P + 256 * A) ∧ σ2.1 77 1 = nI 0 ∧ σ2.1 77 2 = nI c1 ∧ σ2.1 77 3 = nI nx ∧ σ2.1 77 4 = nI rd := hO
        have hK2 := hK.kc hKc (Or.inl rfl)
        have hT2 := hT.keep (fun c a => hKc.1 c (by omega))
        have hC2 := hC.keep (fun c a => hKc.1 c (by omega))
        have c5 := hC2.2.1
        have c6 : σ2.1 83 6 = nI rj := hC2.2.2.1
        show am_G _ M_X9_drawChart _ 78 [some (.ref 41), some (.ref t), some (.int (nI mk)), some (.int (nI (2 ^ pcn mk 21))), some (.int (nI k)), some (.int (nI (pt mk i))), some (.int (nI i)), v7] [] σ2
        refine am_run 2 (pc' := 82) (ls' := [some (.ref 41), some (.ref t), some (.int (nI mk)), some (.int (nI (2 ^ pcn mk 21))), some (.int (nI k)), some (.int (nI (pt mk i))), some (.int (nI i)), v7]) (st' := [.ref 77]) (σ' := σ2) rfl ?_
        refine am_invv (y := 52) (b := 77) (as := []) (rest := []) rfl rfl rfl rfl rfl rfl rfl (Nat.le_of_ble_eq_true rfl) ?_
        refine am_enter' rfl rfl rfl (by omega) (ls := [some (.ref 77)]) rfl (fun d_2 hd_2 => ?_)
        refine am_run 2 (pc' := 4) (ls' := [some (.ref 77)]) (st' := [.int (σ2.1 77 1)]) (σ' := σ2) rfl ?_
        refine am_top (v' := nI 0) (by exact o1) ?_
        refine am_if (ty := 11) (tn := 7) rfl (by decide) rfl rfl (fun (h_3 : nI 0 = 0) => ?_) (fun (h_3 : ¬ (nI 0 = 0)) => ?_)
        rotate_left
        · exact absurd (by decide) h_3
        refine am_run 1 (pc' := 12) (ls' := [some (.ref 77)]) (st' := [.int (nI 0)]) (σ' := σ2) rfl ?_
        refine am_retz rfl rfl (by decide) ?_
        show am_G _ M_X9_drawChart _ 85 [some (.ref 41), some (.ref t), some (.int (nI mk)), some (.int (nI (2 ^ pcn mk 21))), some (.int (nI k)), some (.int (nI (pt mk i))), some (.int (nI i)), v7] [.int (nI 0)] σ2
        refine am_if (ty := 93) (tn := 88) rfl (by decide) rfl rfl (fun (h_4 : nI 0 = 0) => ?_) (fun (h_4 : ¬ (nI 0 = 0)) => ?_)
        rotate_left
        · exact absurd (by decide) h_4
        refine am_run 4 (pc' := 101) (ls' := [some (.ref 41), some (.ref t), some (.int (nI mk)), some (.int (nI (2 ^ pcn mk 21))), some (.int (nI k)), some (.int (nI (pt mk i))), some (.int (nI i)), v7]) (st' := [.ref 77, .ref 79]) (σ' := σ2) rfl ?_
        refine am_invv (y := 54) (b := 77) (as := []) (rest := [.ref 79]) rfl rfl rfl rfl rfl rfl rfl (Nat.le_of_ble_eq_true rfl) ?_
        refine am_enter' rfl rfl rfl (by omega) (ls := [some (.ref 77)]) rfl (fun d_5 hd_5 => ?_)
        refine am_run 2 (pc' := 4) (ls' := [some (.ref 77)]) (st' := [.int (σ2.1 77 3)]) (σ' := σ2) rfl ?_
        refine am_top (v' := nI nx) o3 ?_
        refine am_reti rfl rfl ?_
        show am_G _ M_X9_drawChart _ 104 [some (.ref 41), some (.ref t), some (.int (nI mk)), some (.int (nI (2 ^ pcn mk 21))), some (.int (nI k)), some (.int (nI (pt mk i))), some (.int (nI i)), v7] [.int (nI nx), .ref 79] σ2
        refine am_run 2 (pc' := 106) (ls' := [some (.ref 41), some (.ref t), some (.int (nI mk)), some (.int (nI (2 ^ pcn mk 21))), some (.int (nI k)), some (.int (nI (pt mk i))), some (.int (nI i)), v7]) (st' := [.int (nI 0), .int (nI 0), .int (nI nx), .ref 79]) (σ' := σ2) rfl ?_
        refine am_invv (y := 78) (b := 79) (as := [.int (nI nx), .int (nI 0), .int (nI 0)]) (rest := []) rfl rfl rfl rfl rfl rfl rfl (Nat.le_of_ble_eq_true rfl) ?_
        refine c_reach (by omega) hT2 (by omega) (by decide) (fun _ => ?_) (fun z => absurd hfn (by omega)) (fun z => absurd hfn (by omega))
        show am_G _ M_X9_drawChart _ 109 [some (.ref 41), some (.ref t), some (.int (nI mk)), some (.int (nI (2 ^ pcn mk 21))), some (.int (nI k)), some (.int (nI (pt mk i))), some (.int (nI i)), v7] [.int (nI (fnd f z0 nx 0 c))] σ2
        refine am_run 3 (pc' := 114) (ls' := [some (.ref 41), some (.ref t), some (.int (nI mk)), some (.int (nI (2 ^ pcn mk 21))), some (.int (nI k)), some (.int (nI (pt mk i))), some (.int (nI i)), some (.int (nI (fnd f z0 nx 0 c)))]) (st' := [.int (-1), .int (nI (fnd f z0 nx 0 c))]) (σ' := σ2) rfl ?_
        refine am_ic (ty := 117) (tn := 119) rfl (by decide) rfl rfl (fun (h_6 : nI (fnd f z0 nx 0 c) = -1) => ?_) (fun (h_6 : ¬ (nI (fnd f z0 nx 0 c) = -1)) => ?_)
        · exact absurd h_6 (am_nm1 (by omega))
        refine am_run 6 (pc' := 131) (ls' := [some (.ref 41), some (.ref t), some (.int (nI mk)), some (.int (nI (2 ^ pcn mk 21))), some (.int (nI k)), some (.int (nI (pt mk i))), some (.int (nI i)), some (.int (nI (fnd f z0 nx 0 c)))]) (st' := [.ref 77, .int (nI i), .int (nI k), .ref 83]) (σ' := σ2) rfl ?_
        refine am_invv (y := 52) (b := 77) (as := []) (rest := [.int (nI i), .int (nI k), .ref 83]) rfl rfl rfl rfl rfl rfl rfl (Nat.le_of_ble_eq_true rfl) ?_
        refine am_enter' rfl rfl rfl (by omega) (ls := [some (.ref 77)]) rfl (fun d_7 hd_7 => ?_)
        refine am_run 2 (pc' := 4) (ls' := [some (.ref 77)]) (st' := [.int (σ2.1 77 1)]) (σ' := σ2) rfl ?_
        refine am_top (v' := nI 0) (by exact o1) ?_
        refine am_if (ty := 11) (tn := 7) rfl (by decide) rfl rfl (fun (h_8 : nI 0 = 0) => ?_) (fun (h_8 : ¬ (nI 0 = 0)) => ?_)
        rotate_left
        · exact absurd (by decide) h_8
        refine am_run 1 (pc' := 12) (ls' := [some (.ref 77)]) (st' := [.int (nI 0)]) (σ' := σ2) rfl ?_
        refine am_retz rfl rfl (by decide) ?_
        show am_G _ M_X9_drawChart _ 134 [some (.ref 41), some (.ref t), some (.int (nI mk)), some (.int (nI (2 ^ pcn mk 21))), some (.int (nI k)), some (.int (nI (pt mk i))), some (.int (nI i)), some (.int (nI (fnd f z0 nx 0 c)))] [.int (nI 0), .int (nI i), .int (nI k), .ref 83] σ2
        refine am_if (ty := 141) (tn := 137) rfl (by decide) rfl rfl (fun (h_9 : nI 0 = 0) => ?_) (fun (h_9 : ¬ (nI 0 = 0)) => ?_)
        rotate_left
        · exact absurd (by decide) h_9
        refine am_run 2 (pc' := 145) (ls' := [some (.ref 41), some (.ref t), some (.int (nI mk)), some (.int (nI (2 ^ pcn mk 21))), some (.int (nI k)), some (.int (nI (pt mk i))), some (.int (nI i)), some (.int (nI (fnd f z0 nx 0 c)))]) (st' := [.ref 77, .int (nI i), .int (nI k), .ref 83]) (σ' := σ2) rfl ?_
        refine am_invv (y := 50) (b := 77) (as := []) (rest := [.int (nI i), .int (nI k), .ref 83]) rfl rfl rfl rfl rfl rfl rfl (Nat.le_of_ble_eq_true rfl) ?_
        refine c_o_present (by omega) (Or.inl rfl) b1 (by exact o0) ?_
        show am_G _ M_X9_drawChart _ 148 [some (.ref 41), some (.ref t), some (.int (nI mk)), some (.int (nI (2 ^ pcn mk 21))), some (.int (nI k)), some (.int (nI (pt mk i))), some (.int (nI i)), some (.int (nI (fnd f z0 nx 0 c)))] [.int (nI P), .int (nI i), .int (nI k), .ref 83] σ2
        refine am_run 1 (pc' := 150) (ls' := [some (.ref 41), some (.ref t), some (.int (nI mk)), some (.int (nI (2 ^ pcn mk 21))), some (.int (nI k)), some (.int (nI (pt mk i))), some (.int (nI i)), some (.int (nI (fnd f z0 nx 0 c)))]) (st' := [.int (nI (fnd f z0 nx 0 c)), .int (nI P), .int (nI i), .int (nI k), .ref 83]) (σ' := σ2) rfl ?_
        refine am_invv (y := 27) (b := 83) (as := [.int (nI k), .int (nI i), .int (nI P), .int (nI (fnd f z0 nx 0 c))]) (rest := []) rfl rfl rfl rfl rfl rfl rfl (Nat.le_of_ble_eq_true rfl) ?_
        refine am_enter' rfl rfl rfl (by omega) (ls := [some (.ref 83), some (.int (nI k)), some (.int (nI i)), some (.int (nI P)), some (.int (nI (fnd f z0 nx 0 c)))]) rfl (fun d_10 hd_10 => ?_)
        refine am_run 1 (pc' := 1) (ls' := [some (.ref 83), some (.int (nI k)), some (.int (nI i)), some (.int (nI P)), some (.int (nI (fnd f z0 nx 0 c)))]) (st' := [.int (nI k)]) (σ' := σ2) rfl ?_
        refine am_if (ty := 67) (tn := 4) rfl (by decide) rfl rfl (fun (h_11 : nI k < 0) => ?_) (fun (h_11 : ¬ (nI k < 0)) => ?_)
        · have h_11 : k < 0 := (am_nlt0 (by omega)).mp h_11
          exact absurd h_11 (Nat.not_lt_zero _)
        have h_11 : ¬ (k < 0) := fun z => h_11 ((am_nlt0 (by omega)).mpr z)
        refine am_run 2 (pc' := 7) (ls' := [some (.ref 83), some (.int (nI k)), some (.int (nI i)), some (.int (nI P)), some (.int (nI (fnd f z0 nx 0 c)))]) (st' := [.int (nI 100), .int (nI k)]) (σ' := σ2) rfl ?_
        refine am_ic (ty := 10) (tn := 67) rfl (by decide) rfl rfl (fun (h_12 : nI k < nI 100) => ?_) (fun (h_12 : ¬ (nI k < nI 100)) => ?_)
        rotate_left
        · have h_12 : ¬ (k < 100) := fun z => h_12 ((nI_ltI (by omega) (by omega)).mpr z)
          omega
        have h_12 : k < 100 := (nI_ltI (by omega) (by omega)).mp h_12
        refine am_run 1 (pc' := 11) (ls' := [some (.ref 83), some (.int (nI k)), some (.int (nI i)), some (.int (nI P)), some (.int (nI (fnd f z0 nx 0 c)))]) (st' := [.int (nI i)]) (σ' := σ2) rfl ?_
        refine am_if (ty := 67) (tn := 14) rfl (by decide) rfl rfl (fun (h_13 : nI i < 0) => ?_) (fun (h_13 : ¬ (nI i < 0)) => ?_)
        · have h_13 : i < 0 := (am_nlt0 (by omega)).mp h_13
          exact absurd h_13 (Nat.not_lt_zero _)
        have h_13 : ¬ (i < 0) := fun z => h_13 ((am_nlt0 (by omega)).mpr z)
        refine am_run 2 (pc' := 17) (ls' := [some (.ref 83), some (.int (nI k)), some (.int (nI i)), some (.int (nI P)), some (.int (nI (fnd f z0 nx 0 c)))]) (st' := [.int (nI 8), .int (nI i)]) (σ' := σ2) rfl ?_
        refine am_ic (ty := 20) (tn := 67) rfl (by decide) rfl rfl (fun (h_14 : nI i < nI 8) => ?_) (fun (h_14 : ¬ (nI i < nI 8)) => ?_)
        rotate_left
        · have h_14 : ¬ (i < 8) := fun z => h_14 ((nI_ltI (by omega) (by omega)).mpr z)
          omega
        have h_14 : i < 8 := (nI_ltI (by omega) (by omega)).mp h_14
        refine am_run 5 (pc' := 28) (ls' := [some (.ref 83), some (.int (nI k)), some (.int (nI i)), some (.int (nI P)), some (.int (nI (fnd f z0 nx 0 c)))]) (st' := [.int (nI k * nI 8), .ref 84]) (σ' := σ2) rfl ?_
        refine am_top (v' := nI (k * 8)) (am_nmul _ _) ?_
        refine am_run 2 (pc' := 30) (ls' := [some (.ref 83), some (.int (nI k)), some (.int (nI i)), some (.int (nI P)), some (.int (nI (fnd f z0 nx 0 c)))]) (st' := [.int (nI (k * 8) + nI i), .ref 84]) (σ' := σ2) rfl ?_
        refine am_top (v' := nI (k * 8 + i)) (nI_add _ _) ?_
        refine am_run 1 (pc' := 31) (ls' := [some (.ref 83), some (.int (nI k)), some (.int (nI i)), some (.int (nI P)), some (.int (nI (fnd f z0 nx 0 c)))]) (st' := [.int (nI P), .int (nI (k * 8 + i)), .ref 84]) (σ' := σ2) rfl ?_
        refine am_iastN (n := 800) rfl rfl rfl (by omega) (by decide) ?_
        refine am_run 5 (pc' := 40) (ls' := [some (.ref 83), some (.int (nI k)), some (.int (nI i)), some (.int (nI P)), some (.int (nI (fnd f z0 nx 0 c)))]) (st' := [.int (nI k * nI 8), .ref 85]) (σ' := (am_wr σ2 84 (k * 8 + i) (nI P))) rfl ?_
        refine am_top (v' := nI (k * 8)) (am_nmul _ _) ?_
        refine am_run 2 (pc' := 42) (ls' := [some (.ref 83), some (.int (nI k)), some (.int (nI i)), some (.int (nI P)), some (.int (nI (fnd f z0 nx 0 c)))]) (st' := [.int (nI (k * 8) + nI i), .ref 85]) (σ' := (am_wr σ2 84 (k * 8 + i) (nI P))) rfl ?_
        refine am_top (v' := nI (k * 8 + i)) (nI_add _ _) ?_
        refine am_run 1 (pc' := 44) (ls' := [some (.ref 83), some (.int (nI k)), some (.int (nI i)), some (.int (nI P)), some (.int (nI (fnd f z0 nx 0 c)))]) (st' := [.int (nI (fnd f z0 nx 0 c)), .int (nI (k * 8 + i)), .ref 85]) (σ' := (am_wr σ2 84 (k * 8 + i) (nI P))) rfl ?_
        refine am_iastN (n := 800) rfl rfl rfl (by omega) (by decide) ?_
        refine am_run 4 (pc' := 49) (ls' := [some (.ref 83), some (.int (nI k)), some (.int (nI i)), some (.int (nI P)), some (.int (nI (fnd f z0 nx 0 c)))]) (st' := [.int (nI k + nI 1), .ref 83]) (σ' := (am_wr (am_wr σ2 84 (k * 8 + i) (nI P)) 85 (k * 8 + i) (nI (fnd f z0 nx 0 c)))) rfl ?_
        refine am_top (v' := nI (k + 1)) (nI_add _ _) ?_
        refine am_run 3 (pc' := 54) (ls' := [some (.ref 83), some (.int (nI k)), some (.int (nI i)), some (.int (nI P)), some (.int (nI (fnd f z0 nx 0 c)))]) (st' := [.int (-1), .int (nI P)]) (σ' := (am_wr (am_wr (am_wr σ2 84 (k * 8 + i) (nI P)) 85 (k * 8 + i) (nI (fnd f z0 nx 0 c))) 83 4 (nI (k + 1)))) rfl ?_
        refine am_ic (ty := 57) (tn := 67) rfl (by decide) rfl rfl (fun (h_15 : nI P = -1) => ?_) (fun (h_15 : ¬ (nI P = -1)) => ?_)
        · exact absurd h_15 (am_nm1 (by omega))
        refine am_retv rfl rfl ?_
        show am_G _ M_X9_drawChart _ 153 [some (.ref 41), some (.ref t), some (.int (nI mk)), some (.int (nI (2 ^ pcn mk 21))), some (.int (nI k)), some (.int (nI (pt mk i))), some (.int (nI i)), some (.int (nI (fnd f z0 nx 0 c)))] [] (am_wr (am_wr (am_wr σ2 84 (k * 8 + i) (nI P)) 85 (k * 8 + i) (nI (fnd f z0 nx 0 c))) 83 4 (nI (k + 1)))
        refine am_run 2 (pc' := 156) (ls' := [some (.ref 41), some (.ref t), some (.int (nI mk)), some (.int (nI (2 ^ pcn mk 21))), some (.int (nI k)), some (.int (nI (pt mk i))), some (.int (nI i)), some (.int (nI (fnd f z0 nx 0 c)))]) (st' := [.int (nI mk), .int (nI (pt mk i))]) (σ' := (am_wr (am_wr (am_wr σ2 84 (k * 8 + i) (nI P)) 85 (k * 8 + i) (nI (fnd f z0 nx 0 c))) 83 4 (nI (k + 1)))) rfl ?_
        refine am_invs (y := 144) (as := [.int (nI (pt mk i)), .int (nI mk)]) (rest := []) rfl rfl rfl rfl rfl rfl (Nat.le_of_ble_eq_true rfl) ?_
        refine c_subsetAfter (by omega) hmk hmv (by omega) ?_
        show am_G _ M_X9_drawChart _ 159 [some (.ref 41), some (.ref t), some (.int (nI mk)), some (.int (nI (2 ^ pcn mk 21))), some (.int (nI k)), some (.int (nI (pt mk i))), some (.int (nI i)), some (.int (nI (fnd f z0 nx 0 c)))] [.int (nI (pt mk (i + 1)))] (am_wr (am_wr (am_wr σ2 84 (k * 8 + i) (nI P)) 85 (k * 8 + i) (nI (fnd f z0 nx 0 c))) 83 4 (nI (k + 1)))
        refine am_run 2 (pc' := 164) (ls' := [some (.ref 41), some (.ref t), some (.int (nI mk)), some (.int (nI (2 ^ pcn mk 21))), some (.int (nI k)), some (.int (nI (pt mk (i + 1)))), some (.int (nI i + nI 1)), some (.int (nI (fnd f z0 nx 0 c)))]) (st' := []) (σ' := (am_wr (am_wr (am_wr σ2 84 (k * 8 + i) (nI P)) 85 (k * 8 + i) (nI (fnd f z0 nx 0 c))) 83 4 (nI (k + 1)))) rfl ?_
        refine am_ls (ls' := [some (.ref 41), some (.ref t), some (.int (nI mk)), some (.int (nI (2 ^ pcn mk 21))), some (.int (nI k)), some (.int (nI (pt mk (i + 1)))), some (.int (nI (i + 1))), some (.int (nI (fnd f z0 nx 0 c)))]) (by rw [nI_add]) ?_
        refine am_run 1 (pc' := 53) (ls' := [some (.ref 41), some (.ref t), some (.int (nI mk)), some (.int (nI (2 ^ pcn mk 21))), some (.int (nI k)), some (.int (nI (pt mk (i + 1)))), some (.int (nI (i + 1))), some (.int (nI (fnd f z0 nx 0 c)))]) (st' := []) (σ' := (am_wr (am_wr (am_wr σ2 84 (k * 8 + i) (nI P)) 85 (k * 8 + i) (nI (fnd f z0 nx 0 c))) 83 4 (nI (k + 1)))) rfl ?_
        have e : (ch_in p (r + 1) mk (m + 1) i k (c, f, tl, ld, rj)) = (ch_in p (r + 1) mk m (i + 1) k (c, f, up1 tl (8 * k + i) (P + 1), up1 ld (8 * k + i) (fnd f z0 nx 0 c + 1), rj)) := by show (if (oc p (r + 1) (f k) (pt mk i)).2.2.1 = 0 then _ else _) = _; rw [hz]; rw [if_pos rfl, if_pos hfn]
        rw [e] at hA hN
        have q84 : ∀ q, (am_wr (am_wr (am_wr σ2 84 (k * 8 + i) (nI P)) 85 (k * 8 + i) (nI (fnd f z0 nx 0 c))) 83 4 (nI (k + 1))).1 84 q = if q = 8 * k + i then nI P else σ2.1 84 q := fun q => by simp [am_rd1, Nat.mul_comm 8 k]
        have q85 : ∀ q, (am_wr (am_wr (am_wr σ2 84 (k * 8 + i) (nI P)) 85 (k * 8 + i) (nI (fnd f z0 nx 0 c))) 83 4 (nI (k + 1))).1 85 q = if q = 8 * k + i then nI (fnd f z0 nx 0 c) else σ2.1 85 q := fun q => by simp [am_rd1, Nat.mul_comm 8 k]
        have hC3 := hC2.add (σ' := (am_wr (am_wr (am_wr σ2 84 (k * 8 + i) (nI P)) 85 (k * 8 + i) (nI (fnd f z0 nx 0 c))) 83 4 (nI (k + 1)))) (c' := c) (f' := f) (rj' := rj) (v := P + 1) (l := fnd f z0 nx 0 c + 1) (by omega) (by omega) (Nat.le_refl _) rfl c6 (by omega) (fun q z => by rw [q84, if_neg z]) (fun q z => by rw [q85, if_neg z]) (by rw [q84, if_pos rfl, oI_s]) (by omega) (fun z => by rw [q85, if_pos rfl]; rfl) (by omega) (by omega)
        exact c_draw_in hd hW hR hrn hro hmk hmv hV m (i + 1) _ c f _ _ _ _ (by omega) (((hK2.wr (by decide) _ _).wr (by decide) _ _).wr (by decide) _ _) (hT2.keep (fun c' a => by rw [am_wr_ne _ (by omega), am_wr_ne _ (by omega), am_wr_ne _ (by omega)])) (by omega) hVA hC3 (Or.inr rfl) hA hN
      · by_cases hc100 : c = 100
        · skip
          refine am_run 2 (pc' := 56) (ls' := [some (.ref 41), some (.ref t), some (.int (nI mk)), some (.int (nI (2 ^ pcn mk 21))), some (.int (nI k)), some (.int (nI (pt mk i))), some (.int (nI i)), v7]) (st' := [.int (nI (2 ^ pcn mk 21)), .int (nI i)]) (σ' := σ') rfl ?_
          refine am_ic (ty := 59) (tn := 167) rfl (by decide) rfl rfl (fun (h_1 : nI i < nI (2 ^ pcn mk 21)) => ?_) (fun (h_1 : ¬ (nI i < nI (2 ^ pcn mk 21))) => ?_)
          rotate_left
          · have h_1 : ¬ (i < 2 ^ pcn mk 21) := fun z => h_1 ((nI_ltI (by omega) (by omega)).mpr z)
            omega
          have h_1 : i < 2 ^ pcn mk 21 := (nI_ltI (by omega) (by omega)).mp h_1
          refine am_run 6 (pc' := 70) (ls' := [some (.ref 41), some (.ref t), some (.int (nI mk)), some (.int (nI (2 ^ pcn mk 21))), some (.int (nI k)), some (.int (nI (pt mk i))), some (.int (nI i)), v7]) (st' := [.int (nI k), .ref 79, .ref t, .ref 77]) (σ' := σ') rfl ?_
          refine am_invv (y := 75) (b := 79) (as := [.int (nI k)]) (rest := [.ref t, .ref 77]) rfl rfl rfl rfl rfl rfl rfl (Nat.le_of_ble_eq_true rfl) ?_
          refine c_firstAt (by omega) hT hkc ?_
          show am_G _ M_X9_drawChart _ 73 [some (.ref 41), some (.ref t), some (.int (nI mk)), some (.int (nI (2 ^ pcn mk 21))), some (.int (nI k)), some (.int (nI (pt mk i))), some (.int (nI i)), v7] [.int (nI (f k)), .ref t, .ref 77] σ'
          refine am_run 1 (pc' := 75) (ls' := [some (.ref 41), some (.ref t), some (.int (nI mk)), some (.int (nI (2 ^ pcn mk 21))), some (.int (nI k)), some (.int (nI (pt mk i))), some (.int (nI i)), v7]) (st' := [.int (nI (pt mk i)), .int (nI (f k)), .ref t, .ref 77]) (σ' := σ') rfl ?_
          refine am_invv (y := 56) (b := 77) (as := [.ref t, .int (nI (f k)), .int (nI (pt mk i))]) (rest := []) rfl rfl rfl rfl rfl rfl rfl (Nat.le_of_ble_eq_true rfl) ?_
          refine c_determine (by omega) hW (hK.TR hR) (show r + 1 ≤ n by omega) (hK.RT hT3 hro) (Or.inl rfl) f4 (pt_lt mk i) (fun σ2 hKc hO => ?_)
          rw [hz] at hO
          obtain ⟨o0, o1, o2, o3, o4⟩ : σ2.1 77 0 = nI (P + 256 * A) ∧ σ2.1 77 1 = nI 0 ∧ σ2.1 77 2 = nI c1 ∧ σ2.1 77 3 = nI nx ∧ σ2.1 77 4 = nI rd := hO
          have hK2 := hK.kc hKc (Or.inl rfl)
          have hT2 := hT.keep (fun c a => hKc.1 c (by omega))
          have hC2 := hC.keep (fun c a => hKc.1 c (by omega))
          have c5 := hC2.2.1
          have c6 : σ2.1 83 6 = nI rj := hC2.2.2.1
          show am_G _ M_X9_drawChart _ 78 [some (.ref 41), some (.ref t), some (.int (nI mk)), some (.int (nI (2 ^ pcn mk 21))), some (.int (nI k)), some (.int (nI (pt mk i))), some (.int (nI i)), v7] [] σ2
          refine am_run 2 (pc' := 82) (ls' := [some (.ref 41), some (.ref t), some (.int (nI mk)), some (.int (nI (2 ^ pcn mk 21))), some (.int (nI k)), some (.int (nI (pt mk i))), some (.int (nI i)), v7]) (st' := [.ref 77]) (σ' := σ2) rfl ?_
          refine am_invv (y := 52) (b := 77) (as := []) (rest := []) rfl rfl rfl rfl rfl rfl rfl (Nat.le_of_ble_eq_true rfl) ?_
          refine am_enter' rfl rfl rfl (by omega) (ls := [some (.ref 77)]) rfl (fun d_2 hd_2 => ?_)
          refine am_run 2 (pc' := 4) (ls' := [some (.ref 77)]) (st' := [.int (σ2.1 77 1)]) (σ' := σ2) rfl ?_
          refine am_top (v' := nI 0) (by exact o1) ?_
          refine am_if (ty := 11) (tn := 7) rfl (by decide) rfl rfl (fun (h_3 : nI 0 = 0) => ?_) (fun (h_3 : ¬ (nI 0 = 0)) => ?_)
          rotate_left
          · exact absurd (by decide) h_3
          refine am_run 1 (pc' := 12) (ls' := [some (.ref 77)]) (st' := [.int (nI 0)]) (σ' := σ2) rfl ?_
          refine am_retz rfl rfl (by decide) ?_
          show am_G _ M_X9_drawChart _ 85 [some (.ref 41), some (.ref t), some (.int (nI mk)), some (.int (nI (2 ^ pcn mk 21))), some (.int (nI k)), some (.int (nI (pt mk i))), some (.int (nI i)), v7] [.int (nI 0)] σ2
          refine am_if (ty := 93) (tn := 88) rfl (by decide) rfl rfl (fun (h_4 : nI 0 = 0) => ?_) (fun (h_4 : ¬ (nI 0 = 0)) => ?_)
          rotate_left
          · exact absurd (by decide) h_4
          refine am_run 4 (pc' := 101) (ls' := [some (.ref 41), some (.ref t), some (.int (nI mk)), some (.int (nI (2 ^ pcn mk 21))), some (.int (nI k)), some (.int (nI (pt mk i))), some (.int (nI i)), v7]) (st' := [.ref 77, .ref 79]) (σ' := σ2) rfl ?_
          refine am_invv (y := 54) (b := 77) (as := []) (rest := [.ref 79]) rfl rfl rfl rfl rfl rfl rfl (Nat.le_of_ble_eq_true rfl) ?_
          refine am_enter' rfl rfl rfl (by omega) (ls := [some (.ref 77)]) rfl (fun d_5 hd_5 => ?_)
          refine am_run 2 (pc' := 4) (ls' := [some (.ref 77)]) (st' := [.int (σ2.1 77 3)]) (σ' := σ2) rfl ?_
          refine am_top (v' := nI nx) o3 ?_
          refine am_reti rfl rfl ?_
          show am_G _ M_X9_drawChart _ 104 [some (.ref 41), some (.ref t), some (.int (nI mk)), some (.int (nI (2 ^ pcn mk 21))), some (.int (nI k)), some (.int (nI (pt mk i))), some (.int (nI i)), v7] [.int (nI nx), .ref 79] σ2
          refine am_run 2 (pc' := 106) (ls' := [some (.ref 41), some (.ref t), some (.int (nI mk)), some (.int (nI (2 ^ pcn mk 21))), some (.int (nI k)), some (.int (nI (pt mk i))), some (.int (nI i)), v7]) (st' := [.int (nI 0), .int (nI 0), .int (nI nx), .ref 79]) (σ' := σ2) rfl ?_
          refine am_invv (y := 78) (b := 79) (as := [.int (nI nx), .int (nI 0), .int (nI 0)]) (rest := []) rfl rfl rfl rfl rfl rfl rfl (Nat.le_of_ble_eq_true rfl) ?_
          refine c_reach (by omega) hT2 (by omega) (by decide) (fun z => absurd z hfn) (fun _ z => absurd z (by omega)) (fun _ _ => ?_)
          show am_G _ M_X9_drawChart _ 109 [some (.ref 41), some (.ref t), some (.int (nI mk)), some (.int (nI (2 ^ pcn mk 21))), some (.int (nI k)), some (.int (nI (pt mk i))), some (.int (nI i)), v7] [.int (-1)] σ2
          refine am_run 3 (pc' := 114) (ls' := [some (.ref 41), some (.ref t), some (.int (nI mk)), some (.int (nI (2 ^ pcn mk 21))), some (.int (nI k)), some (.int (nI (pt mk i))), some (.int (nI i)), some (.int (-1))]) (st' := [.int (-1), .int (-1)]) (σ' := σ2) rfl ?_
          refine am_ic (ty := 117) (tn := 119) rfl (by decide) rfl rfl (fun (h_6 : -1 = -1) => ?_) (fun (h_6 : ¬ (-1 = -1)) => ?_)
          rotate_left
          · exact absurd (by decide) h_6
          refine am_run 1 (pc' := 118) (ls' := [some (.ref 41), some (.ref t), some (.int (nI mk)), some (.int (nI (2 ^ pcn mk 21))), some (.int (nI k)), some (.int (nI (pt mk i))), some (.int (nI i)), some (.int (-1))]) (st' := [.int (nI 0)]) (σ' := σ2) rfl ?_
          refine am_retz rfl rfl (by decide) ?_
          have e : (ch_in p (r + 1) mk (m + 1) i k (c, f, tl, ld, rj)) = none := by show (if (oc p (r + 1) (f k) (pt mk i)).2.2.1 = 0 then _ else _) = _; rw [hz]; rw [if_pos rfl, if_neg hfn, if_pos hc100]
          rw [e] at hA
          exact hA σ2 hK2 rfl
        · skip
          refine am_run 2 (pc' := 56) (ls' := [some (.ref 41), some (.ref t), some (.int (nI mk)), some (.int (nI (2 ^ pcn mk 21))), some (.int (nI k)), some (.int (nI (pt mk i))), some (.int (nI i)), v7]) (st' := [.int (nI (2 ^ pcn mk 21)), .int (nI i)]) (σ' := σ') rfl ?_
          refine am_ic (ty := 59) (tn := 167) rfl (by decide) rfl rfl (fun (h_1 : nI i < nI (2 ^ pcn mk 21)) => ?_) (fun (h_1 : ¬ (nI i < nI (2 ^ pcn mk 21))) => ?_)
          rotate_left
          · have h_1 : ¬ (i < 2 ^ pcn mk 21) := fun z => h_1 ((nI_ltI (by omega) (by omega)).mpr z)
            omega
          have h_1 : i < 2 ^ pcn mk 21 := (nI_ltI (by omega) (by omega)).mp h_1
          refine am_run 6 (pc' := 70) (ls' := [some (.ref 41), some (.ref t), some (.int (nI mk)), some (.int (nI (2 ^ pcn mk 21))), some (.int (nI k)), some (.int (nI (pt mk i))), some (.int (nI i)), v7]) (st' := [.int (nI k), .ref 79, .ref t, .ref 77]) (σ' := σ') rfl ?_
          refine am_invv (y := 75) (b := 79) (as := [.int (nI k)]) (rest := [.ref t, .ref 77]) rfl rfl rfl rfl rfl rfl rfl (Nat.le_of_ble_eq_true rfl) ?_
          refine c_firstAt (by omega) hT hkc ?_
          show am_G _ M_X9_drawChart _ 73 [some (.ref 41), some (.ref t), some (.int (nI mk)), some (.int (nI (2 ^ pcn mk 21))), some (.int (nI k)), some (.int (nI (pt mk i))), some (.int (nI i)), v7] [.int (nI (f k)), .ref t, .ref 77] σ'
          refine am_run 1 (pc' := 75) (ls' := [some (.ref 41), some (.ref t), some (.int (nI mk)), some (.int (nI (2 ^ pcn mk 21))), some (.int (nI k)), some (.int (nI (pt mk i))), some (.int (nI i)), v7]) (st' := [.int (nI (pt mk i)), .int (nI (f k)), .ref t, .ref 77]) (σ' := σ') rfl ?_
          refine am_invv (y := 56) (b := 77) (as := [.ref t, .int (nI (f k)), .int (nI (pt mk i))]) (rest := []) rfl rfl rfl rfl rfl rfl rfl (Nat.le_of_ble_eq_true rfl) ?_
          refine c_determine (by omega) hW (hK.TR hR) (show r + 1 ≤ n by omega) (hK.RT hT3 hro) (Or.inl rfl) f4 (pt_lt mk i) (fun σ2 hKc hO => ?_)
          rw [hz] at hO
          obtain ⟨o0, o1, o2, o3, o4⟩ : σ2.1 77 0 = nI (P + 256 * A) ∧ σ2.1 77 1 = nI 0 ∧ σ2.1 77 2 = nI c1 ∧ σ2.1 77 3 = nI nx ∧ σ2.1 77 4 = nI rd := hO
          have hK2 := hK.kc hKc (Or.inl rfl)
          have hT2 := hT.keep (fun c a => hKc.1 c (by omega))
          have hC2 := hC.keep (fun c a => hKc.1 c (by omega))
          have c5 := hC2.2.1
          have c6 : σ2.1 83 6 = nI rj := hC2.2.2.1
          show am_G _ M_X9_drawChart _ 78 [some (.ref 41), some (.ref t), some (.int (nI mk)), some (.int (nI (2 ^ pcn mk 21))), some (.int (nI k)), some (.int (nI (pt mk i))), some (.int (nI i)), v7] [] σ2
          refine am_run 2 (pc' := 82) (ls' := [some (.ref 41), some (.ref t), some (.int (nI mk)), some (.int (nI (2 ^ pcn mk 21))), some (.int (nI k)), some (.int (nI (pt mk i))), some (.int (nI i)), v7]) (st' := [.ref 77]) (σ' := σ2) rfl ?_
          refine am_invv (y := 52) (b := 77) (as := []) (rest := []) rfl rfl rfl rfl rfl rfl rfl (Nat.le_of_ble_eq_true rfl) ?_
          refine am_enter' rfl rfl rfl (by omega) (ls := [some (.ref 77)]) rfl (fun d_2 hd_2 => ?_)
          refine am_run 2 (pc' := 4) (ls' := [some (.ref 77)]) (st' := [.int (σ2.1 77 1)]) (σ' := σ2) rfl ?_
          refine am_top (v' := nI 0) (by exact o1) ?_
          refine am_if (ty := 11) (tn := 7) rfl (by decide) rfl rfl (fun (h_3 : nI 0 = 0) => ?_) (fun (h_3 : ¬ (nI 0 = 0)) => ?_)
          rotate_left
          · exact absurd (by decide) h_3
          refine am_run 1 (pc' := 12) (ls' := [some (.ref 77)]) (st' := [.int (nI 0)]) (σ' := σ2) rfl ?_
          refine am_retz rfl rfl (by decide) ?_
          show am_G _ M_X9_drawChart _ 85 [some (.ref 41), some (.ref t), some (.int (nI mk)), some (.int (nI (2 ^ pcn mk 21))), some (.int (nI k)), some (.int (nI (pt mk i))), some (.int (nI i)), v7] [.int (nI 0)] σ2
          refine am_if (ty := 93) (tn := 88) rfl (by decide) rfl rfl (fun (h_4 : nI 0 = 0) => ?_) (fun (h_4 : ¬ (nI 0 = 0)) => ?_)
          rotate_left
          · exact absurd (by decide) h_4
          refine am_run 4 (pc' := 101) (ls' := [some (.ref 41), some (.ref t), some (.int (nI mk)), some (.int (nI (2 ^ pcn mk 21))), some (.int (nI k)), some (.int (nI (pt mk i))), some (.int (nI i)), v7]) (st' := [.ref 77, .ref 79]) (σ' := σ2) rfl ?_
          refine am_invv (y := 54) (b := 77) (as := []) (rest := [.ref 79]) rfl rfl rfl rfl rfl rfl rfl (Nat.le_of_ble_eq_true rfl) ?_
          refine am_enter' rfl rfl rfl (by omega) (ls := [some (.ref 77)]) rfl (fun d_5 hd_5 => ?_)
          refine am_run 2 (pc' := 4) (ls' := [some (.ref 77)]) (st' := [.int (σ2.1 77 3)]) (σ' := σ2) rfl ?_
          refine am_top (v' := nI nx) o3 ?_
          refine am_reti rfl rfl ?_
          show am_G _ M_X9_drawChart _ 104 [some (.ref 41), some (.ref t), some (.int (nI mk)), some (.int (nI (2 ^ pcn mk 21))), some (.int (nI k)), some (.int (nI (pt mk i))), some (.int (nI i)), v7] [.int (nI nx), .ref 79] σ2
          refine am_run 2 (pc' := 106) (ls' := [some (.ref 41), some (.ref t), some (.int (nI mk)), some (.int (nI (2 ^ pcn mk 21))), some (.int (nI k)), some (.int (nI (pt mk i))), some (.int (nI i)), v7]) (st' := [.int (nI 0), .int (nI 0), .int (nI nx), .ref 79]) (σ' := σ2) rfl ?_
          refine am_invv (y := 78) (b := 79) (as := [.int (nI nx), .int (nI 0), .int (nI 0)]) (rest := []) rfl rfl rfl rfl rfl rfl rfl (Nat.le_of_ble_eq_true rfl) ?_
          refine c_reach (by omega) hT2 (by omega) (by decide) (fun z => absurd z hfn) (fun _ _ => ?_) (fun _ z => absurd z hc100)
          show am_G _ M_X9_drawChart _ 109 [some (.ref 41), some (.ref t), some (.int (nI mk)), some (.int (nI (2 ^ pcn mk 21))), some (.int (nI k)), some (.int (nI (pt mk i))), some (.int (nI i)), v7] [.int (nI c)] (am_wr (am_wr (am_wr (am_wr σ2 80 c (nI nx)) 81 c (nI 0)) 82 c (nI 0)) 79 3 (nI (c + 1)))
          refine am_run 3 (pc' := 114) (ls' := [some (.ref 41), some (.ref t), some (.int (nI mk)), some (.int (nI (2 ^ pcn mk 21))), some (.int (nI k)), some (.int (nI (pt mk i))), some (.int (nI i)), some (.int (nI c))]) (st' := [.int (-1), .int (nI c)]) (σ' := (am_wr (am_wr (am_wr (am_wr σ2 80 c (nI nx)) 81 c (nI 0)) 82 c (nI 0)) 79 3 (nI (c + 1)))) rfl ?_
          refine am_ic (ty := 117) (tn := 119) rfl (by decide) rfl rfl (fun (h_6 : nI c = -1) => ?_) (fun (h_6 : ¬ (nI c = -1)) => ?_)
          · exact absurd h_6 (am_nm1 (by omega))
          refine am_run 6 (pc' := 131) (ls' := [some (.ref 41), some (.ref t), some (.int (nI mk)), some (.int (nI (2 ^ pcn mk 21))), some (.int (nI k)), some (.int (nI (pt mk i))), some (.int (nI i)), some (.int (nI c))]) (st' := [.ref 77, .int (nI i), .int (nI k), .ref 83]) (σ' := (am_wr (am_wr (am_wr (am_wr σ2 80 c (nI nx)) 81 c (nI 0)) 82 c (nI 0)) 79 3 (nI (c + 1)))) rfl ?_
          refine am_invv (y := 52) (b := 77) (as := []) (rest := [.int (nI i), .int (nI k), .ref 83]) rfl rfl rfl rfl rfl rfl rfl (Nat.le_of_ble_eq_true rfl) ?_
          refine am_enter' rfl rfl rfl (by omega) (ls := [some (.ref 77)]) rfl (fun d_7 hd_7 => ?_)
          refine am_run 2 (pc' := 4) (ls' := [some (.ref 77)]) (st' := [.int (σ2.1 77 1)]) (σ' := (am_wr (am_wr (am_wr (am_wr σ2 80 c (nI nx)) 81 c (nI 0)) 82 c (nI 0)) 79 3 (nI (c + 1)))) rfl ?_
          refine am_top (v' := nI 0) (by exact o1) ?_
          refine am_if (ty := 11) (tn := 7) rfl (by decide) rfl rfl (fun (h_8 : nI 0 = 0) => ?_) (fun (h_8 : ¬ (nI 0 = 0)) => ?_)
          rotate_left
          · exact absurd (by decide) h_8
          refine am_run 1 (pc' := 12) (ls' := [some (.ref 77)]) (st' := [.int (nI 0)]) (σ' := (am_wr (am_wr (am_wr (am_wr σ2 80 c (nI nx)) 81 c (nI 0)) 82 c (nI 0)) 79 3 (nI (c + 1)))) rfl ?_
          refine am_retz rfl rfl (by decide) ?_
          show am_G _ M_X9_drawChart _ 134 [some (.ref 41), some (.ref t), some (.int (nI mk)), some (.int (nI (2 ^ pcn mk 21))), some (.int (nI k)), some (.int (nI (pt mk i))), some (.int (nI i)), some (.int (nI c))] [.int (nI 0), .int (nI i), .int (nI k), .ref 83] (am_wr (am_wr (am_wr (am_wr σ2 80 c (nI nx)) 81 c (nI 0)) 82 c (nI 0)) 79 3 (nI (c + 1)))
          refine am_if (ty := 141) (tn := 137) rfl (by decide) rfl rfl (fun (h_9 : nI 0 = 0) => ?_) (fun (h_9 : ¬ (nI 0 = 0)) => ?_)
          rotate_left
          · exact absurd (by decide) h_9
          refine am_run 2 (pc' := 145) (ls' := [some (.ref 41), some (.ref t), some (.int (nI mk)), some (.int (nI (2 ^ pcn mk 21))), some (.int (nI k)), some (.int (nI (pt mk i))), some (.int (nI i)), some (.int (nI c))]) (st' := [.ref 77, .int (nI i), .int (nI k), .ref 83]) (σ' := (am_wr (am_wr (am_wr (am_wr σ2 80 c (nI nx)) 81 c (nI 0)) 82 c (nI 0)) 79 3 (nI (c + 1)))) rfl ?_
          refine am_invv (y := 50) (b := 77) (as := []) (rest := [.int (nI i), .int (nI k), .ref 83]) rfl rfl rfl rfl rfl rfl rfl (Nat.le_of_ble_eq_true rfl) ?_
          refine c_o_present (by omega) (Or.inl rfl) b1 (by exact o0) ?_
          show am_G _ M_X9_drawChart _ 148 [some (.ref 41), some (.ref t), some (.int (nI mk)), some (.int (nI (2 ^ pcn mk 21))), some (.int (nI k)), some (.int (nI (pt mk i))), some (.int (nI i)), some (.int (nI c))] [.int (nI P), .int (nI i), .int (nI k), .ref 83] (am_wr (am_wr (am_wr (am_wr σ2 80 c (nI nx)) 81 c (nI 0)) 82 c (nI 0)) 79 3 (nI (c + 1)))
          refine am_run 1 (pc' := 150) (ls' := [some (.ref 41), some (.ref t), some (.int (nI mk)), some (.int (nI (2 ^ pcn mk 21))), some (.int (nI k)), some (.int (nI (pt mk i))), some (.int (nI i)), some (.int (nI c))]) (st' := [.int (nI c), .int (nI P), .int (nI i), .int (nI k), .ref 83]) (σ' := (am_wr (am_wr (am_wr (am_wr σ2 80 c (nI nx)) 81 c (nI 0)) 82 c (nI 0)) 79 3 (nI (c + 1)))) rfl ?_
          refine am_invv (y := 27) (b := 83) (as := [.int (nI k), .int (nI i), .int (nI P), .int (nI c)]) (rest := []) rfl rfl rfl rfl rfl rfl rfl (Nat.le_of_ble_eq_true rfl) ?_
          refine am_enter' rfl rfl rfl (by omega) (ls := [some (.ref 83), some (.int (nI k)), some (.int (nI i)), some (.int (nI P)), some (.int (nI c))]) rfl (fun d_10 hd_10 => ?_)
          refine am_run 1 (pc' := 1) (ls' := [some (.ref 83), some (.int (nI k)), some (.int (nI i)), some (.int (nI P)), some (.int (nI c))]) (st' := [.int (nI k)]) (σ' := (am_wr (am_wr (am_wr (am_wr σ2 80 c (nI nx)) 81 c (nI 0)) 82 c (nI 0)) 79 3 (nI (c + 1)))) rfl ?_
          refine am_if (ty := 67) (tn := 4) rfl (by decide) rfl rfl (fun (h_11 : nI k < 0) => ?_) (fun (h_11 : ¬ (nI k < 0)) => ?_)
          · have h_11 : k < 0 := (am_nlt0 (by omega)).mp h_11
            exact absurd h_11 (Nat.not_lt_zero _)
          have h_11 : ¬ (k < 0) := fun z => h_11 ((am_nlt0 (by omega)).mpr z)
          refine am_run 2 (pc' := 7) (ls' := [some (.ref 83), some (.int (nI k)), some (.int (nI i)), some (.int (nI P)), some (.int (nI c))]) (st' := [.int (nI 100), .int (nI k)]) (σ' := (am_wr (am_wr (am_wr (am_wr σ2 80 c (nI nx)) 81 c (nI 0)) 82 c (nI 0)) 79 3 (nI (c + 1)))) rfl ?_
          refine am_ic (ty := 10) (tn := 67) rfl (by decide) rfl rfl (fun (h_12 : nI k < nI 100) => ?_) (fun (h_12 : ¬ (nI k < nI 100)) => ?_)
          rotate_left
          · have h_12 : ¬ (k < 100) := fun z => h_12 ((nI_ltI (by omega) (by omega)).mpr z)
            omega
          have h_12 : k < 100 := (nI_ltI (by omega) (by omega)).mp h_12
          refine am_run 1 (pc' := 11) (ls' := [some (.ref 83), some (.int (nI k)), some (.int (nI i)), some (.int (nI P)), some (.int (nI c))]) (st' := [.int (nI i)]) (σ' := (am_wr (am_wr (am_wr (am_wr σ2 80 c (nI nx)) 81 c (nI 0)) 82 c (nI 0)) 79 3 (nI (c + 1)))) rfl ?_
          refine am_if (ty := 67) (tn := 14) rfl (by decide) rfl rfl (fun (h_13 : nI i < 0) => ?_) (fun (h_13 : ¬ (nI i < 0)) => ?_)
          · have h_13 : i < 0 := (am_nlt0 (by omega)).mp h_13
            exact absurd h_13 (Nat.not_lt_zero _)
          have h_13 : ¬ (i < 0) := fun z => h_13 ((am_nlt0 (by omega)).mpr z)
          refine am_run 2 (pc' := 17) (ls' := [some (.ref 83), some (.int (nI k)), some (.int (nI i)), some (.int (nI P)), some (.int (nI c))]) (st' := [.int (nI 8), .int (nI i)]) (σ' := (am_wr (am_wr (am_wr (am_wr σ2 80 c (nI nx)) 81 c (nI 0)) 82 c (nI 0)) 79 3 (nI (c + 1)))) rfl ?_
          refine am_ic (ty := 20) (tn := 67) rfl (by decide) rfl rfl (fun (h_14 : nI i < nI 8) => ?_) (fun (h_14 : ¬ (nI i < nI 8)) => ?_)
          rotate_left
          · have h_14 : ¬ (i < 8) := fun z => h_14 ((nI_ltI (by omega) (by omega)).mpr z)
            omega
          have h_14 : i < 8 := (nI_ltI (by omega) (by omega)).mp h_14
          refine am_run 5 (pc' := 28) (ls' := [some (.ref 83), some (.int (nI k)), some (.int (nI i)), some (.int (nI P)), some (.int (nI c))]) (st' := [.int (nI k * nI 8), .ref 84]) (σ' := (am_wr (am_wr (am_wr (am_wr σ2 80 c (nI nx)) 81 c (nI 0)) 82 c (nI 0)) 79 3 (nI (c + 1)))) rfl ?_
          refine am_top (v' := nI (k * 8)) (am_nmul _ _) ?_
          refine am_run 2 (pc' := 30) (ls' := [some (.ref 83), some (.int (nI k)), some (.int (nI i)), some (.int (nI P)), some (.int (nI c))]) (st' := [.int (nI (k * 8) + nI i), .ref 84]) (σ' := (am_wr (am_wr (am_wr (am_wr σ2 80 c (nI nx)) 81 c (nI 0)) 82 c (nI 0)) 79 3 (nI (c + 1)))) rfl ?_
          refine am_top (v' := nI (k * 8 + i)) (nI_add _ _) ?_
          refine am_run 1 (pc' := 31) (ls' := [some (.ref 83), some (.int (nI k)), some (.int (nI i)), some (.int (nI P)), some (.int (nI c))]) (st' := [.int (nI P), .int (nI (k * 8 + i)), .ref 84]) (σ' := (am_wr (am_wr (am_wr (am_wr σ2 80 c (nI nx)) 81 c (nI 0)) 82 c (nI 0)) 79 3 (nI (c + 1)))) rfl ?_
          refine am_iastN (n := 800) rfl rfl rfl (by omega) (by decide) ?_
          refine am_run 5 (pc' := 40) (ls' := [some (.ref 83), some (.int (nI k)), some (.int (nI i)), some (.int (nI P)), some (.int (nI c))]) (st' := [.int (nI k * nI 8), .ref 85]) (σ' := (am_wr (am_wr (am_wr (am_wr (am_wr σ2 80 c (nI nx)) 81 c (nI 0)) 82 c (nI 0)) 79 3 (nI (c + 1))) 84 (k * 8 + i) (nI P))) rfl ?_
          refine am_top (v' := nI (k * 8)) (am_nmul _ _) ?_
          refine am_run 2 (pc' := 42) (ls' := [some (.ref 83), some (.int (nI k)), some (.int (nI i)), some (.int (nI P)), some (.int (nI c))]) (st' := [.int (nI (k * 8) + nI i), .ref 85]) (σ' := (am_wr (am_wr (am_wr (am_wr (am_wr σ2 80 c (nI nx)) 81 c (nI 0)) 82 c (nI 0)) 79 3 (nI (c + 1))) 84 (k * 8 + i) (nI P))) rfl ?_
          refine am_top (v' := nI (k * 8 + i)) (nI_add _ _) ?_
          refine am_run 1 (pc' := 44) (ls' := [some (.ref 83), some (.int (nI k)), some (.int (nI i)), some (.int (nI P)), some (.int (nI c))]) (st' := [.int (nI c), .int (nI (k * 8 + i)), .ref 85]) (σ' := (am_wr (am_wr (am_wr (am_wr (am_wr σ2 80 c (nI nx)) 81 c (nI 0)) 82 c (nI 0)) 79 3 (nI (c + 1))) 84 (k * 8 + i) (nI P))) rfl ?_
          refine am_iastN (n := 800) rfl rfl rfl (by omega) (by decide) ?_
          refine am_run 4 (pc' := 49) (ls' := [some (.ref 83), some (.int (nI k)), some (.int (nI i)), some (.int (nI P)), some (.int (nI c))]) (st' := [.int (nI k + nI 1), .ref 83]) (σ' := (am_wr (am_wr (am_wr (am_wr (am_wr (am_wr σ2 80 c (nI nx)) 81 c (nI 0)) 82 c (nI 0)) 79 3 (nI (c + 1))) 84 (k * 8 + i) (nI P)) 85 (k * 8 + i) (nI c))) rfl ?_
          refine am_top (v' := nI (k + 1)) (nI_add _ _) ?_
          refine am_run 3 (pc' := 54) (ls' := [some (.ref 83), some (.int (nI k)), some (.int (nI i)), some (.int (nI P)), some (.int (nI c))]) (st' := [.int (-1), .int (nI P)]) (σ' := (am_wr (am_wr (am_wr (am_wr (am_wr (am_wr (am_wr σ2 80 c (nI nx)) 81 c (nI 0)) 82 c (nI 0)) 79 3 (nI (c + 1))) 84 (k * 8 + i) (nI P)) 85 (k * 8 + i) (nI c)) 83 4 (nI (k + 1)))) rfl ?_
          refine am_ic (ty := 57) (tn := 67) rfl (by decide) rfl rfl (fun (h_15 : nI P = -1) => ?_) (fun (h_15 : ¬ (nI P = -1)) => ?_)
          · exact absurd h_15 (am_nm1 (by omega))
          refine am_retv rfl rfl ?_
          show am_G _ M_X9_drawChart _ 153 [some (.ref 41), some (.ref t), some (.int (nI mk)), some (.int (nI (2 ^ pcn mk 21))), some (.int (nI k)), some (.int (nI (pt mk i))), some (.int (nI i)), some (.int (nI c))] [] (am_wr (am_wr (am_wr (am_wr (am_wr (am_wr (am_wr σ2 80 c (nI nx)) 81 c (nI 0)) 82 c (nI 0)) 79 3 (nI (c + 1))) 84 (k * 8 + i) (nI P)) 85 (k * 8 + i) (nI c)) 83 4 (nI (k + 1)))
          refine am_run 2 (pc' := 156) (ls' := [some (.ref 41), some (.ref t), some (.int (nI mk)), some (.int (nI (2 ^ pcn mk 21))), some (.int (nI k)), some (.int (nI (pt mk i))), some (.int (nI i)), some (.int (nI c))]) (st' := [.int (nI mk), .int (nI (pt mk i))]) (σ' := (am_wr (am_wr (am_wr (am_wr (am_wr (am_wr (am_wr σ2 80 c (nI nx)) 81 c (nI 0)) 82 c (nI 0)) 79 3 (nI (c + 1))) 84 (k * 8 + i) (nI P)) 85 (k * 8 + i) (nI c)) 83 4 (nI (k + 1)))) rfl ?_
          refine am_invs (y := 144) (as := [.int (nI (pt mk i)), .int (nI mk)]) (rest := []) rfl rfl rfl rfl rfl rfl (Nat.le_of_ble_eq_true rfl) ?_
          refine c_subsetAfter (by omega) hmk hmv (by omega) ?_
          show am_G _ M_X9_drawChart _ 159 [some (.ref 41), some (.ref t), some (.int (nI mk)), some (.int (nI (2 ^ pcn mk 21))), some (.int (nI k)), some (.int (nI (pt mk i))), some (.int (nI i)), some (.int (nI c))] [.int (nI (pt mk (i + 1)))] (am_wr (am_wr (am_wr (am_wr (am_wr (am_wr (am_wr σ2 80 c (nI nx)) 81 c (nI 0)) 82 c (nI 0)) 79 3 (nI (c + 1))) 84 (k * 8 + i) (nI P)) 85 (k * 8 + i) (nI c)) 83 4 (nI (k + 1)))
          refine am_run 2 (pc' := 164) (ls' := [some (.ref 41), some (.ref t), some (.int (nI mk)), some (.int (nI (2 ^ pcn mk 21))), some (.int (nI k)), some (.int (nI (pt mk (i + 1)))), some (.int (nI i + nI 1)), some (.int (nI c))]) (st' := []) (σ' := (am_wr (am_wr (am_wr (am_wr (am_wr (am_wr (am_wr σ2 80 c (nI nx)) 81 c (nI 0)) 82 c (nI 0)) 79 3 (nI (c + 1))) 84 (k * 8 + i) (nI P)) 85 (k * 8 + i) (nI c)) 83 4 (nI (k + 1)))) rfl ?_
          refine am_ls (ls' := [some (.ref 41), some (.ref t), some (.int (nI mk)), some (.int (nI (2 ^ pcn mk 21))), some (.int (nI k)), some (.int (nI (pt mk (i + 1)))), some (.int (nI (i + 1))), some (.int (nI c))]) (by rw [nI_add]) ?_
          refine am_run 1 (pc' := 53) (ls' := [some (.ref 41), some (.ref t), some (.int (nI mk)), some (.int (nI (2 ^ pcn mk 21))), some (.int (nI k)), some (.int (nI (pt mk (i + 1)))), some (.int (nI (i + 1))), some (.int (nI c))]) (st' := []) (σ' := (am_wr (am_wr (am_wr (am_wr (am_wr (am_wr (am_wr σ2 80 c (nI nx)) 81 c (nI 0)) 82 c (nI 0)) 79 3 (nI (c + 1))) 84 (k * 8 + i) (nI P)) 85 (k * 8 + i) (nI c)) 83 4 (nI (k + 1)))) rfl ?_
          have e : (ch_in p (r + 1) mk (m + 1) i k (c, f, tl, ld, rj)) = (ch_in p (r + 1) mk m (i + 1) k (c + 1, up1 f c nx, up1 tl (8 * k + i) (P + 1), up1 ld (8 * k + i) (c + 1), rj)) := by show (if (oc p (r + 1) (f k) (pt mk i)).2.2.1 = 0 then _ else _) = _; rw [hz]; rw [if_pos rfl, if_neg hfn, if_neg hc100]
          rw [e] at hA hN
          have hT8 := hT2.addz (a := nx) (st := 0) (by omega) (by omega) (Nat.zero_le _)
          rw [up1_z] at hT8
          have hT9 := hT8.keep (σ' := (am_wr (am_wr (am_wr (am_wr (am_wr (am_wr (am_wr σ2 80 c (nI nx)) 81 c (nI 0)) 82 c (nI 0)) 79 3 (nI (c + 1))) 84 (k * 8 + i) (nI P)) 85 (k * 8 + i) (nI c)) 83 4 (nI (k + 1)))) (fun c' a => by rw [am_wr_ne _ (by omega), am_wr_ne _ (by omega), am_wr_ne _ (by omega)])
          have q84 : ∀ q, (am_wr (am_wr (am_wr (am_wr (am_wr (am_wr (am_wr σ2 80 c (nI nx)) 81 c (nI 0)) 82 c (nI 0)) 79 3 (nI (c + 1))) 84 (k * 8 + i) (nI P)) 85 (k * 8 + i) (nI c)) 83 4 (nI (k + 1))).1 84 q = if q = 8 * k + i then nI P else σ2.1 84 q := fun q => by simp [am_rd1, Nat.mul_comm 8 k]
          have q85 : ∀ q, (am_wr (am_wr (am_wr (am_wr (am_wr (am_wr (am_wr σ2 80 c (nI nx)) 81 c (nI 0)) 82 c (nI 0)) 79 3 (nI (c + 1))) 84 (k * 8 + i) (nI P)) 85 (k * 8 + i) (nI c)) 83 4 (nI (k + 1))).1 85 q = if q = 8 * k + i then nI c else σ2.1 85 q := fun q => by simp [am_rd1, Nat.mul_comm 8 k]
          have hC3 := hC2.add (σ' := (am_wr (am_wr (am_wr (am_wr (am_wr (am_wr (am_wr σ2 80 c (nI nx)) 81 c (nI 0)) 82 c (nI 0)) 79 3 (nI (c + 1))) 84 (k * 8 + i) (nI P)) 85 (k * 8 + i) (nI c)) 83 4 (nI (k + 1)))) (c' := c + 1) (f' := up1 f c nx) (rj' := rj) (v := P + 1) (l := c + 1) (by omega) (by omega) (Nat.le_succ _) rfl c6 (by omega) (fun q z => by rw [q84, if_neg z]) (fun q z => by rw [q85, if_neg z]) (by rw [q84, if_pos rfl, oI_s]) (by omega) (fun z => by rw [q85, if_pos rfl]; rfl) (by omega) (by omega)
          exact c_draw_in hd hW hR hrn hro hmk hmv hV m (i + 1) _ (c + 1) (up1 f c nx) _ _ _ _ (by omega) (((((((hK2.wr (by decide) _ _).wr (by decide) _ _).wr (by decide) _ _).wr (by decide) _ _).wr (by decide) _ _).wr (by decide) _ _).wr (by decide) _ _) hT9 (by omega) (hVA.add hnv) hC3 (Or.inr rfl) hA hN
    · skip
      refine am_run 2 (pc' := 56) (ls' := [some (.ref 41), some (.ref t), some (.int (nI mk)), some (.int (nI (2 ^ pcn mk 21))), some (.int (nI k)), some (.int (nI (pt mk i))), some (.int (nI i)), v7]) (st' := [.int (nI (2 ^ pcn mk 21)), .int (nI i)]) (σ' := σ') rfl ?_
      refine am_ic (ty := 59) (tn := 167) rfl (by decide) rfl rfl (fun (h_1 : nI i < nI (2 ^ pcn mk 21)) => ?_) (fun (h_1 : ¬ (nI i < nI (2 ^ pcn mk 21))) => ?_)
      rotate_left
      · have h_1 : ¬ (i < 2 ^ pcn mk 21) := fun z => h_1 ((nI_ltI (by omega) (by omega)).mpr z)
        omega
      have h_1 : i < 2 ^ pcn mk 21 := (nI_ltI (by omega) (by omega)).mp h_1
      refine am_run 6 (pc' := 70) (ls' := [some (.ref 41), some (.ref t), some (.int (nI mk)), some (.int (nI (2 ^ pcn mk 21))), some (.int (nI k)), some (.int (nI (pt mk i))), some (.int (nI i)), v7]) (st' := [.int (nI k), .ref 79, .ref t, .ref 77]) (σ' := σ') rfl ?_
      refine am_invv (y := 75) (b := 79) (as := [.int (nI k)]) (rest := [.ref t, .ref 77]) rfl rfl rfl rfl rfl rfl rfl (Nat.le_of_ble_eq_true rfl) ?_
      refine c_firstAt (by omega) hT hkc ?_
      show am_G _ M_X9_drawChart _ 73 [some (.ref 41), some (.ref t), some (.int (nI mk)), some (.int (nI (2 ^ pcn mk 21))), some (.int (nI k)), some (.int (nI (pt mk i))), some (.int (nI i)), v7] [.int (nI (f k)), .ref t, .ref 77] σ'
      refine am_run 1 (pc' := 75) (ls' := [some (.ref 41), some (.ref t), some (.int (nI mk)), some (.int (nI (2 ^ pcn mk 21))), some (.int (nI k)), some (.int (nI (pt mk i))), some (.int (nI i)), v7]) (st' := [.int (nI (pt mk i)), .int (nI (f k)), .ref t, .ref 77]) (σ' := σ') rfl ?_
      refine am_invv (y := 56) (b := 77) (as := [.ref t, .int (nI (f k)), .int (nI (pt mk i))]) (rest := []) rfl rfl rfl rfl rfl rfl rfl (Nat.le_of_ble_eq_true rfl) ?_
      refine c_determine (by omega) hW (hK.TR hR) (show r + 1 ≤ n by omega) (hK.RT hT3 hro) (Or.inl rfl) f4 (pt_lt mk i) (fun σ2 hKc hO => ?_)
      rw [hz] at hO
      obtain ⟨o0, o1, o2, o3, o4⟩ : σ2.1 77 0 = nI (P + 256 * A) ∧ σ2.1 77 1 = nI w ∧ σ2.1 77 2 = nI c1 ∧ σ2.1 77 3 = nI nx ∧ σ2.1 77 4 = nI rd := hO
      have hK2 := hK.kc hKc (Or.inl rfl)
      have hT2 := hT.keep (fun c a => hKc.1 c (by omega))
      have hC2 := hC.keep (fun c a => hKc.1 c (by omega))
      have c5 := hC2.2.1
      have c6 : σ2.1 83 6 = nI rj := hC2.2.2.1
      show am_G _ M_X9_drawChart _ 78 [some (.ref 41), some (.ref t), some (.int (nI mk)), some (.int (nI (2 ^ pcn mk 21))), some (.int (nI k)), some (.int (nI (pt mk i))), some (.int (nI i)), v7] [] σ2
      refine am_run 2 (pc' := 82) (ls' := [some (.ref 41), some (.ref t), some (.int (nI mk)), some (.int (nI (2 ^ pcn mk 21))), some (.int (nI k)), some (.int (nI (pt mk i))), some (.int (nI i)), v7]) (st' := [.ref 77]) (σ' := σ2) rfl ?_
      refine am_invv (y := 52) (b := 77) (as := []) (rest := []) rfl rfl rfl rfl rfl rfl rfl (Nat.le_of_ble_eq_true rfl) ?_
      refine am_enter' rfl rfl rfl (by omega) (ls := [some (.ref 77)]) rfl (fun d_2 hd_2 => ?_)
      refine am_run 2 (pc' := 4) (ls' := [some (.ref 77)]) (st' := [.int (σ2.1 77 1)]) (σ' := σ2) rfl ?_
      refine am_top (v' := nI w) (by exact o1) ?_
      refine am_if (ty := 11) (tn := 7) rfl (by decide) rfl rfl (fun (h_3 : nI w = 0) => ?_) (fun (h_3 : ¬ (nI w = 0)) => ?_)
      · have h_3 : w = 0 := (am_n0 (by omega)).mp h_3
        omega
      have h_3 : ¬ (w = 0) := fun z => h_3 ((am_n0 (by omega)).mpr z)
      refine am_run 2 (pc' := 12) (ls' := [some (.ref 77)]) (st' := [.int (nI 1)]) (σ' := σ2) rfl ?_
      refine am_retz rfl rfl (by decide) ?_
      show am_G _ M_X9_drawChart _ 85 [some (.ref 41), some (.ref t), some (.int (nI mk)), some (.int (nI (2 ^ pcn mk 21))), some (.int (nI k)), some (.int (nI (pt mk i))), some (.int (nI i)), v7] [.int (nI 1)] σ2
      refine am_if (ty := 93) (tn := 88) rfl (by decide) rfl rfl (fun (h_4 : nI 1 = 0) => ?_) (fun (h_4 : ¬ (nI 1 = 0)) => ?_)
      · exact absurd h_4 (by decide)
      refine am_run 5 (pc' := 114) (ls' := [some (.ref 41), some (.ref t), some (.int (nI mk)), some (.int (nI (2 ^ pcn mk 21))), some (.int (nI k)), some (.int (nI (pt mk i))), some (.int (nI i)), some (.int (nI k))]) (st' := [.int (-1), .int (nI k)]) (σ' := σ2) rfl ?_
      refine am_ic (ty := 117) (tn := 119) rfl (by decide) rfl rfl (fun (h_5 : nI k = -1) => ?_) (fun (h_5 : ¬ (nI k = -1)) => ?_)
      · exact absurd h_5 (am_nm1 (by omega))
      refine am_run 6 (pc' := 131) (ls' := [some (.ref 41), some (.ref t), some (.int (nI mk)), some (.int (nI (2 ^ pcn mk 21))), some (.int (nI k)), some (.int (nI (pt mk i))), some (.int (nI i)), some (.int (nI k))]) (st' := [.ref 77, .int (nI i), .int (nI k), .ref 83]) (σ' := σ2) rfl ?_
      refine am_invv (y := 52) (b := 77) (as := []) (rest := [.int (nI i), .int (nI k), .ref 83]) rfl rfl rfl rfl rfl rfl rfl (Nat.le_of_ble_eq_true rfl) ?_
      refine am_enter' rfl rfl rfl (by omega) (ls := [some (.ref 77)]) rfl (fun d_6 hd_6 => ?_)
      refine am_run 2 (pc' := 4) (ls' := [some (.ref 77)]) (st' := [.int (σ2.1 77 1)]) (σ' := σ2) rfl ?_
      refine am_top (v' := nI w) (by exact o1) ?_
      refine am_if (ty := 11) (tn := 7) rfl (by decide) rfl rfl (fun (h_7 : nI w = 0) => ?_) (fun (h_7 : ¬ (nI w = 0)) => ?_)
      · have h_7 : w = 0 := (am_n0 (by omega)).mp h_7
        omega
      have h_7 : ¬ (w = 0) := fun z => h_7 ((am_n0 (by omega)).mpr z)
      refine am_run 2 (pc' := 12) (ls' := [some (.ref 77)]) (st' := [.int (nI 1)]) (σ' := σ2) rfl ?_
      refine am_retz rfl rfl (by decide) ?_
      show am_G _ M_X9_drawChart _ 134 [some (.ref 41), some (.ref t), some (.int (nI mk)), some (.int (nI (2 ^ pcn mk 21))), some (.int (nI k)), some (.int (nI (pt mk i))), some (.int (nI i)), some (.int (nI k))] [.int (nI 1), .int (nI i), .int (nI k), .ref 83] σ2
      refine am_if (ty := 141) (tn := 137) rfl (by decide) rfl rfl (fun (h_8 : nI 1 = 0) => ?_) (fun (h_8 : ¬ (nI 1 = 0)) => ?_)
      · exact absurd h_8 (by decide)
      refine am_run 3 (pc' := 150) (ls' := [some (.ref 41), some (.ref t), some (.int (nI mk)), some (.int (nI (2 ^ pcn mk 21))), some (.int (nI k)), some (.int (nI (pt mk i))), some (.int (nI i)), some (.int (nI k))]) (st' := [.int (nI k), .int (-1), .int (nI i), .int (nI k), .ref 83]) (σ' := σ2) rfl ?_
      refine am_invv (y := 27) (b := 83) (as := [.int (nI k), .int (nI i), .int (-1), .int (nI k)]) (rest := []) rfl rfl rfl rfl rfl rfl rfl (Nat.le_of_ble_eq_true rfl) ?_
      refine am_enter' rfl rfl rfl (by omega) (ls := [some (.ref 83), some (.int (nI k)), some (.int (nI i)), some (.int (-1)), some (.int (nI k))]) rfl (fun d_9 hd_9 => ?_)
      refine am_run 1 (pc' := 1) (ls' := [some (.ref 83), some (.int (nI k)), some (.int (nI i)), some (.int (-1)), some (.int (nI k))]) (st' := [.int (nI k)]) (σ' := σ2) rfl ?_
      refine am_if (ty := 67) (tn := 4) rfl (by decide) rfl rfl (fun (h_10 : nI k < 0) => ?_) (fun (h_10 : ¬ (nI k < 0)) => ?_)
      · have h_10 : k < 0 := (am_nlt0 (by omega)).mp h_10
        exact absurd h_10 (Nat.not_lt_zero _)
      have h_10 : ¬ (k < 0) := fun z => h_10 ((am_nlt0 (by omega)).mpr z)
      refine am_run 2 (pc' := 7) (ls' := [some (.ref 83), some (.int (nI k)), some (.int (nI i)), some (.int (-1)), some (.int (nI k))]) (st' := [.int (nI 100), .int (nI k)]) (σ' := σ2) rfl ?_
      refine am_ic (ty := 10) (tn := 67) rfl (by decide) rfl rfl (fun (h_11 : nI k < nI 100) => ?_) (fun (h_11 : ¬ (nI k < nI 100)) => ?_)
      rotate_left
      · have h_11 : ¬ (k < 100) := fun z => h_11 ((nI_ltI (by omega) (by omega)).mpr z)
        omega
      have h_11 : k < 100 := (nI_ltI (by omega) (by omega)).mp h_11
      refine am_run 1 (pc' := 11) (ls' := [some (.ref 83), some (.int (nI k)), some (.int (nI i)), some (.int (-1)), some (.int (nI k))]) (st' := [.int (nI i)]) (σ' := σ2) rfl ?_
      refine am_if (ty := 67) (tn := 14) rfl (by decide) rfl rfl (fun (h_12 : nI i < 0) => ?_) (fun (h_12 : ¬ (nI i < 0)) => ?_)
      · have h_12 : i < 0 := (am_nlt0 (by omega)).mp h_12
        exact absurd h_12 (Nat.not_lt_zero _)
      have h_12 : ¬ (i < 0) := fun z => h_12 ((am_nlt0 (by omega)).mpr z)
      refine am_run 2 (pc' := 17) (ls' := [some (.ref 83), some (.int (nI k)), some (.int (nI i)), some (.int (-1)), some (.int (nI k))]) (st' := [.int (nI 8), .int (nI i)]) (σ' := σ2) rfl ?_
      refine am_ic (ty := 20) (tn := 67) rfl (by decide) rfl rfl (fun (h_13 : nI i < nI 8) => ?_) (fun (h_13 : ¬ (nI i < nI 8)) => ?_)
      rotate_left
      · have h_13 : ¬ (i < 8) := fun z => h_13 ((nI_ltI (by omega) (by omega)).mpr z)
        omega
      have h_13 : i < 8 := (nI_ltI (by omega) (by omega)).mp h_13
      refine am_run 5 (pc' := 28) (ls' := [some (.ref 83), some (.int (nI k)), some (.int (nI i)), some (.int (-1)), some (.int (nI k))]) (st' := [.int (nI k * nI 8), .ref 84]) (σ' := σ2) rfl ?_
      refine am_top (v' := nI (k * 8)) (am_nmul _ _) ?_
      refine am_run 2 (pc' := 30) (ls' := [some (.ref 83), some (.int (nI k)), some (.int (nI i)), some (.int (-1)), some (.int (nI k))]) (st' := [.int (nI (k * 8) + nI i), .ref 84]) (σ' := σ2) rfl ?_
      refine am_top (v' := nI (k * 8 + i)) (nI_add _ _) ?_
      refine am_run 1 (pc' := 31) (ls' := [some (.ref 83), some (.int (nI k)), some (.int (nI i)), some (.int (-1)), some (.int (nI k))]) (st' := [.int (-1), .int (nI (k * 8 + i)), .ref 84]) (σ' := σ2) rfl ?_
      refine am_iastN (n := 800) rfl rfl rfl (by omega) (by decide) ?_
      refine am_run 5 (pc' := 40) (ls' := [some (.ref 83), some (.int (nI k)), some (.int (nI i)), some (.int (-1)), some (.int (nI k))]) (st' := [.int (nI k * nI 8), .ref 85]) (σ' := (am_wr σ2 84 (k * 8 + i) (-1))) rfl ?_
      refine am_top (v' := nI (k * 8)) (am_nmul _ _) ?_
      refine am_run 2 (pc' := 42) (ls' := [some (.ref 83), some (.int (nI k)), some (.int (nI i)), some (.int (-1)), some (.int (nI k))]) (st' := [.int (nI (k * 8) + nI i), .ref 85]) (σ' := (am_wr σ2 84 (k * 8 + i) (-1))) rfl ?_
      refine am_top (v' := nI (k * 8 + i)) (nI_add _ _) ?_
      refine am_run 1 (pc' := 44) (ls' := [some (.ref 83), some (.int (nI k)), some (.int (nI i)), some (.int (-1)), some (.int (nI k))]) (st' := [.int (nI k), .int (nI (k * 8 + i)), .ref 85]) (σ' := (am_wr σ2 84 (k * 8 + i) (-1))) rfl ?_
      refine am_iastN (n := 800) rfl rfl rfl (by omega) (by decide) ?_
      refine am_run 4 (pc' := 49) (ls' := [some (.ref 83), some (.int (nI k)), some (.int (nI i)), some (.int (-1)), some (.int (nI k))]) (st' := [.int (nI k + nI 1), .ref 83]) (σ' := (am_wr (am_wr σ2 84 (k * 8 + i) (-1)) 85 (k * 8 + i) (nI k))) rfl ?_
      refine am_top (v' := nI (k + 1)) (nI_add _ _) ?_
      refine am_run 3 (pc' := 54) (ls' := [some (.ref 83), some (.int (nI k)), some (.int (nI i)), some (.int (-1)), some (.int (nI k))]) (st' := [.int (-1), .int (-1)]) (σ' := (am_wr (am_wr (am_wr σ2 84 (k * 8 + i) (-1)) 85 (k * 8 + i) (nI k)) 83 4 (nI (k + 1)))) rfl ?_
      refine am_ic (ty := 57) (tn := 67) rfl (by decide) rfl rfl (fun (h_14 : -1 = -1) => ?_) (fun (h_14 : ¬ (-1 = -1)) => ?_)
      rotate_left
      · exact absurd (by decide) h_14
      refine am_run 3 (pc' := 62) (ls' := [some (.ref 83), some (.int (nI k)), some (.int (nI i)), some (.int (-1)), some (.int (nI k))]) (st' := [.int (σ2.1 83 6), .ref 83]) (σ' := (am_wr (am_wr (am_wr σ2 84 (k * 8 + i) (-1)) 85 (k * 8 + i) (nI k)) 83 4 (nI (k + 1)))) rfl ?_
      refine am_top (v' := nI rj) (by exact c6) ?_
      refine am_run 2 (pc' := 64) (ls' := [some (.ref 83), some (.int (nI k)), some (.int (nI i)), some (.int (-1)), some (.int (nI k))]) (st' := [.int (nI rj + nI 1), .ref 83]) (σ' := (am_wr (am_wr (am_wr σ2 84 (k * 8 + i) (-1)) 85 (k * 8 + i) (nI k)) 83 4 (nI (k + 1)))) rfl ?_
      refine am_top (v' := nI (rj + 1)) (nI_add _ _) ?_
      refine am_run 1 (pc' := 67) (ls' := [some (.ref 83), some (.int (nI k)), some (.int (nI i)), some (.int (-1)), some (.int (nI k))]) (st' := []) (σ' := (am_wr (am_wr (am_wr (am_wr σ2 84 (k * 8 + i) (-1)) 85 (k * 8 + i) (nI k)) 83 4 (nI (k + 1))) 83 6 (nI (rj + 1)))) rfl ?_
      refine am_retv rfl rfl ?_
      show am_G _ M_X9_drawChart _ 153 [some (.ref 41), some (.ref t), some (.int (nI mk)), some (.int (nI (2 ^ pcn mk 21))), some (.int (nI k)), some (.int (nI (pt mk i))), some (.int (nI i)), some (.int (nI k))] [] (am_wr (am_wr (am_wr (am_wr σ2 84 (k * 8 + i) (-1)) 85 (k * 8 + i) (nI k)) 83 4 (nI (k + 1))) 83 6 (nI (rj + 1)))
      refine am_run 2 (pc' := 156) (ls' := [some (.ref 41), some (.ref t), some (.int (nI mk)), some (.int (nI (2 ^ pcn mk 21))), some (.int (nI k)), some (.int (nI (pt mk i))), some (.int (nI i)), some (.int (nI k))]) (st' := [.int (nI mk), .int (nI (pt mk i))]) (σ' := (am_wr (am_wr (am_wr (am_wr σ2 84 (k * 8 + i) (-1)) 85 (k * 8 + i) (nI k)) 83 4 (nI (k + 1))) 83 6 (nI (rj + 1)))) rfl ?_
      refine am_invs (y := 144) (as := [.int (nI (pt mk i)), .int (nI mk)]) (rest := []) rfl rfl rfl rfl rfl rfl (Nat.le_of_ble_eq_true rfl) ?_
      refine c_subsetAfter (by omega) hmk hmv (by omega) ?_
      show am_G _ M_X9_drawChart _ 159 [some (.ref 41), some (.ref t), some (.int (nI mk)), some (.int (nI (2 ^ pcn mk 21))), some (.int (nI k)), some (.int (nI (pt mk i))), some (.int (nI i)), some (.int (nI k))] [.int (nI (pt mk (i + 1)))] (am_wr (am_wr (am_wr (am_wr σ2 84 (k * 8 + i) (-1)) 85 (k * 8 + i) (nI k)) 83 4 (nI (k + 1))) 83 6 (nI (rj + 1)))
      refine am_run 2 (pc' := 164) (ls' := [some (.ref 41), some (.ref t), some (.int (nI mk)), some (.int (nI (2 ^ pcn mk 21))), some (.int (nI k)), some (.int (nI (pt mk (i + 1)))), some (.int (nI i + nI 1)), some (.int (nI k))]) (st' := []) (σ' := (am_wr (am_wr (am_wr (am_wr σ2 84 (k * 8 + i) (-1)) 85 (k * 8 + i) (nI k)) 83 4 (nI (k + 1))) 83 6 (nI (rj + 1)))) rfl ?_
      refine am_ls (ls' := [some (.ref 41), some (.ref t), some (.int (nI mk)), some (.int (nI (2 ^ pcn mk 21))), some (.int (nI k)), some (.int (nI (pt mk (i + 1)))), some (.int (nI (i + 1))), some (.int (nI k))]) (by rw [nI_add]) ?_
      refine am_run 1 (pc' := 53) (ls' := [some (.ref 41), some (.ref t), some (.int (nI mk)), some (.int (nI (2 ^ pcn mk 21))), some (.int (nI k)), some (.int (nI (pt mk (i + 1)))), some (.int (nI (i + 1))), some (.int (nI k))]) (st' := []) (σ' := (am_wr (am_wr (am_wr (am_wr σ2 84 (k * 8 + i) (-1)) 85 (k * 8 + i) (nI k)) 83 4 (nI (k + 1))) 83 6 (nI (rj + 1)))) rfl ?_
      have e : (ch_in p (r + 1) mk (m + 1) i k (c, f, tl, ld, rj)) = (ch_in p (r + 1) mk m (i + 1) k (c, f, up1 tl (8 * k + i) 0, up1 ld (8 * k + i) 0, rj + 1)) := by show (if (oc p (r + 1) (f k) (pt mk i)).2.2.1 = 0 then _ else _) = _; rw [hz]; rw [if_neg (show ¬ (P, A, w, c1, nx, rd).2.2.1 = 0 from hw0)]
      rw [e] at hA hN
      have q84 : ∀ q, (am_wr (am_wr (am_wr (am_wr σ2 84 (k * 8 + i) (-1)) 85 (k * 8 + i) (nI k)) 83 4 (nI (k + 1))) 83 6 (nI (rj + 1))).1 84 q = if q = 8 * k + i then -1 else σ2.1 84 q := fun q => by simp [am_rd1, Nat.mul_comm 8 k]
      have q85 : ∀ q, (am_wr (am_wr (am_wr (am_wr σ2 84 (k * 8 + i) (-1)) 85 (k * 8 + i) (nI k)) 83 4 (nI (k + 1))) 83 6 (nI (rj + 1))).1 85 q = if q = 8 * k + i then nI k else σ2.1 85 q := fun q => by simp [am_rd1, Nat.mul_comm 8 k]
      have hC3 := hC2.add (σ' := (am_wr (am_wr (am_wr (am_wr σ2 84 (k * 8 + i) (-1)) 85 (k * 8 + i) (nI k)) 83 4 (nI (k + 1))) 83 6 (nI (rj + 1)))) (c' := c) (f' := f) (rj' := rj + 1) (v := 0) (l := 0) (by omega) (by omega) (Nat.le_refl _) rfl rfl (by omega) (fun q z => by rw [q84, if_neg z]) (fun q z => by rw [q85, if_neg z]) (by rw [q84, if_pos rfl, oI_0]) (by omega) (fun z => absurd rfl z) (by omega) (by omega)
      exact c_draw_in hd hW hR hrn hro hmk hmv hV m (i + 1) _ c f _ _ _ _ (by omega) ((((hK2.wr (by decide) _ _).wr (by decide) _ _).wr (by decide) _ _).wr (by decide) _ _) (hT2.keep (fun c' a => by rw [am_wr_ne _ (by omega), am_wr_ne _ (by omega), am_wr_ne _ (by omega), am_wr_ne _ (by omega)])) (by omega) hVA hC3 (Or.inr rfl) hA hN

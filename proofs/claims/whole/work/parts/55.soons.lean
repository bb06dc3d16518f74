/-! soon -/
abbrev Z6 : Type := Nat × Nat × Nat × Nat × Nat × Nat
def shw (wh : Nat) (z : Z6) : Bool := if wh = 9 then !(z.2.2.1 == 0) else if z.2.2.1 = 0 then (if wh = 8 then z.2.2.2.2.1 == 0 else z.1.testBit wh) else false
def so_in (p : Pg) (x mk wh : Nat) : Nat → Nat → Nat → Nat → (Nat → Nat) → (Nat → Nat) → Option Int32 × Nat × (Nat → Nat) × (Nat → Nat)
  | 0, _, _, c, f, h => (none, c, f, h)
  | m + 1, i, k, c, f, h =>
    if shw wh (oc p x (f k) (pt mk i)) = true then (some (nI (h k + 1)), c, f, h)
    else if (oc p x (f k) (pt mk i)).2.2.1 = 0 then
      (if fnd f z0 (oc p x (f k) (pt mk i)).2.2.2.2.1 0 c < c then so_in p x mk wh m (i + 1) k c f h
      else if c = 100 then (some (-1000004), c, f, h)
      else so_in p x mk wh m (i + 1) k (c + 1) (up1 f c (oc p x (f k) (pt mk i)).2.2.2.2.1) (up1 h c (h k + 1)))
    else so_in p x mk wh m (i + 1) k c f h
def so_out (p : Pg) (x mk wh : Nat) : Nat → Nat → Nat → (Nat → Nat) → (Nat → Nat) → Int32
  | 0, _, _, _, _ => -1
  | M + 1, k, c, f, h =>
    if k < c then
      (if (so_in p x mk wh (2 ^ pcn mk 21) 0 k c f h).1 = none then so_out p x mk wh M (k + 1) (so_in p x mk wh (2 ^ pcn mk 21) 0 k c f h).2.1 (so_in p x mk wh (2 ^ pcn mk 21) 0 k c f h).2.2.1 (so_in p x mk wh (2 ^ pcn mk 21) 0 k c f h).2.2.2
      else (so_in p x mk wh (2 ^ pcn mk 21) 0 k c f h).1.getD 0)
    else -1
def VA (p : Pg) (r c : Nat) (f : Nat → Nat) : Prop := ∀ k, k < c → VS p r (f k)
theorem VA.add {p : Pg} {r c : Nat} {f : Nat → Nat} (h : VA p r c f) {a : Nat} (ha : VS p r a) : VA p r (c + 1) (up1 f c a) := fun k hk => by
  by_cases e : k = c
  · subst e; rw [up1_s]; exact ha
  · rw [up1_o f _ e]; exact h k (by omega)
theorem up1_z (c : Nat) : up1 z0 c 0 = z0 := by
  funext i
  unfold up1 z0
  split <;> rfl
/-- what the class leaves as it was -/
def KX (σ0 σ : am_M) : Prop := (∀ c, c < 77 → σ.1 c = σ0.1 c) ∧ (∀ c, c ≠ 83 → σ.2 c = σ0.2 c) ∧ (GS σ0 → GS σ)
theorem KX.rf (σ : am_M) : KX σ σ := ⟨fun _ _ => rfl, fun _ _ => rfl, id⟩
theorem KX.kc {σ0 σ σ' : am_M} {o' : Nat} (h : KX σ0 σ) (h' : Kc σ σ' o') (ho : o' = 77 ∨ o' = 78) : KX σ0 σ' := ⟨fun c a => (h'.1 c (by omega)).trans (h.1 c a), fun c a => by rw [h'.2]; exact h.2.1 c a, fun g => KI.gs h'.2 (h.2.2 g)⟩
theorem KX.wr {σ0 σ : am_M} (h : KX σ0 σ) {c : Nat} (hc : 77 ≤ c) (k : Nat) (x : Int32) : KX σ0 (am_wr σ c k x) := ⟨fun c' a => by rw [am_wr_ne _ (by omega)]; exact h.1 c' a, h.2.1, h.2.2⟩
theorem KX.by {σ0 σ σ' : am_M} (h : KX σ0 σ) (h1 : ∀ c, c < 79 ∨ 82 < c → σ'.1 c = σ.1 c) (h2 : σ'.2 = σ.2) : KX σ0 σ' := ⟨fun c a => (h1 c (by omega)).trans (h.1 c a), fun c a => by rw [h2]; exact h.2.1 c a, fun g => KI.gs h2 (h.2.2 g)⟩
theorem KX.KI {σ0 σ : am_M} (h : KX σ0 σ) : KI σ0 σ := ⟨fun c a => h.1 c (by omega), fun k _ => by rw [h.1 0 (by omega)], h.2.1, h.2.2⟩
theorem KX.TR {σ0 σ : am_M} (h : KX σ0 σ) {t n : Nat} {p : Pg} (hR : TR σ0 t p n) : TR σ t p n := hR.keep fun j h1 h2 => h.1 j (by omega)
theorem KX.RT {σ0 σ : am_M} (h : KX σ0 σ) {t x : Nat} (hT : T3 t) (hr : ROOT σ0 t x) : ROOT σ t x := by
  unfold ROOT
  rw [h.1 t (by unfold T3 at hT; omega)]
  exact hr
/-- what the reference leaves as it was -/
def KY (σ0 σ : am_M) : Prop := (∀ c, (1 ≤ c ∧ c ≤ 27) ∨ 41 ≤ c → σ.1 c = σ0.1 c) ∧ (∀ k, k < 38 ∨ 60 < k → σ.1 0 k = σ0.1 0 k) ∧ σ.2 = σ0.2
theorem KY.rf (σ : am_M) : KY σ σ := ⟨fun _ _ => rfl, fun _ _ => rfl, rfl⟩
theorem KY.ks {σ0 σ σ' : am_M} (h : KY σ0 σ) (h' : KS σ σ') : KY σ0 σ' := ⟨fun c a => (h'.1 c (by omega) (by omega) (by omega) (by omega)).trans (h.1 c a), fun k a => (h'.2.1 k (by omega)).trans (h.2.1 k a), h'.2.2.trans h.2.2⟩
theorem KY.wr {σ0 σ : am_M} (h : KY σ0 σ) {c : Nat} (hc : 28 ≤ c ∧ c ≤ 40) (k : Nat) (x : Int32) : KY σ0 (am_wr σ c k x) := ⟨fun c' a => by rw [am_wr_ne _ (by omega)]; exact h.1 c' a, fun k' a => by rw [am_wr_ne _ (by omega)]; exact h.2.1 k' a, h.2.2⟩
theorem KY.w0 {σ0 σ : am_M} (h : KY σ0 σ) {k : Nat} (hk : 38 ≤ k ∧ k ≤ 60) (x : Int32) : KY σ0 (am_wr σ 0 k x) := ⟨fun c' a => by rw [am_wr_ne _ (by omega)]; exact h.1 c' a, fun k' a => by rw [am_diff _ _ _ _ _ (by omega)]; exact h.2.1 k' a, h.2.2⟩
theorem KY.KI {σ0 σ : am_M} (h : KY σ0 σ) : KI σ0 σ := ⟨fun c a => h.1 c (by omega), h.2.1, fun c _ => by rw [h.2.2], KI.gs h.2.2⟩
theorem KY.MI {σ0 σ : am_M} (h : KY σ0 σ) {j n r : Nat} {p : Pg} {rk od dp : Nat → Nat} {ow : Nat → Nat → Nat} (hM : MI σ0 j p n r rk od dp ow) : MI σ j p n r rk od dp ow := hM.keep2 (fun c a => h.1 c (by omega))
theorem TX.keep {σ σ' : am_M} {lim c : Nat} {f g h : Nat → Nat} (hT : TX σ lim c f g h) (hk : ∀ c, 79 ≤ c ∧ c ≤ 82 → σ'.1 c = σ.1 c) : TX σ' lim c f g h := by
  unfold TX
  rw [hk 79 (by omega), hk 80 (by omega), hk 81 (by omega), hk 82 (by omega)]
  exact hT
theorem TX.addz {σ : am_M} {lim c : Nat} {f h : Nat → Nat} (hT : TX σ lim c f z0 h) (hl : c < lim) {a st : Nat} (ha : a ≤ 1048576) (hs : st ≤ c) : TX (am_wr (am_wr (am_wr (am_wr σ 80 c (nI a)) 81 c (nI 0)) 82 c (nI st)) 79 3 (nI (c + 1))) lim (c + 1) (up1 f c a) z0 (up1 h c st) := by
  have := hT.add hl ha (b := 0) (by decide) hs
  rw [up1_z] at this
  exact this
/-- the reference's table -/
def TM (σ : am_M) (c : Nat) (f h : Nat → Nat) : Prop := c ≤ 100 ∧ σ.1 0 49 = nI c ∧ ∀ k, k < c → σ.1 32 k = nI (f k) ∧ σ.1 33 k = nI (h k) ∧ f k ≤ 1048576 ∧ h k ≤ k
theorem TM.keep {σ σ' : am_M} {c : Nat} {f h : Nat → Nat} (hT : TM σ c f h) (h1 : σ'.1 0 49 = σ.1 0 49) (h2 : σ'.1 32 = σ.1 32) (h3 : σ'.1 33 = σ.1 33) : TM σ' c f h := by
  unfold TM
  rw [h1, h2, h3]
  exact hT
theorem TM.ks {σ σ' : am_M} {c : Nat} {f h : Nat → Nat} (hT : TM σ c f h) (hS : KS σ σ') : TM σ' c f h := hT.keep (hS.2.1 49 (by omega)) (hS.1 32 (by decide) (by decide) (by decide) (by decide)) (hS.1 33 (by decide) (by decide) (by decide) (by decide))
theorem TM.add {σ : am_M} {c : Nat} {f h : Nat → Nat} (hT : TM σ c f h) (hl : c < 100) {a st : Nat} (ha : a ≤ 1048576) (hs : st ≤ c) : TM (am_wr (am_wr (am_wr σ 32 c (nI a)) 33 c (nI st)) 0 49 (nI (c + 1))) (c + 1) (up1 f c a) (up1 h c st) := by
  obtain ⟨h1, h3, h5⟩ := hT
  refine ⟨by omega, am_same _ _ _ _, fun k hk => ?_⟩
  by_cases e : k = c
  · subst e
    rw [up1_s, up1_s, am_wr_ne _ (by decide), am_wr_ne _ (by decide), am_same, am_wr_ne _ (by decide), am_same]
    exact ⟨rfl, rfl, ha, hs⟩
  · rw [up1_o f _ e, up1_o h _ e]
    simp only [am_rd1, e, and_false, if_false, show ¬ (32 = 0) by decide, show ¬ (33 = 0) by decide, show ¬ (32 = 33) by decide, false_and]
    exact h5 k (by omega)
set_option maxRecDepth 10000 in
set_option maxHeartbeats 2000000 in
theorem c_shows {d : Nat} (hd : 2 ≤ d) {σ : am_M} {wh P A w c1 nx rd : Nat} (hwh : wh ≤ 9) (hP : P < 256) (hA : A < 256) (hw : w ≤ 256) (hnx : nx < 1048576) (o0 : σ.1 77 0 = nI (P + 256 * A)) (o1 : σ.1 77 1 = nI w) (o3 : σ.1 77 3 = nI nx) {Q : am_Q} (h1 : shw wh (P, A, w, c1, nx, rd) = true → Q (some (.int (nI 1))) σ) (h0 : shw wh (P, A, w, c1, nx, rd) = false → Q (some (.int (nI 0))) σ) : am_C d 59 [.ref 77, .int (nI wh)] σ Q := by
  by_cases e9 : wh = 9
  · subst e9
    by_cases hw0 : w = 0
    · skip
      refine am_enter' (M := M_X3_shows) rfl rfl rfl (by omega) (ls := [some (.ref 77), some (.int (nI 9))]) rfl (fun d' hd' => ?_)
      refine am_run 2 (pc' := 3) (ls' := [some (.ref 77), some (.int (nI 9))]) (st' := [.int (nI 9), .int (nI 9)]) (σ' := σ) rfl ?_
      refine am_ic (ty := 6) (tn := 11) rfl (by decide) rfl rfl (fun (h_1 : nI 9 = nI 9) => ?_) (fun (h_1 : ¬ (nI 9 = nI 9)) => ?_)
      rotate_left
      · exact absurd (by decide) h_1
      refine am_run 1 (pc' := 7) (ls' := [some (.ref 77), some (.int (nI 9))]) (st' := [.ref 77]) (σ' := σ) rfl ?_
      refine am_invv (y := 52) (b := 77) (as := []) (rest := []) rfl rfl rfl rfl rfl rfl rfl (Nat.le_of_ble_eq_true rfl) ?_
      refine am_enter' rfl rfl rfl (by omega) (ls := [some (.ref 77)]) rfl (fun d_2 hd_2 => ?_)
      refine am_run 2 (pc' := 4) (ls' := [some (.ref 77)]) (st' := [.int (σ.1 77 1)]) (σ' := σ) rfl ?_
      refine am_top (v' := nI w) o1 ?_
      refine am_if (ty := 11) (tn := 7) rfl (by decide) rfl rfl (fun (h_3 : nI w = 0) => ?_) (fun (h_3 : ¬ (nI w = 0)) => ?_)
      rotate_left
      · have h_3 : ¬ (w = 0) := fun z => h_3 ((am_n0 (by omega)).mpr z)
        omega
      have h_3 : w = 0 := (am_n0 (by omega)).mp h_3
      refine am_run 1 (pc' := 12) (ls' := [some (.ref 77)]) (st' := [.int (nI 0)]) (σ' := σ) rfl ?_
      refine am_retz rfl rfl (by decide) ?_
      show am_G _ M_X3_shows _ 10 [some (.ref 77), some (.int (nI 9))] [.int (nI 0)] σ
      refine am_retz rfl rfl (by decide) ?_
      exact h0 (by unfold shw; simp [*])
    · skip
      refine am_enter' (M := M_X3_shows) rfl rfl rfl (by omega) (ls := [some (.ref 77), some (.int (nI 9))]) rfl (fun d' hd' => ?_)
      refine am_run 2 (pc' := 3) (ls' := [some (.ref 77), some (.int (nI 9))]) (st' := [.int (nI 9), .int (nI 9)]) (σ' := σ) rfl ?_
      refine am_ic (ty := 6) (tn := 11) rfl (by decide) rfl rfl (fun (h_1 : nI 9 = nI 9) => ?_) (fun (h_1 : ¬ (nI 9 = nI 9)) => ?_)
      rotate_left
      · exact absurd (by decide) h_1
      refine am_run 1 (pc' := 7) (ls' := [some (.ref 77), some (.int (nI 9))]) (st' := [.ref 77]) (σ' := σ) rfl ?_
      refine am_invv (y := 52) (b := 77) (as := []) (rest := []) rfl rfl rfl rfl rfl rfl rfl (Nat.le_of_ble_eq_true rfl) ?_
      refine am_enter' rfl rfl rfl (by omega) (ls := [some (.ref 77)]) rfl (fun d_2 hd_2 => ?_)
      refine am_run 2 (pc' := 4) (ls' := [some (.ref 77)]) (st' := [.int (σ.1 77 1)]) (σ' := σ) rfl ?_
      refine am_top (v' := nI w) o1 ?_
      refine am_if (ty := 11) (tn := 7) rfl (by decide) rfl rfl (fun (h_3 : nI w = 0) => ?_) (fun (h_3 : ¬ (nI w = 0)) => ?_)
      · have h_3 : w = 0 := (am_n0 (by omega)).mp h_3
        omega
      have h_3 : ¬ (w = 0) := fun z => h_3 ((am_n0 (by omega)).mpr z)
      refine am_run 2 (pc' := 12) (ls' := [some (.ref 77)]) (st' := [.int (nI 1)]) (σ' := σ) rfl ?_
      refine am_retz rfl rfl (by decide) ?_
      show am_G _ M_X3_shows _ 10 [some (.ref 77), some (.int (nI 9))] [.int (nI 1)] σ
      refine am_retz rfl rfl (by decide) ?_
      exact h1 (by unfold shw; simp [*])
  · by_cases hw0 : w = 0
    · by_cases e8 : wh = 8
      · subst e8
        by_cases en : nx = 0
        · skip
          refine am_enter' (M := M_X3_shows) rfl rfl rfl (by omega) (ls := [some (.ref 77), some (.int (nI 8))]) rfl (fun d' hd' => ?_)
          refine am_run 2 (pc' := 3) (ls' := [some (.ref 77), some (.int (nI 8))]) (st' := [.int (nI 9), .int (nI 8)]) (σ' := σ) rfl ?_
          refine am_ic (ty := 6) (tn := 11) rfl (by decide) rfl rfl (fun (h_1 : nI 8 = nI 9) => ?_) (fun (h_1 : ¬ (nI 8 = nI 9)) => ?_)
          · exact absurd h_1 (by decide)
          refine am_run 1 (pc' := 12) (ls' := [some (.ref 77), some (.int (nI 8))]) (st' := [.ref 77]) (σ' := σ) rfl ?_
          refine am_invv (y := 52) (b := 77) (as := []) (rest := []) rfl rfl rfl rfl rfl rfl rfl (Nat.le_of_ble_eq_true rfl) ?_
          refine am_enter' rfl rfl rfl (by omega) (ls := [some (.ref 77)]) rfl (fun d_2 hd_2 => ?_)
          refine am_run 2 (pc' := 4) (ls' := [some (.ref 77)]) (st' := [.int (σ.1 77 1)]) (σ' := σ) rfl ?_
          refine am_top (v' := nI w) o1 ?_
          refine am_if (ty := 11) (tn := 7) rfl (by decide) rfl rfl (fun (h_3 : nI w = 0) => ?_) (fun (h_3 : ¬ (nI w = 0)) => ?_)
          rotate_left
          · have h_3 : ¬ (w = 0) := fun z => h_3 ((am_n0 (by omega)).mpr z)
            omega
          have h_3 : w = 0 := (am_n0 (by omega)).mp h_3
          refine am_run 1 (pc' := 12) (ls' := [some (.ref 77)]) (st' := [.int (nI 0)]) (σ' := σ) rfl ?_
          refine am_retz rfl rfl (by decide) ?_
          show am_G _ M_X3_shows _ 15 [some (.ref 77), some (.int (nI 8))] [.int (nI 0)] σ
          refine am_if (ty := 20) (tn := 18) rfl (by decide) rfl rfl (fun (h_4 : nI 0 = 0) => ?_) (fun (h_4 : ¬ (nI 0 = 0)) => ?_)
          rotate_left
          · exact absurd (by decide) h_4
          refine am_run 2 (pc' := 23) (ls' := [some (.ref 77), some (.int (nI 8))]) (st' := [.int (nI 8), .int (nI 8)]) (σ' := σ) rfl ?_
          refine am_ic (ty := 26) (tn := 41) rfl (by decide) rfl rfl (fun (h_5 : nI 8 = nI 8) => ?_) (fun (h_5 : ¬ (nI 8 = nI 8)) => ?_)
          rotate_left
          · exact absurd (by decide) h_5
          refine am_run 2 (pc' := 30) (ls' := [some (.ref 77), some (.int (nI 8))]) (st' := [.int (σ.1 77 3)]) (σ' := σ) rfl ?_
          refine am_top (v' := nI nx) o3 ?_
          refine am_if (ty := 33) (tn := 37) rfl (by decide) rfl rfl (fun (h_6 : nI nx = 0) => ?_) (fun (h_6 : ¬ (nI nx = 0)) => ?_)
          rotate_left
          · have h_6 : ¬ (nx = 0) := fun z => h_6 ((am_n0 (by omega)).mpr z)
            omega
          have h_6 : nx = 0 := (am_n0 (by omega)).mp h_6
          refine am_run 2 (pc' := 67) (ls' := [some (.ref 77), some (.int (nI 8))]) (st' := [.int (nI 1)]) (σ' := σ) rfl ?_
          refine am_retz rfl rfl (by decide) ?_
          exact h1 (by unfold shw; simp [*])
        · skip
          refine am_enter' (M := M_X3_shows) rfl rfl rfl (by omega) (ls := [some (.ref 77), some (.int (nI 8))]) rfl (fun d' hd' => ?_)
          refine am_run 2 (pc' := 3) (ls' := [some (.ref 77), some (.int (nI 8))]) (st' := [.int (nI 9), .int (nI 8)]) (σ' := σ) rfl ?_
          refine am_ic (ty := 6) (tn := 11) rfl (by decide) rfl rfl (fun (h_1 : nI 8 = nI 9) => ?_) (fun (h_1 : ¬ (nI 8 = nI 9)) => ?_)
          · exact absurd h_1 (by decide)
          refine am_run 1 (pc' := 12) (ls' := [some (.ref 77), some (.int (nI 8))]) (st' := [.ref 77]) (σ' := σ) rfl ?_
          refine am_invv (y := 52) (b := 77) (as := []) (rest := []) rfl rfl rfl rfl rfl rfl rfl (Nat.le_of_ble_eq_true rfl) ?_
          refine am_enter' rfl rfl rfl (by omega) (ls := [some (.ref 77)]) rfl (fun d_2 hd_2 => ?_)
          refine am_run 2 (pc' := 4) (ls' := [some (.ref 77)]) (st' := [.int (σ.1 77 1)]) (σ' := σ) rfl ?_
          refine am_top (v' := nI w) o1 ?_
          refine am_if (ty := 11) (tn := 7) rfl (by decide) rfl rfl (fun (h_3 : nI w = 0) => ?_) (fun (h_3 : ¬ (nI w = 0)) => ?_)
          rotate_left
          · have h_3 : ¬ (w = 0) := fun z => h_3 ((am_n0 (by omega)).mpr z)
            omega
          have h_3 : w = 0 := (am_n0 (by omega)).mp h_3
          refine am_run 1 (pc' := 12) (ls' := [some (.ref 77)]) (st' := [.int (nI 0)]) (σ' := σ) rfl ?_
          refine am_retz rfl rfl (by decide) ?_
          show am_G _ M_X3_shows _ 15 [some (.ref 77), some (.int (nI 8))] [.int (nI 0)] σ
          refine am_if (ty := 20) (tn := 18) rfl (by decide) rfl rfl (fun (h_4 : nI 0 = 0) => ?_) (fun (h_4 : ¬ (nI 0 = 0)) => ?_)
          rotate_left
          · exact absurd (by decide) h_4
          refine am_run 2 (pc' := 23) (ls' := [some (.ref 77), some (.int (nI 8))]) (st' := [.int (nI 8), .int (nI 8)]) (σ' := σ) rfl ?_
          refine am_ic (ty := 26) (tn := 41) rfl (by decide) rfl rfl (fun (h_5 : nI 8 = nI 8) => ?_) (fun (h_5 : ¬ (nI 8 = nI 8)) => ?_)
          rotate_left
          · exact absurd (by decide) h_5
          refine am_run 2 (pc' := 30) (ls' := [some (.ref 77), some (.int (nI 8))]) (st' := [.int (σ.1 77 3)]) (σ' := σ) rfl ?_
          refine am_top (v' := nI nx) o3 ?_
          refine am_if (ty := 33) (tn := 37) rfl (by decide) rfl rfl (fun (h_6 : nI nx = 0) => ?_) (fun (h_6 : ¬ (nI nx = 0)) => ?_)
          · have h_6 : nx = 0 := (am_n0 (by omega)).mp h_6
            omega
          have h_6 : ¬ (nx = 0) := fun z => h_6 ((am_n0 (by omega)).mpr z)
          refine am_run 2 (pc' := 67) (ls' := [some (.ref 77), some (.int (nI 8))]) (st' := [.int (nI 0)]) (σ' := σ) rfl ?_
          refine am_retz rfl rfl (by decide) ?_
          exact h0 (by unfold shw; simp [*])
      · have hbv := bit_v P wh
        have hsh : shw wh (P, A, w, c1, nx, rd) = P.testBit wh := by unfold shw; simp [*]
        rcases bt (P.testBit wh) with hb | hb
        all_goals rw [hb] at hbv
        all_goals have hbv : P / 2 ^ wh % 2 = _ := hbv
        · have hbv : P / 2 ^ wh % 2 = 1 := hbv
          refine am_enter' (M := M_X3_shows) rfl rfl rfl (by omega) (ls := [some (.ref 77), some (.int (nI wh))]) rfl (fun d' hd' => ?_)
          refine am_run 2 (pc' := 3) (ls' := [some (.ref 77), some (.int (nI wh))]) (st' := [.int (nI 9), .int (nI wh)]) (σ' := σ) rfl ?_
          refine am_ic (ty := 6) (tn := 11) rfl (by decide) rfl rfl (fun (h_1 : nI wh = nI 9) => ?_) (fun (h_1 : ¬ (nI wh = nI 9)) => ?_)
          · have h_1 : wh = 9 := (nI_eq (by omega) (by omega)).mp h_1
            omega
          have h_1 : ¬ (wh = 9) := fun z => h_1 ((nI_eq (by omega) (by omega)).mpr z)
          refine am_run 1 (pc' := 12) (ls' := [some (.ref 77), some (.int (nI wh))]) (st' := [.ref 77]) (σ' := σ) rfl ?_
          refine am_invv (y := 52) (b := 77) (as := []) (rest := []) rfl rfl rfl rfl rfl rfl rfl (Nat.le_of_ble_eq_true rfl) ?_
          refine am_enter' rfl rfl rfl (by omega) (ls := [some (.ref 77)]) rfl (fun d_2 hd_2 => ?_)
          refine am_run 2 (pc' := 4) (ls' := [some (.ref 77)]) (st' := [.int (σ.1 77 1)]) (σ' := σ) rfl ?_
          refine am_top (v' := nI w) o1 ?_
          refine am_if (ty := 11) (tn := 7) rfl (by decide) rfl rfl (fun (h_3 : nI w = 0) => ?_) (fun (h_3 : ¬ (nI w = 0)) => ?_)
          rotate_left
          · have h_3 : ¬ (w = 0) := fun z => h_3 ((am_n0 (by omega)).mpr z)
            omega
          have h_3 : w = 0 := (am_n0 (by omega)).mp h_3
          refine am_run 1 (pc' := 12) (ls' := [some (.ref 77)]) (st' := [.int (nI 0)]) (σ' := σ) rfl ?_
          refine am_retz rfl rfl (by decide) ?_
          show am_G _ M_X3_shows _ 15 [some (.ref 77), some (.int (nI wh))] [.int (nI 0)] σ
          refine am_if (ty := 20) (tn := 18) rfl (by decide) rfl rfl (fun (h_4 : nI 0 = 0) => ?_) (fun (h_4 : ¬ (nI 0 = 0)) => ?_)
          rotate_left
          · exact absurd (by decide) h_4
          refine am_run 2 (pc' := 23) (ls' := [some (.ref 77), some (.int (nI wh))]) (st' := [.int (nI 8), .int (nI wh)]) (σ' := σ) rfl ?_
          refine am_ic (ty := 26) (tn := 41) rfl (by decide) rfl rfl (fun (h_5 : nI wh = nI 8) => ?_) (fun (h_5 : ¬ (nI wh = nI 8)) => ?_)
          · have h_5 : wh = 8 := (nI_eq (by omega) (by omega)).mp h_5
            omega
          have h_5 : ¬ (wh = 8) := fun z => h_5 ((nI_eq (by omega) (by omega)).mpr z)
          refine am_run 1 (pc' := 42) (ls' := [some (.ref 77), some (.int (nI wh))]) (st' := [.int (nI wh)]) (σ' := σ) rfl ?_
          refine am_if (ty := 66) (tn := 45) rfl (by decide) rfl rfl (fun (h_6 : nI wh < 0) => ?_) (fun (h_6 : ¬ (nI wh < 0)) => ?_)
          · have h_6 : wh < 0 := (am_nlt0 (by omega)).mp h_6
            exact absurd h_6 (Nat.not_lt_zero _)
          have h_6 : ¬ (wh < 0) := fun z => h_6 ((am_nlt0 (by omega)).mpr z)
          refine am_run 2 (pc' := 48) (ls' := [some (.ref 77), some (.int (nI wh))]) (st' := [.int (nI 8), .int (nI wh)]) (σ' := σ) rfl ?_
          refine am_ic (ty := 51) (tn := 66) rfl (by decide) rfl rfl (fun (h_7 : nI wh < nI 8) => ?_) (fun (h_7 : ¬ (nI wh < nI 8)) => ?_)
          rotate_left
          · have h_7 : ¬ (wh < 8) := fun z => h_7 ((nI_ltI (by omega) (by omega)).mpr z)
            omega
          have h_7 : wh < 8 := (nI_ltI (by omega) (by omega)).mp h_7
          refine am_run 2 (pc' := 55) (ls' := [some (.ref 77), some (.int (nI wh))]) (st' := [.int (σ.1 77 0)]) (σ' := σ) rfl ?_
          refine am_top (v' := nI (P + 256 * A)) o0 ?_
          refine am_run 4 (pc' := 59) (ls' := [some (.ref 77), some (.int (nI wh))]) (st' := [.int (((nI (P + 256 * A)) >>> ((nI wh) &&& 31)) &&& nI 1)]) (σ' := σ) rfl ?_
          refine am_top (v' := nI (P / 2 ^ wh % 2)) (by rw [nx_shr (by omega) (by omega), show nI 1 = nI (2 - 1) from rfl, nx_mask (k := 1) _ rfl]; congr 1; rw [bit_v, bit_v, pq_bit hP, if_pos (by omega)]) ?_
          refine am_if (ty := 66) (tn := 62) rfl (by decide) rfl rfl (fun (h_8 : nI (P / 2 ^ wh % 2) = 0) => ?_) (fun (h_8 : ¬ (nI (P / 2 ^ wh % 2) = 0)) => ?_)
          · have h_8 : P / 2 ^ wh % 2 = 0 := (am_n0 (by omega)).mp h_8
            omega
          have h_8 : ¬ (P / 2 ^ wh % 2 = 0) := fun z => h_8 ((am_n0 (by omega)).mpr z)
          refine am_run 2 (pc' := 67) (ls' := [some (.ref 77), some (.int (nI wh))]) (st' := [.int (nI 1)]) (σ' := σ) rfl ?_
          refine am_retz rfl rfl (by decide) ?_
          exact h1 (by rw [hsh]; exact hb)
        · have hbv : P / 2 ^ wh % 2 = 0 := hbv
          refine am_enter' (M := M_X3_shows) rfl rfl rfl (by omega) (ls := [some (.ref 77), some (.int (nI wh))]) rfl (fun d' hd' => ?_)
          refine am_run 2 (pc' := 3) (ls' := [some (.ref 77), some (.int (nI wh))]) (st' := [.int (nI 9), .int (nI wh)]) (σ' := σ) rfl ?_
          refine am_ic (ty := 6) (tn := 11) rfl (by decide) rfl rfl (fun (h_1 : nI wh = nI 9) => ?_) (fun (h_1 : ¬ (nI wh = nI 9)) => ?_)
          · have h_1 : wh = 9 := (nI_eq (by omega) (by omega)).mp h_1
            omega
          have h_1 : ¬ (wh = 9) := fun z => h_1 ((nI_eq (by omega) (by omega)).mpr z)
          refine am_run 1 (pc' := 12) (ls' := [some (.ref 77), some (.int (nI wh))]) (st' := [.ref 77]) (σ' := σ) rfl ?_
          refine am_invv (y := 52) (b := 77) (as := []) (rest := []) rfl rfl rfl rfl rfl rfl rfl (Nat.le_of_ble_eq_true rfl) ?_
          refine am_enter' rfl rfl rfl (by omega) (ls := [some (.ref 77)]) rfl (fun d_2 hd_2 => ?_)
          refine am_run 2 (pc' := 4) (ls' := [some (.ref 77)]) (st' := [.int (σ.1 77 1)]) (σ' := σ) rfl ?_
          refine am_top (v' := nI w) o1 ?_
          refine am_if (ty := 11) (tn := 7) rfl (by decide) rfl rfl (fun (h_3 : nI w = 0) => ?_) (fun (h_3 : ¬ (nI w = 0)) => ?_)
          rotate_left
          · have h_3 : ¬ (w = 0) := fun z => h_3 ((am_n0 (by omega)).mpr z)
            omega
          have h_3 : w = 0 := (am_n0 (by omega)).mp h_3
          refine am_run 1 (pc' := 12) (ls' := [some (.ref 77)]) (st' := [.int (nI 0)]) (σ' := σ) rfl ?_
          refine am_retz rfl rfl (by decide) ?_
          show am_G _ M_X3_shows _ 15 [some (.ref 77), some (.int (nI wh))] [.int (nI 0)] σ
          refine am_if (ty := 20) (tn := 18) rfl (by decide) rfl rfl (fun (h_4 : nI 0 = 0) => ?_) (fun (h_4 : ¬ (nI 0 = 0)) => ?_)
          rotate_left
          · exact absurd (by decide) h_4
          refine am_run 2 (pc' := 23) (ls' := [some (.ref 77), some (.int (nI wh))]) (st' := [.int (nI 8), .int (nI wh)]) (σ' := σ) rfl ?_
          refine am_ic (ty := 26) (tn := 41) rfl (by decide) rfl rfl (fun (h_5 : nI wh = nI 8) => ?_) (fun (h_5 : ¬ (nI wh = nI 8)) => ?_)
          · have h_5 : wh = 8 := (nI_eq (by omega) (by omega)).mp h_5
            omega
          have h_5 : ¬ (wh = 8) := fun z => h_5 ((nI_eq (by omega) (by omega)).mpr z)
          refine am_run 1 (pc' := 42) (ls' := [some (.ref 77), some (.int (nI wh))]) (st' := [.int (nI wh)]) (σ' := σ) rfl ?_
          refine am_if (ty := 66) (tn := 45) rfl (by decide) rfl rfl (fun (h_6 : nI wh < 0) => ?_) (fun (h_6 : ¬ (nI wh < 0)) => ?_)
          · have h_6 : wh < 0 := (am_nlt0 (by omega)).mp h_6
            exact absurd h_6 (Nat.not_lt_zero _)
          have h_6 : ¬ (wh < 0) := fun z => h_6 ((am_nlt0 (by omega)).mpr z)
          refine am_run 2 (pc' := 48) (ls' := [some (.ref 77), some (.int (nI wh))]) (st' := [.int (nI 8), .int (nI wh)]) (σ' := σ) rfl ?_
          refine am_ic (ty := 51) (tn := 66) rfl (by decide) rfl rfl (fun (h_7 : nI wh < nI 8) => ?_) (fun (h_7 : ¬ (nI wh < nI 8)) => ?_)
          rotate_left
          · have h_7 : ¬ (wh < 8) := fun z => h_7 ((nI_ltI (by omega) (by omega)).mpr z)
            omega
          have h_7 : wh < 8 := (nI_ltI (by omega) (by omega)).mp h_7
          refine am_run 2 (pc' := 55) (ls' := [some (.ref 77), some (.int (nI wh))]) (st' := [.int (σ.1 77 0)]) (σ' := σ) rfl ?_
          refine am_top (v' := nI (P + 256 * A)) o0 ?_
          refine am_run 4 (pc' := 59) (ls' := [some (.ref 77), some (.int (nI wh))]) (st' := [.int (((nI (P + 256 * A)) >>> ((nI wh) &&& 31)) &&& nI 1)]) (σ' := σ) rfl ?_
          refine am_top (v' := nI (P / 2 ^ wh % 2)) (by rw [nx_shr (by omega) (by omega), show nI 1 = nI (2 - 1) from rfl, nx_mask (k := 1) _ rfl]; congr 1; rw [bit_v, bit_v, pq_bit hP, if_pos (by omega)]) ?_
          refine am_if (ty := 66) (tn := 62) rfl (by decide) rfl rfl (fun (h_8 : nI (P / 2 ^ wh % 2) = 0) => ?_) (fun (h_8 : ¬ (nI (P / 2 ^ wh % 2) = 0)) => ?_)
          rotate_left
          · have h_8 : ¬ (P / 2 ^ wh % 2 = 0) := fun z => h_8 ((am_n0 (by omega)).mpr z)
            omega
          have h_8 : P / 2 ^ wh % 2 = 0 := (am_n0 (by omega)).mp h_8
          refine am_run 1 (pc' := 67) (ls' := [some (.ref 77), some (.int (nI wh))]) (st' := [.int (nI 0)]) (σ' := σ) rfl ?_
          refine am_retz rfl rfl (by decide) ?_
          exact h0 (by rw [hsh]; exact hb)
    · skip
      refine am_enter' (M := M_X3_shows) rfl rfl rfl (by omega) (ls := [some (.ref 77), some (.int (nI wh))]) rfl (fun d' hd' => ?_)
      refine am_run 2 (pc' := 3) (ls' := [some (.ref 77), some (.int (nI wh))]) (st' := [.int (nI 9), .int (nI wh)]) (σ' := σ) rfl ?_
      refine am_ic (ty := 6) (tn := 11) rfl (by decide) rfl rfl (fun (h_1 : nI wh = nI 9) => ?_) (fun (h_1 : ¬ (nI wh = nI 9)) => ?_)
      · have h_1 : wh = 9 := (nI_eq (by omega) (by omega)).mp h_1
        omega
      have h_1 : ¬ (wh = 9) := fun z => h_1 ((nI_eq (by omega) (by omega)).mpr z)
      refine am_run 1 (pc' := 12) (ls' := [some (.ref 77), some (.int (nI wh))]) (st' := [.ref 77]) (σ' := σ) rfl ?_
      refine am_invv (y := 52) (b := 77) (as := []) (rest := []) rfl rfl rfl rfl rfl rfl rfl (Nat.le_of_ble_eq_true rfl) ?_
      refine am_enter' rfl rfl rfl (by omega) (ls := [some (.ref 77)]) rfl (fun d_2 hd_2 => ?_)
      refine am_run 2 (pc' := 4) (ls' := [some (.ref 77)]) (st' := [.int (σ.1 77 1)]) (σ' := σ) rfl ?_
      refine am_top (v' := nI w) o1 ?_
      refine am_if (ty := 11) (tn := 7) rfl (by decide) rfl rfl (fun (h_3 : nI w = 0) => ?_) (fun (h_3 : ¬ (nI w = 0)) => ?_)
      · have h_3 : w = 0 := (am_n0 (by omega)).mp h_3
        omega
      have h_3 : ¬ (w = 0) := fun z => h_3 ((am_n0 (by omega)).mpr z)
      refine am_run 2 (pc' := 12) (ls' := [some (.ref 77)]) (st' := [.int (nI 1)]) (σ' := σ) rfl ?_
      refine am_retz rfl rfl (by decide) ?_
      show am_G _ M_X3_shows _ 15 [some (.ref 77), some (.int (nI wh))] [.int (nI 1)] σ
      refine am_if (ty := 20) (tn := 18) rfl (by decide) rfl rfl (fun (h_4 : nI 1 = 0) => ?_) (fun (h_4 : ¬ (nI 1 = 0)) => ?_)
      · exact absurd h_4 (by decide)
      refine am_run 1 (pc' := 19) (ls' := [some (.ref 77), some (.int (nI wh))]) (st' := [.int (nI 0)]) (σ' := σ) rfl ?_
      refine am_retz rfl rfl (by decide) ?_
      exact h0 (by unfold shw; simp [*])
set_option maxRecDepth 10000 in
set_option maxHeartbeats 2000000 in
theorem c_sought1 {d : Nat} (hd : 2 ≤ d) {σ : am_M} {wh P A w c1 nx rd : Nat} (hwh : wh ≤ 9) (hP : P < 256) (hnx : nx < 1048576) (i42 : σ.1 0 42 = nI P) (i44 : σ.1 0 44 = nI nx) {Q : am_Q} (h1 : shw wh (P, A, 0, c1, nx, rd) = true → Q (some (.int (nI 1))) σ) (h0 : shw wh (P, A, 0, c1, nx, rd) = false → Q (some (.int (nI 0))) σ) : am_C d 247 [.ref 0, .int (nI wh), .int (nI 1)] σ Q := by
  refine am_enter' (M := M_X10_isSought) rfl rfl rfl (by omega) (ls := [some (.ref 0), some (.int (nI wh)), some (.int (nI 1))]) rfl (fun d' hd' => ?_)
  refine am_run 2 (pc' := 3) (ls' := [some (.ref 0), some (.int (nI wh)), some (.int (nI 1))]) (st' := [.int (nI 9), .int (nI wh)]) (σ' := σ) rfl ?_
  refine am_ic (ty := 6) (tn := 16) rfl (by decide) rfl rfl (fun (h_1 : nI wh = nI 9) => ?_) (fun (h_1 : ¬ (nI wh = nI 9)) => ?_)
  · have h_1 : wh = 9 := (nI_eq (by omega) (by omega)).mp h_1
    refine am_run 1 (pc' := 7) (ls' := [some (.ref 0), some (.int (nI wh)), some (.int (nI 1))]) (st' := [.int (nI 1)]) (σ' := σ) rfl ?_
    refine am_if (ty := 10) (tn := 14) rfl (by decide) rfl rfl (fun (h_2 : nI 1 = 0) => ?_) (fun (h_2 : ¬ (nI 1 = 0)) => ?_)
    · exact absurd h_2 (by decide)
    refine am_run 1 (pc' := 15) (ls' := [some (.ref 0), some (.int (nI wh)), some (.int (nI 1))]) (st' := [.int (nI 0)]) (σ' := σ) rfl ?_
    refine am_retz rfl rfl (by decide) ?_
    exact h0 (by unfold shw; simp [*])
  · have h_1 : ¬ (wh = 9) := fun z => h_1 ((nI_eq (by omega) (by omega)).mpr z)
    refine am_run 1 (pc' := 17) (ls' := [some (.ref 0), some (.int (nI wh)), some (.int (nI 1))]) (st' := [.int (nI 1)]) (σ' := σ) rfl ?_
    refine am_if (ty := 51) (tn := 20) rfl (by decide) rfl rfl (fun (h_3 : nI 1 = 0) => ?_) (fun (h_3 : ¬ (nI 1 = 0)) => ?_)
    · exact absurd h_3 (by decide)
    refine am_run 2 (pc' := 23) (ls' := [some (.ref 0), some (.int (nI wh)), some (.int (nI 1))]) (st' := [.int (nI 8), .int (nI wh)]) (σ' := σ) rfl ?_
    refine am_ic (ty := 26) (tn := 36) rfl (by decide) rfl rfl (fun (h_4 : nI wh = nI 8) => ?_) (fun (h_4 : ¬ (nI wh = nI 8)) => ?_)
    · have h_4 : wh = 8 := (nI_eq (by omega) (by omega)).mp h_4
      refine am_run 2 (pc' := 30) (ls' := [some (.ref 0), some (.int (nI wh)), some (.int (nI 1))]) (st' := [.int (σ.1 0 44)]) (σ' := σ) rfl ?_
      refine am_top (v' := nI nx) i44 ?_
      refine am_if (ty := 33) (tn := 51) rfl (by decide) rfl rfl (fun (h_5 : nI nx = 0) => ?_) (fun (h_5 : ¬ (nI nx = 0)) => ?_)
      · have h_5 : nx = 0 := (am_n0 (by omega)).mp h_5
        refine am_run 3 (pc' := 52) (ls' := [some (.ref 0), some (.int (nI wh)), some (.int (nI 1))]) (st' := [.int (nI 1)]) (σ' := σ) rfl ?_
        refine am_retz rfl rfl (by decide) ?_
        exact h1 (by unfold shw; simp [*])
      · have h_5 : ¬ (nx = 0) := fun z => h_5 ((am_n0 (by omega)).mpr z)
        refine am_run 1 (pc' := 52) (ls' := [some (.ref 0), some (.int (nI wh)), some (.int (nI 1))]) (st' := [.int (nI 0)]) (σ' := σ) rfl ?_
        refine am_retz rfl rfl (by decide) ?_
        exact h0 (by unfold shw; simp [*])
    · have h_4 : ¬ (wh = 8) := fun z => h_4 ((nI_eq (by omega) (by omega)).mpr z)
      refine am_run 2 (pc' := 40) (ls' := [some (.ref 0), some (.int (nI wh)), some (.int (nI 1))]) (st' := [.int (σ.1 0 42)]) (σ' := σ) rfl ?_
      refine am_top (v' := nI P) i42 ?_
      refine am_run 1 (pc' := 41) (ls' := [some (.ref 0), some (.int (nI wh)), some (.int (nI 1))]) (st' := [.int (nI wh), .int (nI P)]) (σ' := σ) rfl ?_
      refine am_invs (y := 149) (as := [.int (nI P), .int (nI wh)]) (rest := []) rfl rfl rfl rfl rfl rfl (Nat.le_of_ble_eq_true rfl) ?_
      refine c_m_has (by omega) (a := P) (s := wh) (by omega) (by omega) (fun hb => ?_) (fun hb => ?_)
      · show am_G _ M_X10_isSought _ 44 [some (.ref 0), some (.int (nI wh)), some (.int (nI 1))] [.int (nI 1)] σ
        refine am_if (ty := 51) (tn := 47) rfl (by decide) rfl rfl (fun (h_6 : nI 1 = 0) => ?_) (fun (h_6 : ¬ (nI 1 = 0)) => ?_)
        · exact absurd h_6 (by decide)
        refine am_run 2 (pc' := 52) (ls' := [some (.ref 0), some (.int (nI wh)), some (.int (nI 1))]) (st' := [.int (nI 1)]) (σ' := σ) rfl ?_
        refine am_retz rfl rfl (by decide) ?_
        exact h1 (by unfold shw; simp [*])
      · show am_G _ M_X10_isSought _ 44 [some (.ref 0), some (.int (nI wh)), some (.int (nI 1))] [.int (nI 0)] σ
        refine am_if (ty := 51) (tn := 47) rfl (by decide) rfl rfl (fun (h_7 : nI 0 = 0) => ?_) (fun (h_7 : ¬ (nI 0 = 0)) => ?_)
        rotate_left
        · exact absurd (by decide) h_7
        refine am_run 1 (pc' := 52) (ls' := [some (.ref 0), some (.int (nI wh)), some (.int (nI 1))]) (st' := [.int (nI 0)]) (σ' := σ) rfl ?_
        refine am_retz rfl rfl (by decide) ?_
        exact h0 (by unfold shw; simp [*])
set_option maxRecDepth 10000 in
set_option maxHeartbeats 2000000 in
theorem c_sought0 {d : Nat} (hd : 2 ≤ d) {σ : am_M} {wh P A w c1 nx rd : Nat} (hwh : wh ≤ 9) (hP : P < 256) (hnx : nx < 1048576) (hw0 : ¬ w = 0) {Q : am_Q} (h1 : shw wh (P, A, w, c1, nx, rd) = true → Q (some (.int (nI 1))) σ) (h0 : shw wh (P, A, w, c1, nx, rd) = false → Q (some (.int (nI 0))) σ) : am_C d 247 [.ref 0, .int (nI wh), .int (nI 0)] σ Q := by
  refine am_enter' (M := M_X10_isSought) rfl rfl rfl (by omega) (ls := [some (.ref 0), some (.int (nI wh)), some (.int (nI 0))]) rfl (fun d' hd' => ?_)
  refine am_run 2 (pc' := 3) (ls' := [some (.ref 0), some (.int (nI wh)), some (.int (nI 0))]) (st' := [.int (nI 9), .int (nI wh)]) (σ' := σ) rfl ?_
  refine am_ic (ty := 6) (tn := 16) rfl (by decide) rfl rfl (fun (h_1 : nI wh = nI 9) => ?_) (fun (h_1 : ¬ (nI wh = nI 9)) => ?_)
  · have h_1 : wh = 9 := (nI_eq (by omega) (by omega)).mp h_1
    refine am_run 1 (pc' := 7) (ls' := [some (.ref 0), some (.int (nI wh)), some (.int (nI 0))]) (st' := [.int (nI 0)]) (σ' := σ) rfl ?_
    refine am_if (ty := 10) (tn := 14) rfl (by decide) rfl rfl (fun (h_2 : nI 0 = 0) => ?_) (fun (h_2 : ¬ (nI 0 = 0)) => ?_)
    rotate_left
    · exact absurd (by decide) h_2
    refine am_run 2 (pc' := 15) (ls' := [some (.ref 0), some (.int (nI wh)), some (.int (nI 0))]) (st' := [.int (nI 1)]) (σ' := σ) rfl ?_
    refine am_retz rfl rfl (by decide) ?_
    exact h1 (by unfold shw; simp [*])
  · have h_1 : ¬ (wh = 9) := fun z => h_1 ((nI_eq (by omega) (by omega)).mpr z)
    refine am_run 1 (pc' := 17) (ls' := [some (.ref 0), some (.int (nI wh)), some (.int (nI 0))]) (st' := [.int (nI 0)]) (σ' := σ) rfl ?_
    refine am_if (ty := 51) (tn := 20) rfl (by decide) rfl rfl (fun (h_3 : nI 0 = 0) => ?_) (fun (h_3 : ¬ (nI 0 = 0)) => ?_)
    rotate_left
    · exact absurd (by decide) h_3
    refine am_run 1 (pc' := 52) (ls' := [some (.ref 0), some (.int (nI wh)), some (.int (nI 0))]) (st' := [.int (nI 0)]) (σ' := σ) rfl ?_
    refine am_retz rfl rfl (by decide) ?_
    exact h0 (by unfold shw; simp [*])
set_option maxRecDepth 10000 in
set_option maxHeartbeats 2000000 in
theorem c_numberOf_loop {d : Nat} {σ : am_M} {c a st : Nat} {f h : Nat → Nat} (hT : TM σ c f h) (ha : a ≤ 1048576) {Q : am_Q} (h1 : fnd f z0 a 0 c < c → Q (some (.int (nI (fnd f z0 a 0 c)))) σ) (h2 : fnd f z0 a 0 c = c → Q (some (.int (nI c))) (am_wr (am_wr (am_wr σ 32 c (nI a)) 33 c (nI st)) 0 49 (nI (c + 1)))) : ∀ (m k : Nat), k + m = c → (∀ k', k' < k → ¬ (f k' = a ∧ z0 k' = 0)) → am_G d M_X10_numberOf Q 2 [some (.ref 0), some (.int (nI a)), some (.int (nI st)), some (.int (nI k))] [] σ
  | 0, k, hm, hk => by
    obtain ⟨t1, t3, t5⟩ := id hT
    have e : k = c := by omega
    subst e
    have en := fnd_no k hk
    refine am_run 3 (pc' := 7) (ls' := [some (.ref 0), some (.int (nI a)), some (.int (nI st)), some (.int (nI k))]) (st' := [.int (σ.1 0 49), .int (nI k)]) (σ' := σ) rfl ?_
    refine am_top (v' := nI k) t3 ?_
    refine am_ic (ty := 10) (tn := 28) rfl (by decide) rfl rfl (fun (h_1 : nI k < nI k) => ?_) (fun (h_1 : ¬ (nI k < nI k)) => ?_)
    · have h_1 : k < k := (nI_ltI (by omega) (by omega)).mp h_1
      omega
    have h_1 : ¬ (k < k) := fun z => h_1 ((nI_ltI (by omega) (by omega)).mpr z)
    refine am_run 2 (pc' := 32) (ls' := [some (.ref 0), some (.int (nI a)), some (.int (nI st)), some (.int (nI k))]) (st' := [.int (σ.1 0 49)]) (σ' := σ) rfl ?_
    refine am_top (v' := nI k) t3 ?_
    refine am_run 1 (pc' := 34) (ls' := [some (.ref 0), some (.int (nI a)), some (.int (nI st)), some (.int (nI k))]) (st' := [.int (nI 100), .int (nI k)]) (σ' := σ) rfl ?_
    refine am_ic (ty := 67) (tn := 37) rfl (by decide) rfl rfl (fun (h_2 : nI 100 < nI k) => ?_) (fun (h_2 : ¬ (nI 100 < nI k)) => ?_)
    · have h_2 : 100 < k := (nI_ltI (by omega) (by omega)).mp h_2
      omega
    have h_2 : ¬ (100 < k) := fun z => h_2 ((nI_ltI (by omega) (by omega)).mpr z)
    refine am_run 4 (pc' := 45) (ls' := [some (.ref 0), some (.int (nI a)), some (.int (nI st)), some (.int (nI k))]) (st' := [.int (σ.1 0 49), .ref 32]) (σ' := σ) rfl ?_
    refine am_top (v' := nI k) t3 ?_
    refine am_run 1 (pc' := 46) (ls' := [some (.ref 0), some (.int (nI a)), some (.int (nI st)), some (.int (nI k))]) (st' := [.int (nI a), .int (nI k), .ref 32]) (σ' := σ) rfl ?_
    refine am_iastN (n := 101) rfl rfl rfl (by omega) (by decide) ?_
    refine am_run 4 (pc' := 55) (ls' := [some (.ref 0), some (.int (nI a)), some (.int (nI st)), some (.int (nI k))]) (st' := [.int (σ.1 0 49), .ref 33]) (σ' := (am_wr σ 32 k (nI a))) rfl ?_
    refine am_top (v' := nI k) t3 ?_
    refine am_run 1 (pc' := 56) (ls' := [some (.ref 0), some (.int (nI a)), some (.int (nI st)), some (.int (nI k))]) (st' := [.int (nI st), .int (nI k), .ref 33]) (σ' := (am_wr σ 32 k (nI a))) rfl ?_
    refine am_iastN (n := 101) rfl rfl rfl (by omega) (by decide) ?_
    refine am_run 3 (pc' := 62) (ls' := [some (.ref 0), some (.int (nI a)), some (.int (nI st)), some (.int (nI k))]) (st' := [.int (σ.1 0 49), .ref 0]) (σ' := (am_wr (am_wr σ 32 k (nI a)) 33 k (nI st))) rfl ?_
    refine am_top (v' := nI k) t3 ?_
    refine am_run 2 (pc' := 64) (ls' := [some (.ref 0), some (.int (nI a)), some (.int (nI st)), some (.int (nI k))]) (st' := [.int (nI k + nI 1), .ref 0]) (σ' := (am_wr (am_wr σ 32 k (nI a)) 33 k (nI st))) rfl ?_
    refine am_top (v' := nI (k + 1)) (nI_add _ _) ?_
    refine am_run 5 (pc' := 73) (ls' := [some (.ref 0), some (.int (nI a)), some (.int (nI st)), some (.int (nI k))]) (st' := [.int (nI (k + 1) - nI 1)]) (σ' := (am_wr (am_wr (am_wr σ 32 k (nI a)) 33 k (nI st)) 0 49 (nI (k + 1)))) rfl ?_
    refine am_top (v' := nI k) (nx_sub (by omega)) ?_
    refine am_reti rfl rfl ?_
    exact h2 en
  | m + 1, k, hm, hk => by
    obtain ⟨t1, t3, t5⟩ := id hT
    obtain ⟨f1, f2, f3, f4⟩ := t5 k (by omega)
    refine am_run 3 (pc' := 7) (ls' := [some (.ref 0), some (.int (nI a)), some (.int (nI st)), some (.int (nI k))]) (st' := [.int (σ.1 0 49), .int (nI k)]) (σ' := σ) rfl ?_
    refine am_top (v' := nI c) t3 ?_
    refine am_ic (ty := 10) (tn := 28) rfl (by decide) rfl rfl (fun (h_1 : nI k < nI c) => ?_) (fun (h_1 : ¬ (nI k < nI c)) => ?_)
    rotate_left
    · have h_1 : ¬ (k < c) := fun z => h_1 ((nI_ltI (by omega) (by omega)).mpr z)
      omega
    have h_1 : k < c := (nI_ltI (by omega) (by omega)).mp h_1
    refine am_run 3 (pc' := 15) (ls' := [some (.ref 0), some (.int (nI a)), some (.int (nI st)), some (.int (nI k))]) (st' := [.int (nI k), .ref 32]) (σ' := σ) rfl ?_
    refine am_ialdN (n := 101) (v := nI (f k)) rfl rfl rfl (by omega) f1 (by decide) ?_
    refine am_run 1 (pc' := 17) (ls' := [some (.ref 0), some (.int (nI a)), some (.int (nI st)), some (.int (nI k))]) (st' := [.int (nI a), .int (nI (f k))]) (σ' := σ) rfl ?_
    refine am_ic (ty := 20) (tn := 22) rfl (by decide) rfl rfl (fun (h_2 : nI (f k) = nI a) => ?_) (fun (h_2 : ¬ (nI (f k) = nI a)) => ?_)
    · have h_2 : f k = a := (nI_eq (by omega) (by omega)).mp h_2
      refine am_run 1 (pc' := 21) (ls' := [some (.ref 0), some (.int (nI a)), some (.int (nI st)), some (.int (nI k))]) (st' := [.int (nI k)]) (σ' := σ) rfl ?_
      refine am_reti rfl rfl ?_
      have ey := fnd_yes (f := f) (g := z0) (a := a) (b := 0) (k := k) ⟨by assumption, rfl⟩ hk c (by omega)
      have := h1 (by omega)
      rw [ey] at this
      exact this
    · have h_2 : ¬ (f k = a) := fun z => h_2 ((nI_eq (by omega) (by omega)).mpr z)
      refine am_run 1 (pc' := 25) (ls' := [some (.ref 0), some (.int (nI a)), some (.int (nI st)), some (.int (nI k + nI 1))]) (st' := []) (σ' := σ) rfl ?_
      refine am_ls (ls' := [some (.ref 0), some (.int (nI a)), some (.int (nI st)), some (.int (nI (k + 1)))]) (by rw [nI_add]) ?_
      refine am_run 1 (pc' := 2) (ls' := [some (.ref 0), some (.int (nI a)), some (.int (nI st)), some (.int (nI (k + 1)))]) (st' := []) (σ' := σ) rfl ?_
      refine c_numberOf_loop hT ha h1 h2 m (k + 1) (by omega) (fun k' hk' => ?_)
      by_cases e : k' = k
      · subst e; intro z; exact absurd z.1 (by assumption)
      · exact hk k' (by omega)
set_option maxRecDepth 10000 in
set_option maxHeartbeats 2000000 in
theorem c_numberOf {d : Nat} (hd : 1 ≤ d) {σ : am_M} {c a st : Nat} {f h : Nat → Nat} (hT : TM σ c f h) (ha : a ≤ 1048576) {Q : am_Q} (h1 : fnd f z0 a 0 c < c → Q (some (.int (nI (fnd f z0 a 0 c)))) σ) (h2 : fnd f z0 a 0 c = c → Q (some (.int (nI c))) (am_wr (am_wr (am_wr σ 32 c (nI a)) 33 c (nI st)) 0 49 (nI (c + 1)))) : am_C d 242 [.ref 0, .int (nI a), .int (nI st)] σ Q := by
  refine am_enter' (M := M_X10_numberOf) rfl rfl rfl (by omega) (ls := [some (.ref 0), some (.int (nI a)), some (.int (nI st)), none]) rfl (fun d' hd' => ?_)
  refine am_run 2 (pc' := 2) (ls' := [some (.ref 0), some (.int (nI a)), some (.int (nI st)), some (.int (nI 0))]) (st' := []) (σ' := σ) rfl ?_
  exact c_numberOf_loop hT ha h1 h2 c 0 (by omega) (fun _ z => absurd z (Nat.not_lt_zero _))

/-! the reference's reading: its state, what it leaves as it was, a segment in its memory -/
def RB (σ : am_M) (L : Nat) (tx : Nat → Nat) (pos n kk e lev tr nw : Nat) (O : Nat → Nat) : Prop := (L ≤ 120 ∧ σ.1 0 1 = nI L ∧ ∀ i, i < L → tx i < 256 ∧ σ.1 1 i = nI (tx i)) ∧ pos ≤ L ∧ σ.1 0 21 = nI pos ∧ σ.1 2 2 = nI n ∧ n ≤ 60 ∧ σ.1 3 2 = nI kk ∧ kk ≤ 20 ∧ σ.1 0 35 = nI e ∧ e ≤ n ∧ σ.1 0 24 = nI lev ∧ lev ≤ 12 ∧ σ.1 0 32 = nI tr ∧ σ.1 0 33 = nI nw ∧ nw ≤ 3 ∧ ∀ y, y < nw → σ.1 27 y = nI (O y) ∧ O y < 8
/-- cells that reading changes -/
def rdc (c : Nat) : Prop := c = 0 ∨ c = 2 ∨ c = 3 ∨ (5 ≤ c ∧ c ≤ 12) ∨ c = 15 ∨ (20 ≤ c ∧ c ≤ 27)
def RF (σ0 σ : am_M) (n e lev nw : Nat) : Prop := (∀ c, ¬ rdc c → σ.1 c = σ0.1 c) ∧ σ.2 = σ0.2 ∧ (∀ k, k ≠ 21 → k ≠ 22 → k ≠ 23 → k ≠ 24 → k ≠ 32 → k ≠ 33 → k ≠ 35 → σ.1 0 k = σ0.1 0 k) ∧ (∀ k, k ≠ 2 → σ.1 2 k = σ0.1 2 k ∧ σ.1 3 k = σ0.1 3 k) ∧ (∀ c x, (c = 5 ∨ c = 6 ∨ c = 7 ∨ c = 8 ∨ c = 10 ∨ c = 12 ∨ c = 15) → x < 120 + n → σ.1 c x = σ0.1 c x) ∧ (∀ x, x < 3 * (120 + n) → σ.1 11 x = σ0.1 11 x) ∧ (∀ x, x < 120 + e → σ.1 9 x = σ0.1 9 x) ∧ (∀ c x, 20 ≤ c → c ≤ 26 → x < lev → σ.1 c x = σ0.1 c x) ∧ ∀ x, x < nw → σ.1 27 x = σ0.1 27 x
theorem RF.rf (σ : am_M) (n e lev nw : Nat) : RF σ σ n e lev nw := ⟨fun _ _ => rfl, rfl, fun _ _ _ _ _ _ _ _ => rfl, fun _ _ => ⟨rfl, rfl⟩, fun _ _ _ _ => rfl, fun _ _ => rfl, fun _ _ => rfl, fun _ _ _ _ _ => rfl, fun _ _ => rfl⟩
theorem RF.tr {σ0 σ1 σ2 : am_M} {n e lev nw n' e' lev' nw' : Nat} (h : RF σ0 σ1 n e lev nw) (h' : RF σ1 σ2 n' e' lev' nw') (hn : n ≤ n') (he : e ≤ e') (hl : lev ≤ lev') (hw : nw ≤ nw') : RF σ0 σ2 n e lev nw := by
  obtain ⟨a1, a2, a3, a4, a5, a6, a7, a8, a9⟩ := h
  obtain ⟨b1, b2, b3, b4, b5, b6, b7, b8, b9⟩ := h'
  exact ⟨fun c q => (b1 c q).trans (a1 c q), b2.trans a2, fun k q1 q2 q3 q4 q5 q6 q7 => (b3 k q1 q2 q3 q4 q5 q6 q7).trans (a3 k q1 q2 q3 q4 q5 q6 q7), fun k q => ⟨(b4 k q).1.trans (a4 k q).1, (b4 k q).2.trans (a4 k q).2⟩, fun c x q1 q2 => (b5 c x q1 (by omega)).trans (a5 c x q1 q2), fun x q => (b6 x (by omega)).trans (a6 x q), fun x q => (b7 x (by omega)).trans (a7 x q), fun c x q1 q2 q3 => (b8 c x q1 q2 (by omega)).trans (a8 c x q1 q2 q3), fun x q => (b9 x (by omega)).trans (a9 x q)⟩
/-- one write, outside of what must stay -/
theorem RF.wr {σ : am_M} {n e lev nw c k : Nat} (x : Int32) (h : (c = 0 ∧ (k = 21 ∨ k = 22 ∨ k = 23 ∨ k = 24 ∨ k = 32 ∨ k = 33 ∨ k = 35)) ∨ ((c = 2 ∨ c = 3) ∧ k = 2) ∨ ((c = 5 ∨ c = 6 ∨ c = 7 ∨ c = 8 ∨ c = 10 ∨ c = 12 ∨ c = 15) ∧ 120 + n ≤ k) ∨ (c = 11 ∧ 3 * (120 + n) ≤ k) ∨ (c = 9 ∧ 120 + e ≤ k) ∨ (20 ≤ c ∧ c ≤ 26 ∧ lev ≤ k) ∨ (c = 27 ∧ nw ≤ k)) : RF σ (am_wr σ c k x) n e lev nw := by
  have hrd : ∀ c' k', ¬ (c' = c ∧ k' = k) → (am_wr σ c k x).1 c' k' = σ.1 c' k' := fun c' k' q => by rw [am_rd1, if_neg q]
  refine ⟨fun c' q => ?_, rfl, fun k' q1 q2 q3 q4 q5 q6 q7 => hrd 0 k' (by omega), fun k' q => ⟨hrd 2 k' (by omega), hrd 3 k' (by omega)⟩, fun c' x' q1 q2 => hrd c' x' (by omega), fun x' q => hrd 11 x' (by omega), fun x' q => hrd 9 x' (by omega), fun c' x' q1 q2 q3 => hrd c' x' (by omega), fun x' q => hrd 27 x' (by omega)⟩
  exact am_wr_ne _ (fun z => q (by unfold rdc; omega))
/-- a statement in the spare program -/
def MR1 (σ : am_M) (p g : Nat → Nat → Nat) (i : Nat) : Prop := σ.1 5 (120 + i) = nI (p 0 i) ∧ σ.1 6 (120 + i) = oI (p 1 i) ∧ σ.1 7 (120 + i) = oI (p 2 i) ∧ σ.1 8 (120 + i) = oI (p 3 i) ∧ σ.1 10 (120 + i) = nI (g 0 i) ∧ (∀ y, y < g 0 i → σ.1 11 (3 * (120 + i) + y) = nI (g (7 + y) i)) ∧ σ.1 12 (120 + i) = (if isP (p 0 i) = true then nI (g 6 i) else -1)
def MSG (σ : am_M) (p g : Nat → Nat → Nat) (a b r : Nat) : Prop := ∀ i, a ≤ i → i < b → MR1 σ p g i ∧ (i ≠ r → σ.1 15 (120 + i) = oI (g 1 i)) ∧ σ.1 9 (120 + g 2 i) = nI i
theorem MR1.keep {σ σ' : am_M} {p g : Nat → Nat → Nat} {i : Nat} (h : MR1 σ p g i) (hk : ∀ c, (c = 5 ∨ c = 6 ∨ c = 7 ∨ c = 8 ∨ c = 10 ∨ c = 12) → σ'.1 c (120 + i) = σ.1 c (120 + i)) (h11 : ∀ y, y < 3 → σ'.1 11 (3 * (120 + i) + y) = σ.1 11 (3 * (120 + i) + y)) (h3 : g 0 i ≤ 3) : MR1 σ' p g i := by
  obtain ⟨a1, a2, a3, a4, a5, a6, a7⟩ := h
  exact ⟨by rw [hk 5 (by omega)]; exact a1, by rw [hk 6 (by omega)]; exact a2, by rw [hk 7 (by omega)]; exact a3, by rw [hk 8 (by omega)]; exact a4, by rw [hk 10 (by omega)]; exact a5, fun y hy => by rw [h11 y (by omega)]; exact a6 y hy, by rw [hk 12 (by omega)]; exact a7⟩
theorem MSG.keep {σ σ' : am_M} {p g : Nat → Nat → Nat} {a b r n e lev nw e0 D : Nat} {O : Nat → Nat} (h : MSG σ p g a b r) (hF : RF σ σ' n e lev nw) (hb : b ≤ n) (hS : SG p g a b r e0 D O) (he : e0 + (b - a) ≤ e) : MSG σ' p g a b r := by
  intro i i1 i2
  obtain ⟨m1, m2, m3⟩ := h i i1 i2
  obtain ⟨-, -, -, -, f5, f6, f7, -⟩ := hF
  obtain ⟨⟨hT, -⟩, -, -, r2⟩ := hS.2.2.2.2.2.2.2.2.2 i i1 i2
  exact ⟨m1.keep (fun c hc => f5 c _ (by omega) (by omega)) (fun y hy => f6 _ (by omega)) hT.2.2.2.2.2.2.2.2.2.1, fun hne => by rw [f5 15 _ (by omega) (by omega)]; exact m2 hne, by rw [f7 _ (by omega)]; exact m3⟩
theorem MR1.congr {σ : am_M} {p g p' g' : Nat → Nat → Nat} {i : Nat} (h : MR1 σ p g i) (hp : ∀ w, p' w i = p w i) (hg : ∀ w, w ≠ 1 → g' w i = g w i) : MR1 σ p' g' i := by
  unfold MR1
  rw [hp 0, hp 1, hp 2, hp 3, hg 0 (by decide), hg 6 (by decide)]
  obtain ⟨a1, a2, a3, a4, a5, a6, a7⟩ := h
  exact ⟨a1, a2, a3, a4, a5, fun y hy => by rw [hg (7 + y) (by omega)]; exact a6 y hy, a7⟩
theorem MSG.congr {σ : am_M} {p g p' g' : Nat → Nat → Nat} {a b r : Nat} (h : MSG σ p g a b r) (hp : ∀ w j, a ≤ j → j < b → p' w j = p w j) (hg : ∀ w j, a ≤ j → j < b → w ≠ 1 → g' w j = g w j) (h1 : ∀ j, a ≤ j → j < b → j ≠ r → g' 1 j = g 1 j) : MSG σ p' g' a b r := fun i i1 i2 => by
  obtain ⟨m1, m2, m3⟩ := h i i1 i2
  exact ⟨m1.congr (fun w => hp w i i1 i2) (fun w hw => hg w i i1 i2 hw), fun hne => by rw [h1 i i1 i2 hne]; exact m2 hne, by rw [hg 2 i i1 i2 (by decide)]; exact m3⟩
section RBs
variable {σ : am_M} {L pos n kk e lev tr nw : Nat} {tx O : Nat → Nat}
/-- a write that the basic state doesn't look at -/
theorem RB.wr (h : RB σ L tx pos n kk e lev tr nw O) {c k : Nat} (x : Int32) (hc : (c = 0 ∧ (k = 22 ∨ k = 23)) ∨ (5 ≤ c ∧ c ≤ 26) ∨ (c = 27 ∧ nw ≤ k)) : RB (am_wr σ c k x) L tx pos n kk e lev tr nw O := by
  have hrd : ∀ c' k', ¬ (c' = c ∧ k' = k) → (am_wr σ c k x).1 c' k' = σ.1 c' k' := fun c' k' q => by rw [am_rd1, if_neg q]
  obtain ⟨⟨t1, t2, t3⟩, a1, a2, a3, a4, a5, a6, a7, a8, a9, a10, a11, a12, a13, a14⟩ := h
  exact ⟨⟨t1, by rw [hrd 0 1 (by omega)]; exact t2, fun i hi => by rw [hrd 1 i (by omega)]; exact t3 i hi⟩, a1, by rw [hrd 0 21 (by omega)]; exact a2, by rw [hrd 2 2 (by omega)]; exact a3, a4, by rw [hrd 3 2 (by omega)]; exact a5, a6, by rw [hrd 0 35 (by omega)]; exact a7, a8, by rw [hrd 0 24 (by omega)]; exact a9, a10, by rw [hrd 0 32 (by omega)]; exact a11, by rw [hrd 0 33 (by omega)]; exact a12, a13, fun y hy => by rw [hrd 27 y (by omega)]; exact a14 y hy⟩
theorem RB.at (h : RB σ L tx pos n kk e lev tr nw O) {q : Nat} (hq : q ≤ L) : RB (am_wr σ 0 21 (nI q)) L tx q n kk e lev tr nw O := by
  have hrd : ∀ c' k', ¬ (c' = 0 ∧ k' = 21) → (am_wr σ 0 21 (nI q)).1 c' k' = σ.1 c' k' := fun c' k' q => by rw [am_rd1, if_neg q]
  obtain ⟨⟨t1, t2, t3⟩, a1, a2, a3, a4, a5, a6, a7, a8, a9, a10, a11, a12, a13, a14⟩ := h
  exact ⟨⟨t1, by rw [hrd 0 1 (by omega)]; exact t2, fun i hi => by rw [hrd 1 i (by omega)]; exact t3 i hi⟩, hq, am_same _ _ _ _, by rw [hrd 2 2 (by omega)]; exact a3, a4, by rw [hrd 3 2 (by omega)]; exact a5, a6, by rw [hrd 0 35 (by omega)]; exact a7, a8, by rw [hrd 0 24 (by omega)]; exact a9, a10, by rw [hrd 0 32 (by omega)]; exact a11, by rw [hrd 0 33 (by omega)]; exact a12, a13, fun y hy => by rw [hrd 27 y (by omega)]; exact a14 y hy⟩
theorem RB.ended (h : RB σ L tx pos n kk e lev tr nw O) (he : e < n) : RB (am_wr σ 0 35 (nI (e + 1))) L tx pos n kk (e + 1) lev tr nw O := by
  have hrd : ∀ c' k', ¬ (c' = 0 ∧ k' = 35) → (am_wr σ 0 35 (nI (e + 1))).1 c' k' = σ.1 c' k' := fun c' k' q => by rw [am_rd1, if_neg q]
  obtain ⟨⟨t1, t2, t3⟩, a1, a2, a3, a4, a5, a6, a7, a8, a9, a10, a11, a12, a13, a14⟩ := h
  exact ⟨⟨t1, by rw [hrd 0 1 (by omega)]; exact t2, fun i hi => by rw [hrd 1 i (by omega)]; exact t3 i hi⟩, a1, by rw [hrd 0 21 (by omega)]; exact a2, by rw [hrd 2 2 (by omega)]; exact a3, a4, by rw [hrd 3 2 (by omega)]; exact a5, a6, am_same _ _ _ _, by omega, by rw [hrd 0 24 (by omega)]; exact a9, a10, by rw [hrd 0 32 (by omega)]; exact a11, by rw [hrd 0 33 (by omega)]; exact a12, a13, fun y hy => by rw [hrd 27 y (by omega)]; exact a14 y hy⟩
theorem RB.level (h : RB σ L tx pos n kk e lev tr nw O) {l : Nat} (hl : l ≤ 12) : RB (am_wr σ 0 24 (nI l)) L tx pos n kk e l tr nw O := by
  have hrd : ∀ c' k', ¬ (c' = 0 ∧ k' = 24) → (am_wr σ 0 24 (nI l)).1 c' k' = σ.1 c' k' := fun c' k' q => by rw [am_rd1, if_neg q]
  obtain ⟨⟨t1, t2, t3⟩, a1, a2, a3, a4, a5, a6, a7, a8, a9, a10, a11, a12, a13, a14⟩ := h
  exact ⟨⟨t1, by rw [hrd 0 1 (by omega)]; exact t2, fun i hi => by rw [hrd 1 i (by omega)]; exact t3 i hi⟩, a1, by rw [hrd 0 21 (by omega)]; exact a2, by rw [hrd 2 2 (by omega)]; exact a3, a4, by rw [hrd 3 2 (by omega)]; exact a5, a6, by rw [hrd 0 35 (by omega)]; exact a7, a8, am_same _ _ _ _, hl, by rw [hrd 0 32 (by omega)]; exact a11, by rw [hrd 0 33 (by omega)]; exact a12, a13, fun y hy => by rw [hrd 27 y (by omega)]; exact a14 y hy⟩
theorem RB.traps (h : RB σ L tx pos n kk e lev tr nw O) (t : Nat) : RB (am_wr σ 0 32 (nI t)) L tx pos n kk e lev t nw O := by
  have hrd : ∀ c' k', ¬ (c' = 0 ∧ k' = 32) → (am_wr σ 0 32 (nI t)).1 c' k' = σ.1 c' k' := fun c' k' q => by rw [am_rd1, if_neg q]
  obtain ⟨⟨t1, t2, t3⟩, a1, a2, a3, a4, a5, a6, a7, a8, a9, a10, a11, a12, a13, a14⟩ := h
  exact ⟨⟨t1, by rw [hrd 0 1 (by omega)]; exact t2, fun i hi => by rw [hrd 1 i (by omega)]; exact t3 i hi⟩, a1, by rw [hrd 0 21 (by omega)]; exact a2, by rw [hrd 2 2 (by omega)]; exact a3, a4, by rw [hrd 3 2 (by omega)]; exact a5, a6, by rw [hrd 0 35 (by omega)]; exact a7, a8, by rw [hrd 0 24 (by omega)]; exact a9, a10, am_same _ _ _ _, by rw [hrd 0 33 (by omega)]; exact a12, a13, fun y hy => by rw [hrd 27 y (by omega)]; exact a14 y hy⟩
/-- one local signal more (its number is already laid), or fewer -/
theorem RB.news (h : RB σ L tx pos n kk e lev tr nw O) {w : Nat} {O' : Nat → Nat} (hw : w ≤ 3) (hO : ∀ y, y < w → σ.1 27 y = nI (O' y) ∧ O' y < 8) : RB (am_wr σ 0 33 (nI w)) L tx pos n kk e lev tr w O' := by
  have hrd : ∀ c' k', ¬ (c' = 0 ∧ k' = 33) → (am_wr σ 0 33 (nI w)).1 c' k' = σ.1 c' k' := fun c' k' q => by rw [am_rd1, if_neg q]
  obtain ⟨⟨t1, t2, t3⟩, a1, a2, a3, a4, a5, a6, a7, a8, a9, a10, a11, a12, a13, a14⟩ := h
  exact ⟨⟨t1, by rw [hrd 0 1 (by omega)]; exact t2, fun i hi => by rw [hrd 1 i (by omega)]; exact t3 i hi⟩, a1, by rw [hrd 0 21 (by omega)]; exact a2, by rw [hrd 2 2 (by omega)]; exact a3, a4, by rw [hrd 3 2 (by omega)]; exact a5, a6, by rw [hrd 0 35 (by omega)]; exact a7, a8, by rw [hrd 0 24 (by omega)]; exact a9, a10, by rw [hrd 0 32 (by omega)]; exact a11, am_same _ _ _ _, hw, fun y hy => by rw [hrd 27 y (by omega)]; exact hO y hy⟩
/-- one statement more -/
theorem RB.nodes (h : RB σ L tx pos n kk e lev tr nw O) (hn : n < 60) : RB (am_wr σ 2 2 (nI (n + 1))) L tx pos (n + 1) kk e lev tr nw O := by
  have hrd : ∀ c' k', ¬ (c' = 2 ∧ k' = 2) → (am_wr σ 2 2 (nI (n + 1))).1 c' k' = σ.1 c' k' := fun c' k' q => by rw [am_rd1, if_neg q]
  obtain ⟨⟨t1, t2, t3⟩, a1, a2, a3, a4, a5, a6, a7, a8, a9, a10, a11, a12, a13, a14⟩ := h
  exact ⟨⟨t1, by rw [hrd 0 1 (by omega)]; exact t2, fun i hi => by rw [hrd 1 i (by omega)]; exact t3 i hi⟩, a1, by rw [hrd 0 21 (by omega)]; exact a2, am_same _ _ _ _, by omega, by rw [hrd 3 2 (by omega)]; exact a5, a6, by rw [hrd 0 35 (by omega)]; exact a7, by omega, by rw [hrd 0 24 (by omega)]; exact a9, a10, by rw [hrd 0 32 (by omega)]; exact a11, by rw [hrd 0 33 (by omega)]; exact a12, a13, fun y hy => by rw [hrd 27 y (by omega)]; exact a14 y hy⟩
theorem RB.rests (h : RB σ L tx pos n kk e lev tr nw O) (hk : kk < 20) : RB (am_wr σ 3 2 (nI (kk + 1))) L tx pos n (kk + 1) e lev tr nw O := by
  have hrd : ∀ c' k', ¬ (c' = 3 ∧ k' = 2) → (am_wr σ 3 2 (nI (kk + 1))).1 c' k' = σ.1 c' k' := fun c' k' q => by rw [am_rd1, if_neg q]
  obtain ⟨⟨t1, t2, t3⟩, a1, a2, a3, a4, a5, a6, a7, a8, a9, a10, a11, a12, a13, a14⟩ := h
  exact ⟨⟨t1, by rw [hrd 0 1 (by omega)]; exact t2, fun i hi => by rw [hrd 1 i (by omega)]; exact t3 i hi⟩, a1, by rw [hrd 0 21 (by omega)]; exact a2, by rw [hrd 2 2 (by omega)]; exact a3, a4, am_same _ _ _ _, by omega, by rw [hrd 0 35 (by omega)]; exact a7, a8, by rw [hrd 0 24 (by omega)]; exact a9, a10, by rw [hrd 0 32 (by omega)]; exact a11, by rw [hrd 0 33 (by omega)]; exact a12, a13, fun y hy => by rw [hrd 27 y (by omega)]; exact a14 y hy⟩
end RBs

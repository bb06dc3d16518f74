/-! the goals of the automaton's simulation -/
theorem am_ne2 {σ : am_M} {c k c' k' : Nat} (x : Int32) (h : ¬ (c' = c ∧ k' = k)) : (am_wr σ c k x).1 c' k' = σ.1 c' k' := by rw [am_rd1, if_neg h]
/-- what a token must come to -/
def TPk (d : Nat) (Q : am_Q) (q : Nat) : am_Q := fun v σ' => σ'.1 0 21 = nI q ∧ ((v = some (.int (nI 0)) ∧ HG d Q (am_wr σ' 0 21 (nI (q + 1)))) ∨ ∃ k, 1 ≤ k ∧ k ≤ 5 ∧ v = some (.int (nI k)) ∧ Q (some (.int (nI k))) σ')
theorem TPk.x {d : Nat} {Q : am_Q} {q : Nat} {v : Option Value} {σ' : am_M} (h : TPk d Q q v σ') : ∃ x, v = some (.int x) ∧ TPk d Q q v σ' := by
  obtain ⟨h1, h2⟩ := id h
  rcases h2 with ⟨h2, -⟩ | ⟨k, -, -, h2, -⟩
  · exact ⟨_, h2, h⟩
  · exact ⟨_, h2, h⟩
theorem TPk.flt {d : Nat} {Q : am_Q} {q k : Nat} {σ' : am_M} (h1 : σ'.1 0 21 = nI q) (hk : 1 ≤ k ∧ k ≤ 5) (h : Q (some (.int (nI k))) σ') : TPk d Q q (some (.int (nI k))) σ' := ⟨h1, Or.inr ⟨k, hk.1, hk.2, rfl, h⟩⟩
theorem TPk.ok {d : Nat} {Q : am_Q} {q : Nat} {σ' : am_M} (h1 : σ'.1 0 21 = nI q) (h : HG d Q (am_wr σ' 0 21 (nI (q + 1)))) : TPk d Q q (some (.int (nI 0))) σ' := ⟨h1, Or.inl ⟨rfl, h⟩⟩
/-- what stands behind a part; the next token is at q -/
def BH (d : Nat) (Q : am_Q) (L : Nat) (tx : Nat → Nat) (q lev : Nat) (σ : am_M) : Prop := (tk tx L q < 256 → ∀ d', 9 ≤ d' → am_C d' 172 [.ref 0, .int (nI (tk tx L q))] σ (TPk d Q q)) ∧ (tk tx L q = 256 → (lev = 0 → EW d Q σ) ∧ (lev ≠ 0 → Q (some (.int (nI 1))) σ))
/-- what follows a part that has just been read -/
def CT (d : Nat) (Q : am_Q) (L : Nat) (tx : Nat → Nat) (q lev r : Nat) (σ1 : am_M) : Prop := EPq (fun σb => σb.1 0 22 = nI 4 ∧ σb.1 0 24 = nI lev ∧ σb.1 0 21 = σ1.1 0 21 ∧ TXm σb L tx ∧ BH d Q L tx q lev (am_wr σb 0 21 (nI q))) σ1 r
theorem EPq.to {R R' : am_M → Prop} {σ : am_M} {r : Nat} (h : EPq R σ r) (hr : ∀ σ', R σ' → R' σ') : EPq R' σ r := fun d hd => am_C_to (h d hd) (fun _ σ' q => ⟨q.1, hr σ' q.2⟩)
theorem ERq.to {R R' : am_M → Prop} {σ : am_M} (h : ERq R σ) (hr : ∀ σ', R σ' → R' σ') : ERq R' σ := fun d hd => am_C_to (h d hd) (fun _ σ' q => ⟨q.1, hr σ' q.2⟩)
/-- a token's step from the loop's head -/
theorem hg_step {d : Nat} (hd : 12 ≤ d) {σ : am_M} {L q : Nat} {tx : Nat → Nat} (hT : TXm σ L tx) (h2 : q ≤ L) (h21 : σ.1 0 21 = nI q) {Q : am_Q} (h : tk tx L (lk tx L q) < 256 → am_C d 173 [.ref 0, .int (nI (tk tx L (lk tx L q)))] (am_wr σ 0 21 (nI (lk tx L q))) (TPk d Q (lk tx L q))) (he : tk tx L (lk tx L q) = 256 → EN d Q (am_wr σ 0 21 (nI (lk tx L q)))) : HG d Q σ := by
  have hk := (tkm hT (lk tx L q)).1
  by_cases hc : tk tx L (lk tx L q) = 256
  · exact hg_end (by omega) hT h2 h21 hc (he hc)
  · exact hg_tok (by omega) hT h2 h21 (by omega) (h (by omega))
/-- a part has been read -/
theorem hg_bh {d : Nat} (hd : 12 ≤ d) {σ : am_M} {L q lev : Nat} {tx : Nat → Nat} (hT : TXm σ L tx) (h2 : q ≤ L) (h21 : σ.1 0 21 = nI q) (h22 : σ.1 0 22 = nI 4) (h24 : σ.1 0 24 = nI lev) (hl : lev ≤ 12) {Q : am_Q} (h : BH d Q L tx (lk tx L q) lev (am_wr σ 0 21 (nI (lk tx L q)))) : HG d Q σ := by
  have e22 : (am_wr σ 0 21 (nI (lk tx L q))).1 0 22 = nI 4 := by rw [am_diff _ _ _ _ _ (by decide)]; exact h22
  have e24 : (am_wr σ 0 21 (nI (lk tx L q))).1 0 24 = nI lev := by rw [am_diff _ _ _ _ _ (by decide)]; exact h24
  refine hg_step hd hT h2 h21 (fun hc => ?_) (fun hc => ?_)
  · exact tok_4 (by omega) e22 (fun d' hd' => am_C_to (h.1 hc d' hd') (fun _ _ z => z.x))
  · obtain ⟨k1, k2⟩ := h.2 hc
    by_cases hz : lev = 0
    · rw [hz] at e24
      exact en_40 (by omega) e22 e24 (k1 hz)
    · obtain ⟨l, rfl⟩ : ∃ l, lev = l + 1 := ⟨lev - 1, by omega⟩
      exact en_4 (by omega) e22 e24 (by omega) (k2 hz)
/-- a step that ends a part -/
theorem CT.tp {d : Nat} (hd : 12 ≤ d) {σ1 : am_M} {L q lev r : Nat} {tx : Nat → Nat} {Q : am_Q} (hq : q < L) (h21 : σ1.1 0 21 = nI q) (hl : lev ≤ 12) (h : CT d Q L tx (lk tx L (q + 1)) lev r σ1) : EPq (TPk d Q q (some (.int (nI 0)))) σ1 r := by
  refine EPq.to h (fun σb hb => ?_)
  obtain ⟨b1, b2, b3, b4, b5⟩ := hb
  refine TPk.ok (b3.trans h21) ?_
  refine hg_bh (q := q + 1) hd (b4.at _) (by omega) (am_same _ _ _ _) (by rw [am_diff _ _ _ _ _ (by decide)]; exact b1) (by rw [am_diff _ _ _ _ _ (by decide)]; exact b2) hl ?_
  rw [am_wr_wr]
  exact b5
/-- a choice that no second block follows -/
theorem CT.pend {d : Nat} (hd : 12 ≤ d) {σ : am_M} {L q lev r e : Nat} {tx : Nat → Nat} {Q : am_Q} (hT : TXm σ L tx) (hq : q ≤ L) (h21 : σ.1 0 21 = nI q) (hl : lev ≤ 12) (h22 : σ.1 0 22 = nI 5) (h23 : σ.1 0 23 = nI r) (h35 : σ.1 0 35 = nI e) (he : e < 60) (h123 : ¬ tk tx L (lk tx L q) = 123) (h : CT d Q L tx (lk tx L q) lev r (am_wr (am_wr (am_wr σ 0 21 (nI (lk tx L q))) 9 (120 + e) (nI r)) 0 35 (nI (e + 1)))) : HG d Q σ := by
  have e21 : (am_wr (am_wr (am_wr σ 0 21 (nI (lk tx L q))) 9 (120 + e) (nI r)) 0 35 (nI (e + 1))).1 0 21 = nI (lk tx L q) := by rw [am_diff _ _ _ _ _ (by decide), am_wr_ne _ (by decide), am_same]
  have e22 : (am_wr σ 0 21 (nI (lk tx L q))).1 0 22 = nI 5 := by rw [am_diff _ _ _ _ _ (by decide)]; exact h22
  have e23 : (am_wr σ 0 21 (nI (lk tx L q))).1 0 23 = nI r := by rw [am_diff _ _ _ _ _ (by decide)]; exact h23
  have e35 : (am_wr σ 0 21 (nI (lk tx L q))).1 0 35 = nI e := by rw [am_diff _ _ _ _ _ (by decide)]; exact h35
  refine hg_step hd hT hq h21 (fun hc => ?_) (fun hc => ?_)
  · refine tok_5n (by omega) hc h123 e22 e23 e35 he (EPq.to h (fun σb hb => ?_))
    obtain ⟨b1, b2, b3, b4, b5⟩ := hb
    rw [am_wr_self (b3.trans e21)] at b5
    exact ⟨b1, fun d' hd' => am_C_to (b5.1 hc d' hd') (fun _ _ z => z.x)⟩
  · by_cases hz : lev = 0
    · refine en_50 (by omega) e22 e23 e35 he (EPq.to h (fun σb hb => ?_))
      obtain ⟨b1, b2, b3, b4, b5⟩ := hb
      rw [am_wr_self (b3.trans e21)] at b5
      rw [hz] at b2
      exact ⟨b1, b2, (b5.2 hc).1 hz⟩
    · obtain ⟨l, rfl⟩ : ∃ l, lev = l + 1 := ⟨lev - 1, by omega⟩
      refine en_5 (lev := l) (by omega) e22 e23 e35 he (by omega) (EPq.to h (fun σb hb => ?_))
      obtain ⟨b1, b2, b3, b4, b5⟩ := hb
      rw [am_wr_self (b3.trans e21)] at b5
      exact ⟨b1, b2, (b5.2 hc).2 hz⟩
/-- the root has no parent yet -/
def MSH (σ : am_M) (p g : Nat → Nat → Nat) (a b r : Nat) : Prop := MSG σ p g a b r ∧ σ.1 15 (120 + r) = -1
/-- a stretch of the text has been read -/
def SU (σ σ1 : am_M) (L : Nat) (tx : Nat → Nat) (S S' : PS) (r e lev tr lc : Nat) (O : Nat → Nat) (pos : Nat) (g : Nat → Nat → Nat) : Prop := RB σ1 L tx pos S'.2.1 S'.2.2.1 (e + (S'.2.1 - S.2.1)) lev tr lc O ∧ RF σ σ1 S.2.1 e lev lc ∧ MSH σ1 S'.2.2.2 g S.2.1 S'.2.1 r ∧ SG S'.2.2.2 g S.2.1 S'.2.1 r e lc O ∧ S'.1 ≤ L
/-- its fault -/
def FA (Q : am_Q) (σ : am_M) (x : RS) : Prop := ∀ k pl σ', x = .inl (k, pl) → RF σ σ' 0 0 0 0 → σ'.1 0 21 = nI pl → Q (some (.int (nI k))) σ'
/-- a part -/
def PSIM (L : Nat) (tx : Nat → Nat) (lev : Nat) (f : Nat → Nat → PS → RS) : Prop := ∀ (tr lc : Nat) (S : PS) (σ : am_M) (O : Nat → Nat) (e d : Nat) (Q : am_Q), 12 ≤ d → RB σ L tx S.1 S.2.1 S.2.2.1 e lev tr lc O → tr ≤ lev → σ.1 0 22 = nI 0 → FA Q σ (f tr lc S) → (∀ S' r σ1 g pos, f tr lc S = .inr (S', r) → SU σ σ1 L tx S S' r e lev tr lc O pos g → (∀ c, 20 ≤ c → c ≤ 26 → σ1.1 c lev = σ.1 c lev) → CT d Q L tx (lk tx L S'.1) lev r σ1) → HG d Q σ
/-- parts that ; joins -/
def QSIM (L : Nat) (tx : Nat → Nat) (lev : Nat) (f : Nat → Nat → PS → RS) : Prop := ∀ (tr lc : Nat) (S : PS) (σ : am_M) (O : Nat → Nat) (e d : Nat) (Q : am_Q), 12 ≤ d → RB σ L tx S.1 S.2.1 S.2.2.1 e lev tr lc O → tr ≤ lev → σ.1 0 22 = nI 0 → σ.1 26 lev = -1 → FA Q σ (f tr lc S) → (∀ S' r σ1 g, f tr lc S = .inr (S', r) → SU σ σ1 L tx S S' r e lev tr lc O S'.1 g → (∀ c, 20 ≤ c → c ≤ 24 → σ1.1 c lev = σ.1 c lev) → σ1.1 25 lev = nI r → σ1.1 26 lev = -1 → σ1.1 0 22 = nI 4 → ¬ tk tx L S'.1 = 59 → lk tx L S'.1 = S'.1 → BH d Q L tx S'.1 lev σ1) → HG d Q σ
/-- rows that | joins: the last row is joined when endsRow is called -/
def RSIM (L : Nat) (tx : Nat → Nat) (lev : Nat) (f : Nat → Nat → PS → RS) : Prop := ∀ (tr lc : Nat) (S : PS) (σ : am_M) (O : Nat → Nat) (e d : Nat) (Q : am_Q), 12 ≤ d → RB σ L tx S.1 S.2.1 S.2.2.1 e lev tr lc O → tr ≤ lev → σ.1 0 22 = nI 0 → σ.1 26 lev = -1 → σ.1 24 lev = -1 → FA Q σ (f tr lc S) → (∀ S' r σ1, f tr lc S = .inr (S', r) → (∃ n1 e1, RB σ1 L tx S'.1 n1 S'.2.2.1 e1 lev tr lc O) → RF σ σ1 S.2.1 e lev lc → σ1.1 0 22 = nI 4 → (∀ c, 20 ≤ c → c ≤ 22 → σ1.1 c lev = σ.1 c lev) → ¬ tk tx L S'.1 = 59 → ¬ tk tx L S'.1 = 124 → lk tx L S'.1 = S'.1 → ERq (fun σ2 => (∃ g, SU σ σ2 L tx S S' r e lev tr lc O S'.1 g) ∧ σ2.1 23 lev = nI r ∧ (∀ c, 20 ≤ c → c ≤ 22 → σ2.1 c lev = σ.1 c lev)) σ1 → BH d Q L tx S'.1 lev σ1) → HG d Q σ

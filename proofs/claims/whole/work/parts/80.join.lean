/-! a statement is joined to its operands -/
theorem MSG.wr {σ : am_M} {p g : Nat → Nat → Nat} {a b r e D : Nat} {O : Nat → Nat} (h : MSG σ p g a b r) (hS : SG p g a b r e D O) {c k : Nat} (x : Int32) (hc : c ≤ 4 ∨ c = 13 ∨ c = 14 ∨ 15 < c ∨ (c ≠ 9 ∧ c ≠ 11 ∧ (k < 120 + a ∨ 120 + b ≤ k)) ∨ (c = 11 ∧ (k < 3 * (120 + a) ∨ 3 * (120 + b) ≤ k)) ∨ (c = 15 ∧ k = 120 + r) ∨ (c = 9 ∧ (k < 120 + e ∨ 120 + e + (b - a) ≤ k))) : MSG (am_wr σ c k x) p g a b r := by
  have hrd : ∀ c' k', ¬ (c' = c ∧ k' = k) → (am_wr σ c k x).1 c' k' = σ.1 c' k' := fun c' k' q => by rw [am_rd1, if_neg q]
  intro i i1 i2
  obtain ⟨m1, m2, m3⟩ := h i i1 i2
  obtain ⟨⟨hT, -⟩, -, r1, r2⟩ := hS.2.2.2.2.2.2.2.2.2 i i1 i2
  exact ⟨m1.keep (fun c' hc' => hrd c' _ (by omega)) (fun y hy => hrd 11 _ (by omega)) hT.2.2.2.2.2.2.2.2.2.1, fun hne => by rw [hrd 15 _ (by omega)]; exact m2 hne, by rw [hrd 9 _ (by omega)]; exact m3⟩
theorem MSH.wr {σ : am_M} {p g : Nat → Nat → Nat} {a b r e D : Nat} {O : Nat → Nat} (h : MSH σ p g a b r) (hS : SG p g a b r e D O) {c k : Nat} (x : Int32) (hc : c ≤ 4 ∨ c = 13 ∨ c = 14 ∨ 15 < c ∨ (c ≠ 9 ∧ c ≠ 11 ∧ (k < 120 + a ∨ 120 + b ≤ k)) ∨ (c = 11 ∧ (k < 3 * (120 + a) ∨ 3 * (120 + b) ≤ k)) ∨ (c = 15 ∧ k = 120 + r) ∨ (c = 9 ∧ (k < 120 + e ∨ 120 + e + (b - a) ≤ k))) : MSG (am_wr σ c k x) p g a b r := h.1.wr hS x hc
theorem MSH.keep {σ σ' : am_M} {p g : Nat → Nat → Nat} {a b r n e lev nw e0 D : Nat} {O : Nat → Nat} (h : MSH σ p g a b r) (hF : RF σ σ' n e lev nw) (hb : b ≤ n) (hS : SG p g a b r e0 D O) (he : e0 + (b - a) ≤ e) : MSG σ' p g a b r := h.1.keep hF hb hS he
theorem nodeJ {σ : am_M} {p p' g1 g2 : Nat → Nat → Nat} {A B k a1 b1 r1 a2 b2 r2 e D D1 : Nat} {O O1 : Nat → Nat} (hS1 : SG p g1 a1 b1 r1 e D1 O1) (hM1 : MSG σ p g1 a1 b1 r1) (h2 : (a2 = b2 ∧ p' 3 k = 0) ∨ (p' 3 k = r2 + 1 ∧ SG p g2 a2 b2 r2 (e + (b1 - a1)) D O ∧ MSG σ p g2 a2 b2 r2 ∧ σ.1 15 (120 + r2) = nI k)) (hp : ∀ w j, j ≠ k → p' w j = p w j) (hA : A ≤ k ∧ k < B) (hin : ∀ i, (A ≤ i ∧ i < B) ↔ (i = k ∨ (a1 ≤ i ∧ i < b1) ∨ (a2 ≤ i ∧ i < b2))) (hk1 : k < a1 ∨ b1 ≤ k) (hk2 : a2 = b2 ∨ k < a2 ∨ b2 ≤ k) (h12 : a2 = b2 ∨ b1 ≤ a2) (hsz : B = A + 1 + (b1 - a1) + (b2 - a2)) (h21 : a2 ≤ b2) (p2 : p' 2 k = r1 + 1) (p6 : p' 6 k = A) (p7 : p' 7 k + 1 = B) (h4 : p' 4 k = pzo p' (p' 2 k) ||| pzo p' (p' 3 k)) (hc : tUn (p' 0 k) ∨ tBi (p' 0 k)) (hp1 : p' 1 k ≤ 8) (hsig : tSig (p' 0 k) → 1 ≤ p' 1 k) (h36 : p' 0 k = 36 → D ≤ 2 ∧ O1 D = p' 1 k - 1) (hu : tUn (p' 0 k) → p' 3 k = 0) (hD : D1 = if p' 0 k = 36 then D + 1 else D) (hO : ∀ y, y < D → O1 y = O y) (hD3 : D ≤ 3) (hO8 : ∀ y, y < D → O y < 8) (m5 : σ.1 5 (120 + k) = nI (p' 0 k)) (m6 : σ.1 6 (120 + k) = oI (p' 1 k)) (m7 : σ.1 7 (120 + k) = nI r1) (m8 : σ.1 8 (120 + k) = oI (p' 3 k)) (m10 : σ.1 10 (120 + k) = nI D) (m11 : ∀ y, y < D → σ.1 11 (3 * (120 + k) + y) = nI (O y)) (m12 : σ.1 12 (120 + k) = -1) (m9 : σ.1 9 (120 + (e + (B - A) - 1)) = nI k) (m15 : σ.1 15 (120 + r1) = nI k) : ∃ g', SG p' g' A B k e D O ∧ MSG σ p' g' A B k := by
  have hr1 : a1 ≤ r1 ∧ r1 < b1 := ⟨hS1.1, hS1.2.1⟩
  obtain ⟨g', hg'⟩ : ∃ g' : Nat → Nat → Nat, g' = fun w i => if i = k then (if w = 0 then D else if w = 1 then 0 else if w = 2 then e + (B - A) - 1 else if w = 6 then 0 else O (w - 7)) else if a1 ≤ i ∧ i < b1 then (if w = 1 ∧ i = r1 then k + 1 else g1 w i) else (if w = 1 ∧ i = r2 then k + 1 else g2 w i) := ⟨_, rfl⟩
  have gk : ∀ w, g' w k = if w = 0 then D else if w = 1 then 0 else if w = 2 then e + (B - A) - 1 else if w = 6 then 0 else O (w - 7) := fun w => by rw [hg']; exact if_pos rfl
  have gO : ∀ y, g' (7 + y) k = O y := fun y => by
    rw [gk, if_neg (by omega), if_neg (by omega), if_neg (by omega), if_neg (by omega), show 7 + y - 7 = y by omega]
  have gA : ∀ w i, a1 ≤ i → i < b1 → g' w i = if w = 1 ∧ i = r1 then k + 1 else g1 w i := fun w i i1 i2 => by rw [hg']; exact (if_neg (by omega)).trans (if_pos ⟨i1, i2⟩)
  have gB : ∀ w i, a2 ≤ i → i < b2 → g' w i = if w = 1 ∧ i = r2 then k + 1 else g2 w i := fun w i i1 i2 => by rw [hg']; exact (if_neg (by omega)).trans (if_neg (by omega))
  have S1 : SG p' g' a1 b1 r1 e D1 O1 := hS1.congr (fun w j j1 j2 => hp w j (by omega)) (fun w j j1 j2 hw => by rw [gA w j j1 j2, if_neg (fun z => hw z.1)]) (fun j j1 j2 hj => by rw [gA 1 j j1 j2, if_neg (fun z => hj z.2)])
  have M1 : MSG σ p' g' a1 b1 r1 := hM1.congr (fun w j j1 j2 => hp w j (by omega)) (fun w j j1 j2 hw => by rw [gA w j j1 j2, if_neg (fun z => hw z.1)]) (fun j j1 j2 hj => by rw [gA 1 j j1 j2, if_neg (fun z => hj z.2)])
  have g1r : g' 1 r1 = k + 1 := by rw [gA 1 r1 hr1.1 hr1.2]; exact if_pos ⟨rfl, rfl⟩
  have H2 : (a2 = b2 ∧ p' 3 k = 0) ∨ (p' 3 k = r2 + 1 ∧ SG p' g' a2 b2 r2 (e + (b1 - a1)) D O ∧ MSG σ p' g' a2 b2 r2 ∧ g' 1 r2 = k + 1 ∧ σ.1 15 (120 + r2) = nI k) := by
    rcases h2 with h2 | ⟨q1, q2, q3, q4⟩
    · exact Or.inl h2
    · exact Or.inr ⟨q1, q2.congr (fun w j j1 j2 => hp w j (by omega)) (fun w j j1 j2 hw => by rw [gB w j j1 j2, if_neg (fun z => hw z.1)]) (fun j j1 j2 hj => by rw [gB 1 j j1 j2, if_neg (fun z => hj z.2)]), q3.congr (fun w j j1 j2 => hp w j (by omega)) (fun w j j1 j2 hw => by rw [gB w j j1 j2, if_neg (fun z => hw z.1)]) (fun j j1 j2 hj => by rw [gB 1 j j1 j2, if_neg (fun z => hj z.2)]), by rw [gB 1 r2 q2.1 q2.2.1]; exact if_pos ⟨rfl, rfl⟩, q4⟩
  have b1' : pzo p' (p' 2 k) < 2 ^ 20 := by
    rw [p2]
    show (if r1 + 1 = 0 then 0 else p' 4 (r1 + 1 - 1)) < 2 ^ 20
    rw [if_neg (by omega), Nat.add_sub_cancel]
    exact (S1.2.2.2.2.2.2.2.2.2 r1 hr1.1 hr1.2).1.1.2.2.1
  have b2' : pzo p' (p' 3 k) < 2 ^ 20 := by
    rcases H2 with ⟨-, q⟩ | ⟨q1, q2, -, -⟩
    · rw [q]; unfold pzo; rw [if_pos rfl]; decide
    · rw [q1]
      show (if r2 + 1 = 0 then 0 else p' 4 (r2 + 1 - 1)) < 2 ^ 20
      rw [if_neg (by omega), Nat.add_sub_cancel]
      exact (q2.2.2.2.2.2.2.2.2.2 r2 q2.1 q2.2.1).1.1.2.2.1
  have c1 : p' 0 k = 42 ∨ p' 0 k = 94 ∨ p' 0 k = 64 ∨ p' 0 k = 126 ∨ p' 0 k = 36 ∨ p' 0 k = 63 ∨ p' 0 k = 59 ∨ p' 0 k = 124 := by unfold tUn tBi at hc; omega
  have hT : TC p' g' k := by
    refine ⟨by omega, hp1, ?_, hsig, fun z => by omega, fun z => ⟨hu (by unfold tUn; omega), ?_⟩, fun _ => by omega, fun _ => by omega, Or.inl (by unfold tIn; omega), ?_, fun y hy => ?_, fun z => by omega⟩
    · rw [h4]; exact Nat.or_lt_two_pow b1' b2'
    · rw [gk 0]; exact (h36 z).1
    · rw [gk 0]; exact hD3
    · rw [gk 0] at hy; rw [gO]; exact hO8 y hy
  have HS : SG p' g' A B k e D O := by
    refine SG.node (r2 := r2) S1 ?_ hA hin hk1 hk2 h12 hsz h21 p2 p6 p7 ?_ (gk 0) (fun y _ => gO y) g1r ?_ hT hD hO (fun z => (h36 z).2) (fun _ => h4) hu
    · rcases H2 with q | ⟨q1, q2, -⟩
      · exact Or.inl q
      · exact Or.inr ⟨q1, q2⟩
    · rw [gk 2, if_neg (by decide), if_neg (by decide), if_pos rfl]; omega
    · rcases H2 with q | ⟨-, -, -, q, -⟩
      · exact Or.inl q.1
      · exact Or.inr q
  refine ⟨g', HS, fun i i1 i2 => ?_⟩
  rcases (hin i).mp ⟨i1, i2⟩ with rfl | ⟨j1, j2⟩ | ⟨j1, j2⟩
  · refine ⟨⟨m5, m6, by rw [p2, oI_s]; exact m7, m8, by rw [gk 0]; exact m10, fun y hy => ?_, ?_⟩, fun z => absurd rfl z, ?_⟩
    · rw [gk 0] at hy; rw [gO]; exact m11 y hy
    · rw [m12, if_neg]
      unfold isP
      rw [Bool.or_eq_true, beq_iff_eq, beq_iff_eq]
      omega
    · rw [gk 2, if_neg (by decide), if_neg (by decide), if_pos rfl]; exact m9
  · obtain ⟨n1, n2, n3⟩ := M1 i j1 j2
    refine ⟨n1, fun _ => ?_, n3⟩
    by_cases hi : i = r1
    · rw [hi, g1r, oI_s]; exact m15
    · exact n2 hi
  · rcases H2 with ⟨q, -⟩ | ⟨-, -, q3, q4, q5⟩
    · omega
    · obtain ⟨n1, n2, n3⟩ := q3 i j1 j2
      refine ⟨n1, fun _ => ?_, n3⟩
      by_cases hi : i = r2
      · rw [hi, q4, oI_s]; exact q5
      · exact n2 hi
theorem ops_k (S : PS) (k l r w : Nat) : (ps_ops S k l r).2.2.2 w k = if w = 2 then l else if w = 3 then r else if w = 4 then pz S.2.2.2 l ||| pz S.2.2.2 r else if w = 6 then (if l = 0 then S.2.2.2 6 k else min k (S.2.2.2 6 (l - 1))) else if w = 7 then (if r = 0 then (if l = 0 then S.2.2.2 7 k else max k (S.2.2.2 7 (l - 1))) else max (if l = 0 then S.2.2.2 7 k else max k (S.2.2.2 7 (l - 1))) (S.2.2.2 7 (r - 1))) else S.2.2.2 w k := if_pos rfl
theorem ops_o (S : PS) (k l r w : Nat) {j : Nat} (h : j ≠ k) : (ps_ops S k l r).2.2.2 w j = S.2.2.2 w j := if_neg h
theorem pz_s (p : Nat → Nat → Nat) (l : Nat) : pz p (l + 1) = p 4 l := by unfold pz; rw [if_neg (by omega), Nat.add_sub_cancel]
theorem pzo_s (p : Nat → Nat → Nat) (l : Nat) : pzo p (l + 1) = p 4 l := by unfold pzo; rw [if_neg (by omega), Nat.add_sub_cancel]
/-- ; and | join what stands before them and behind them -/
theorem JB {σ : am_M} {S2 : PS} {g1 g2 : Nat → Nat → Nat} {n0 k n2 l r e D E c : Nat} {O : Nat → Nat} (hc : c = 59 ∨ c = 124) (hS1 : SG S2.2.2.2 g1 n0 k l e D O) (hM1 : MSG σ S2.2.2.2 g1 n0 k l) (hS2 : SG S2.2.2.2 g2 (k + 1) n2 r (e + (k - n0)) D O) (hM2 : MSG σ S2.2.2.2 g2 (k + 1) n2 r) (c0 : S2.2.2.2 0 k = c) (c1 : S2.2.2.2 1 k = 0) (hE : E + 1 = e + (n2 - n0)) (hD3 : D ≤ 3) (hO8 : ∀ y, y < D → O y < 8) (m5 : σ.1 5 (120 + k) = nI c) (m6 : σ.1 6 (120 + k) = -1) (m10 : σ.1 10 (120 + k) = nI D) (m11 : ∀ y, y < D → σ.1 11 (3 * (120 + k) + y) = nI (O y)) (m12 : σ.1 12 (120 + k) = -1) : ∃ g', SG (ps_ops S2 k (l + 1) (r + 1)).2.2.2 g' n0 n2 k e D O ∧ MSG (am_wr (am_wr (am_wr (am_wr (am_wr (am_wr σ 7 (120 + k) (nI l)) 8 (120 + k) (nI r)) 15 (120 + l) (nI k)) 15 (120 + r) (nI k)) 9 (120 + E) (nI k)) 0 35 (nI (E + 1))) (ps_ops S2 k (l + 1) (r + 1)).2.2.2 g' n0 n2 k := by
  have hl1 := hS1.1
  have hl2 := hS1.2.1
  have hr1 := hS2.1
  have hr2 := hS2.2.1
  have q6 : S2.2.2.2 6 l = n0 := hS1.2.2.1
  have q7 : S2.2.2.2 7 l + 1 = k := hS1.2.2.2.1
  have q7' : S2.2.2.2 7 r + 1 = n2 := hS2.2.2.2.1
  have K := ops_k S2 k (l + 1) (r + 1)
  have K0 : (ps_ops S2 k (l + 1) (r + 1)).2.2.2 0 k = c := (K 0).trans c0
  have K1 : (ps_ops S2 k (l + 1) (r + 1)).2.2.2 1 k = 0 := (K 1).trans c1
  have K3 : (ps_ops S2 k (l + 1) (r + 1)).2.2.2 3 k = r + 1 := K 3
  have K2 : (ps_ops S2 k (l + 1) (r + 1)).2.2.2 2 k = l + 1 := K 2
  have K4 : (ps_ops S2 k (l + 1) (r + 1)).2.2.2 4 k = pz S2.2.2.2 (l + 1) ||| pz S2.2.2.2 (r + 1) := K 4
  have K6 : (ps_ops S2 k (l + 1) (r + 1)).2.2.2 6 k = min k (S2.2.2.2 6 l) := K 6
  have K7 : (ps_ops S2 k (l + 1) (r + 1)).2.2.2 7 k = max (max k (S2.2.2.2 7 l)) (S2.2.2.2 7 r) := K 7
  have w1 : ∀ {g a b x e'}, SG S2.2.2.2 g a b x e' D O → MSG σ S2.2.2.2 g a b x → (x = l ∨ b ≤ l ∨ l < a) → (x = r ∨ b ≤ r ∨ r < a) → (k < a ∨ b ≤ k) → e' + (b - a) ≤ E → MSG (am_wr (am_wr (am_wr (am_wr (am_wr (am_wr σ 7 (120 + k) (nI l)) 8 (120 + k) (nI r)) 15 (120 + l) (nI k)) 15 (120 + r) (nI k)) 9 (120 + E) (nI k)) 0 35 (nI (E + 1))) S2.2.2.2 g a b x := fun hs hm x1 x2 x3 x4 => (((((hm.wr hs _ (by omega)).wr hs _ (by omega)).wr hs _ (by omega)).wr hs _ (by omega)).wr hs _ (by omega)).wr hs _ (by omega)
  refine nodeJ (A := n0) (B := n2) (a1 := n0) (b1 := k) (r1 := l) (a2 := k + 1) (b2 := n2) (r2 := r) (D1 := D) (O1 := O) hS1 (w1 hS1 hM1 (by omega) (by omega) (by omega) (by omega)) (Or.inr ⟨K3, hS2, w1 hS2 hM2 (by omega) (by omega) (by omega) (by omega), ?_⟩) (fun w j hj => ops_o S2 k _ _ w hj) (by omega) (fun i => by omega) (by omega) (by omega) (by omega) (by omega) (by omega) K2 ?_ ?_ ?_ ?_ (by omega) ?_ (fun z => by omega) ?_ ?_ (fun _ _ => rfl) hD3 hO8 ?_ ?_ ?_ ?_ ?_ (fun y hy => ?_) ?_ ?_ ?_
  · rw [am_wr_ne _ (by omega), am_wr_ne _ (by omega), am_same]
  · rw [K6, q6]; omega
  · rw [K7]; omega
  · rw [K4, K2, K3, pz_s, pz_s, pzo_s, pzo_s, ops_o _ _ _ _ _ (by omega), ops_o _ _ _ _ _ (by omega)]
  · right; rw [K0]; unfold tBi; omega
  · rw [K0]; unfold tSig; omega
  · rw [K0]; unfold tUn; omega
  · rw [K0, if_neg (by omega)]
  · rw [K0, am_wr_ne _ (by omega), am_wr_ne _ (by omega), am_wr_ne _ (by omega), am_wr_ne _ (by omega), am_wr_ne _ (by omega), am_wr_ne _ (by omega)]; exact m5
  · rw [K1, am_wr_ne _ (by omega), am_wr_ne _ (by omega), am_wr_ne _ (by omega), am_wr_ne _ (by omega), am_wr_ne _ (by omega), am_wr_ne _ (by omega), oI_0]; exact m6
  · rw [am_wr_ne _ (by omega), am_wr_ne _ (by omega), am_wr_ne _ (by omega), am_wr_ne _ (by omega), am_wr_ne _ (by omega), am_same]
  · rw [K3, oI_s, am_wr_ne _ (by omega), am_wr_ne _ (by omega), am_wr_ne _ (by omega), am_wr_ne _ (by omega), am_same]
  · rw [am_wr_ne _ (by omega), am_wr_ne _ (by omega), am_wr_ne _ (by omega), am_wr_ne _ (by omega), am_wr_ne _ (by omega), am_wr_ne _ (by omega)]; exact m10
  · rw [am_wr_ne _ (by omega), am_wr_ne _ (by omega), am_wr_ne _ (by omega), am_wr_ne _ (by omega), am_wr_ne _ (by omega), am_wr_ne _ (by omega)]; exact m11 y hy
  · rw [am_wr_ne _ (by omega), am_wr_ne _ (by omega), am_wr_ne _ (by omega), am_wr_ne _ (by omega), am_wr_ne _ (by omega), am_wr_ne _ (by omega)]; exact m12
  · rw [am_wr_ne _ (by omega), show e + (n2 - n0) - 1 = E by omega, am_same]
  · rw [am_wr_ne _ (by omega), am_wr_ne _ (by omega), am_diff _ _ _ _ _ (by omega), am_same]

/-! how many statements and which rests are within each -/
/-- the text has been read -/
def RDY (σ : am_M) (p g : Nat → Nat → Nat) (n r : Nat) : Prop := σ.1 2 2 = nI n ∧ n ≤ 60 ∧ MSG σ p g 0 n r ∧ SG p g 0 n r 0 0 (fun _ => 0) ∧ ∀ k, k < n → nTb (p 0 k) = true ∧ (isF (p 0 k) = true → p 2 k = 0 ∧ p 3 k = 0)
def KZs (σ0 σ : am_M) : Prop := (∀ c, c ≠ 13 → c ≠ 14 → σ.1 c = σ0.1 c) ∧ σ.2 = σ0.2 ∧ ∀ c x, x < 120 → σ.1 c x = σ0.1 c x
theorem KZs.wr {σ0 σ : am_M} (h : KZs σ0 σ) {c x : Nat} (v : Int32) (hc : c = 13 ∨ c = 14) (hx : 120 ≤ x) : KZs σ0 (am_wr σ c x v) := ⟨fun c' a b => by rw [am_wr_ne _ (by omega)]; exact h.1 c' a b, h.2.1, fun c' x' a => by rw [am_ne2 _ (by omega)]; exact h.2.2 c' x' a⟩
def KN (σ : am_M) (p g : Nat → Nat → Nat) (n k : Nat) : Prop := (∃ y, σ.1 12 (120 + k) = nI y ∧ y < 20 ∧ p 2 k = 0 ∧ p 3 k = 0 ∧ p 4 k = 1 * 2 ^ y ∧ p 7 k - p 6 k = 0) ∨ (σ.1 12 (120 + k) = -1 ∧ p 2 k = 0 ∧ p 3 k = 0 ∧ p 4 k = 0 ∧ p 7 k - p 6 k = 0) ∨ (σ.1 12 (120 + k) = -1 ∧ ∃ x, p 2 k = x + 1 ∧ x < n ∧ g 2 x < g 2 k ∧ p 3 k = 0 ∧ p 4 k = 0 ||| p 4 x ∧ p 7 k - p 6 k = 0 + (p 7 x - p 6 x + 1)) ∨ (σ.1 12 (120 + k) = -1 ∧ ∃ x y, p 2 k = x + 1 ∧ x < n ∧ g 2 x < g 2 k ∧ p 3 k = y + 1 ∧ y < n ∧ g 2 y < g 2 k ∧ p 4 k = (0 ||| p 4 x) ||| p 4 y ∧ p 7 k - p 6 k = 0 + (p 7 x - p 6 x + 1) + (p 7 y - p 6 y + 1))
theorem RDY.kn {σ : am_M} {p g : Nat → Nat → Nat} {n r k : Nat} (h : RDY σ p g n r) (hk : k < n) : KN σ p g n k := by
  obtain ⟨-, hn, hM, hS, hT⟩ := h
  obtain ⟨⟨-, -, -, -, -, -, m12⟩, -, -⟩ := hM k (Nat.zero_le _) hk
  obtain ⟨t1, t2⟩ := hT k hk
  have node := fun i (hi : i < n) => (hS.2.2.2.2.2.2.2.2.2 i (Nat.zero_le _) hi)
  obtain ⟨⟨hC, k2, k3, e7, -, e4, eu⟩, ⟨b1, b2, b3, b4, -⟩, -, -⟩ := node k hk
  obtain ⟨-, -, -, -, -, -, cu, cb, c4, -, -, c46⟩ := hC
  have hcs := nT_cases t1
  by_cases hF : isF (p 0 k) = true
  · obtain ⟨z2, z3⟩ := t2 hF
    have ez : p 7 k - p 6 k = 0 := by
      rw [e7, z2, z3]
      unfold szo
      rw [if_pos rfl]
      omega
    by_cases hP : isP (p 0 k) = true
    · have hP2 : p 0 k = 46 ∨ p 0 k = 38 := by unfold isP at hP; rw [Bool.or_eq_true, beq_iff_eq, beq_iff_eq] at hP; exact hP
      obtain ⟨c1, c2⟩ := c46 hP2
      rw [if_pos hP] at m12
      exact Or.inl ⟨g 6 k, m12, c2, z2, z3, by rw [Nat.one_mul]; exact c1, ez⟩
    · rw [if_neg hP] at m12
      refine Or.inr (Or.inl ⟨m12, z2, z3, ?_, ez⟩)
      have hP2 : ¬ (p 0 k = 46 ∨ p 0 k = 38) := fun z => hP (by unfold isP; rw [Bool.or_eq_true, beq_iff_eq, beq_iff_eq]; exact z)
      unfold isF at hF
      simp only [Bool.or_eq_true, beq_iff_eq] at hF
      unfold tIn at c4
      omega
  · have hF2 : p 0 k ≠ 48 ∧ p 0 k ≠ 46 ∧ p 0 k ≠ 120 ∧ p 0 k ≠ 33 ∧ p 0 k ≠ 38 := by
      unfold isF at hF
      simp only [Bool.or_eq_true, beq_iff_eq] at hF
      omega
    have hP : ¬ isP (p 0 k) = true := fun z => by
      unfold isP at z
      rw [Bool.or_eq_true, beq_iff_eq, beq_iff_eq] at z
      omega
    rw [if_neg hP] at m12
    have hu : tUn (p 0 k) ∨ tBi (p 0 k) := by unfold tUn tBi; omega
    have z2 : p 2 k ≠ 0 := hu.elim cu cb
    obtain ⟨x, hx⟩ : ∃ x, p 2 k = x + 1 := ⟨p 2 k - 1, by omega⟩
    have e4 := e4 hu
    have kx : x < n ∧ g 2 x < g 2 k := by
      rcases k2 with k2 | ⟨-, q2, q3, -⟩
      · exact absurd k2 z2
      · rw [hx, Nat.add_sub_cancel] at q2 q3
        exact ⟨q2, q3⟩
    obtain ⟨-, ⟨x1, x2, x3, x4, -⟩, -, -⟩ := node x kx.1
    rw [hx, pzo_s] at e4
    rw [hx] at e7
    have sx : szo p (x + 1) = p 7 x + 1 - p 6 x := by unfold szo; rw [if_neg (by omega), Nat.add_sub_cancel]
    by_cases z3 : p 3 k = 0
    · refine Or.inr (Or.inr (Or.inl ⟨m12, x, hx, kx.1, kx.2, z3, ?_, ?_⟩))
      · rw [e4, z3, Nat.zero_or]
        show p 4 x ||| pzo p 0 = p 4 x
        unfold pzo
        rw [if_pos rfl, Nat.or_zero]
      · rw [e7, z3, sx]
        have : szo p 0 = 0 := if_pos rfl
        rw [this]
        omega
    · obtain ⟨y, hy⟩ : ∃ y, p 3 k = y + 1 := ⟨p 3 k - 1, by omega⟩
      have ky : y < n ∧ g 2 y < g 2 k := by
        rcases k3 with k3 | ⟨-, q2, q3, -⟩
        · exact absurd k3 z3
        · rw [hy, Nat.add_sub_cancel] at q2 q3
          exact ⟨q2, q3⟩
      obtain ⟨-, ⟨y1, y2, y3, y4, -⟩, -, -⟩ := node y ky.1
      rw [hy, pzo_s] at e4
      rw [hy] at e7
      have sy : szo p (y + 1) = p 7 y + 1 - p 6 y := by unfold szo; rw [if_neg (by omega), Nat.add_sub_cancel]
      refine Or.inr (Or.inr (Or.inr ⟨m12, x, y, hx, kx.1, kx.2, hy, ky.1, ky.2, ?_, ?_⟩))
      · rw [e4, Nat.zero_or]
      · rw [e7, sx, sy]
        omega
set_option maxRecDepth 10000 in
set_option maxHeartbeats 2000000 in
theorem ls_loop {d : Nat} (hd : 2 ≤ d) {σ0 : am_M} {p g : Nat → Nat → Nat} {n r : Nat} (h : RDY σ0 p g n r) {Q : am_Q} (hq : ∀ σ, KZs σ0 σ → (∀ k, k < n → σ.1 13 (120 + k) = nI (p 4 k) ∧ σ.1 14 (120 + k) = nI (p 7 k - p 6 k)) → Q none σ) : ∀ (m a : Nat) (σ : am_M) (v2 v3 v4 : Option Value), a + m = n → KZs σ0 σ → (∀ k, k < n → g 2 k < a → σ.1 13 (120 + k) = nI (p 4 k) ∧ σ.1 14 (120 + k) = nI (p 7 k - p 6 k)) → am_G d M_X10_laysSizes Q 2 [some (.ref 0), some (.int (nI a)), v2, v3, v4] [] σ
  | 0, a, σ, v2, v3, v4, ha, hK, hold => by
    obtain rfl : a = n := by omega
    have hn60 := h.2.1
    have hn2 : σ.1 2 2 = nI a := by rw [hK.1 2 (by decide) (by decide)]; exact h.1
    refine am_run 4 (pc' := 8) (ls' := [some (.ref 0), some (.int (nI a)), v2, v3, v4]) (st' := [.int (nI 2), .ref 2, .int (nI a)]) (σ' := σ) rfl ?_
    refine am_ialdN (n := 3) (v := nI a) rfl rfl rfl (by omega) hn2 (by decide) ?_
    refine am_ic (ty := 12) (tn := 150) rfl (by decide) rfl rfl (fun (h_301 : nI a < nI a) => ?_) (fun (h_301 : ¬ (nI a < nI a)) => ?_)
    · have h_301 : a < a := (nI_ltI (by omega) (by omega)).mp h_301
      omega
    have h_301 : ¬ (a < a) := fun z => h_301 ((nI_ltI (by omega) (by omega)).mpr z)
    refine am_retv rfl rfl ?_
    exact hq σ hK (fun k hk => hold k hk (by have := (h.2.2.2.1.2.2.2.2.2.2.2.2.2 k (Nat.zero_le _) hk).2.2.2; omega))
  | m + 1, a, σ, v2, v3, v4, ha, hK, hold => by
    have hn60 := h.2.1
    have hn2 : σ.1 2 2 = nI n := by rw [hK.1 2 (by decide) (by decide)]; exact h.1
    obtain ⟨k, -, hk, hrk⟩ := h.2.2.2.1.2.2.2.2.2.2.2.2.1 a (Nat.zero_le _) (by omega)
    have rkk : ∀ k', k' < n → k' ≠ k → g 2 k' ≠ a := fun k' h1 h2 h3 => by
      have e1 := (h.2.2.1 k' (Nat.zero_le _) h1).2.2
      have e2 := (h.2.2.1 k (Nat.zero_le _) hk).2.2
      rw [h3] at e1
      rw [hrk, e1] at e2
      exact h2 ((nI_eq (by omega) (by omega)).mp e2)
    have c9 : σ.1 9 (120 + a) = nI k := by rw [hK.1 9 (by decide) (by decide), ← hrk]; exact (h.2.2.1 k (Nat.zero_le _) hk).2.2
    obtain ⟨⟨-, -, m7, m8, -⟩, -, -⟩ := h.2.2.1 k (Nat.zero_le _) hk
    have c7 : σ.1 7 (120 + k) = oI (p 2 k) := by rw [hK.1 7 (by decide) (by decide)]; exact m7
    have c8 : σ.1 8 (120 + k) = oI (p 3 k) := by rw [hK.1 8 (by decide) (by decide)]; exact m8
    have e12 := hK.1 12 (by decide) (by decide)
    rcases h.kn hk with ⟨y, hr, hy, z2, z3, h4, hw⟩ | ⟨hr, z2, z3, h4, hw⟩ | ⟨hr, x, hx, x1, x2, z3, h4, hw⟩ | ⟨hr, x, y, hx, x1, x2, hy, y1, y2, h4, hw⟩
    · rw [← e12] at hr
      rw [z2, oI_0] at c7
      rw [z3, oI_0] at c8
      refine am_run 4 (pc' := 8) (ls' := [some (.ref 0), some (.int (nI a)), v2, v3, v4]) (st' := [.int (nI 2), .ref 2, .int (nI a)]) (σ' := σ) rfl ?_
      refine am_ialdN (n := 3) (v := nI n) rfl rfl rfl (by omega) hn2 (by decide) ?_
      refine am_ic (ty := 12) (tn := 150) rfl (by decide) rfl rfl (fun (h_301 : nI a < nI n) => ?_) (fun (h_301 : ¬ (nI a < nI n)) => ?_)
      rotate_left
      · have h_301 : ¬ (a < n) := fun z => h_301 ((nI_ltI (by omega) (by omega)).mpr z)
        omega
      have h_301 : a < n := (nI_ltI (by omega) (by omega)).mp h_301
      refine am_run 5 (pc' := 19) (ls' := [some (.ref 0), some (.int (nI a)), v2, v3, v4]) (st' := [.int (nI a), .int (nI 2), .ref 9, .int (nI 2)]) (σ' := σ) rfl ?_
      refine am_invs (y := 158) (as := [.int (nI 2), .int (nI a)]) (rest := [.ref 9, .int (nI 2)]) rfl rfl rfl rfl rfl rfl (Nat.le_of_ble_eq_true rfl) ?_
      refine c_m_placeOf (by omega) (j := 2) ?_
      show am_G _ M_X10_laysSizes _ 22 [some (.ref 0), some (.int (nI a)), v2, v3, v4] [.int (nI (120 + a)), .ref 9, .int (nI 2)] σ
      refine am_ialdN (n := 180) (v := nI k) rfl rfl rfl (by omega) c9 (by decide) ?_
      refine am_invs (y := 158) (as := [.int (nI 2), .int (nI k)]) (rest := []) rfl rfl rfl rfl rfl rfl (Nat.le_of_ble_eq_true rfl) ?_
      refine c_m_placeOf (by omega) (j := 2) ?_
      show am_G _ M_X10_laysSizes _ 26 [some (.ref 0), some (.int (nI a)), v2, v3, v4] [.int (nI (120 + k))] σ
      refine am_run 7 (pc' := 37) (ls' := [some (.ref 0), some (.int (nI a)), some (.int (nI (120 + k))), v3, v4]) (st' := [.int (nI (120 + k)), .ref 12, .int (nI (120 + k)), .ref 13]) (σ' := σ) rfl ?_
      refine am_ialdN (n := 180) (v := nI y) rfl rfl rfl (by omega) hr (by decide) ?_
      refine am_run 1 (pc' := 39) (ls' := [some (.ref 0), some (.int (nI a)), some (.int (nI (120 + k))), v3, v4]) (st' := [.int (-1), .int (nI y), .int (nI (120 + k)), .ref 13]) (σ' := σ) rfl ?_
      refine am_ic (ty := 42) (tn := 46) rfl (by decide) rfl rfl (fun (h_302 : nI y = -1) => ?_) (fun (h_302 : ¬ (nI y = -1)) => ?_)
      · exact absurd h_302 (am_nm1 (by omega))
      refine am_run 4 (pc' := 52) (ls' := [some (.ref 0), some (.int (nI a)), some (.int (nI (120 + k))), v3, v4]) (st' := [.int (nI (120 + k)), .ref 12, .int (nI 1), .int (nI (120 + k)), .ref 13]) (σ' := σ) rfl ?_
      refine am_ialdN (n := 180) (v := nI y) rfl rfl rfl (by omega) hr (by decide) ?_
      refine am_run 1 (pc' := 54) (ls' := [some (.ref 0), some (.int (nI a)), some (.int (nI (120 + k))), v3, v4]) (st' := [.int ((nI 1) <<< ((nI y) &&& 31)), .int (nI (120 + k)), .ref 13]) (σ' := σ) rfl ?_
      refine am_top (v' := nI (1 * 2 ^ y)) (nx_shl 1 (by omega)) ?_
      refine am_iastN (n := 180) rfl rfl rfl (by omega) (by decide) ?_
      refine am_run 4 (pc' := 61) (ls' := [some (.ref 0), some (.int (nI a)), some (.int (nI (120 + k))), v3, v4]) (st' := [.int (nI 0), .int (nI (120 + k)), .ref 14]) (σ' := (am_wr σ 13 (120 + k) (nI (1 * 2 ^ y)))) rfl ?_
      refine am_iastN (n := 180) rfl rfl rfl (by omega) (by decide) ?_
      refine am_run 4 (pc' := 66) (ls' := [some (.ref 0), some (.int (nI a)), some (.int (nI (120 + k))), some (.int (nI 0)), v4]) (st' := [.int (nI 2), .int (nI 0)]) (σ' := (am_wr (am_wr σ 13 (120 + k) (nI (1 * 2 ^ y))) 14 (120 + k) (nI 0))) rfl ?_
      refine am_ic (ty := 69) (tn := 144) rfl (by decide) rfl rfl (fun (h_303 : nI 0 < nI 2) => ?_) (fun (h_303 : ¬ (nI 0 < nI 2)) => ?_)
      rotate_left
      · exact absurd (by decide) h_303
      refine am_run 1 (pc' := 70) (ls' := [some (.ref 0), some (.int (nI a)), some (.int (nI (120 + k))), some (.int (nI 0)), v4]) (st' := [.int (nI 0)]) (σ' := (am_wr (am_wr σ 13 (120 + k) (nI (1 * 2 ^ y))) 14 (120 + k) (nI 0))) rfl ?_
      refine am_if (ty := 73) (tn := 82) rfl (by decide) rfl rfl (fun (h_304 : nI 0 = 0) => ?_) (fun (h_304 : ¬ (nI 0 = 0)) => ?_)
      rotate_left
      · exact absurd (by decide) h_304
      refine am_run 3 (pc' := 78) (ls' := [some (.ref 0), some (.int (nI a)), some (.int (nI (120 + k))), some (.int (nI 0)), v4]) (st' := [.int (nI (120 + k)), .ref 7]) (σ' := (am_wr (am_wr σ 13 (120 + k) (nI (1 * 2 ^ y))) 14 (120 + k) (nI 0))) rfl ?_
      refine am_ialdN (n := 180) (v := -1) rfl rfl rfl (by omega) (by rw [am_wr_ne _ (by omega), am_wr_ne _ (by omega)]; exact c7) (by decide) ?_
      refine am_run 4 (pc' := 93) (ls' := [some (.ref 0), some (.int (nI a)), some (.int (nI (120 + k))), some (.int (nI 0)), some (.int (-1))]) (st' := [.int (-1), .int (-1)]) (σ' := (am_wr (am_wr σ 13 (120 + k) (nI (1 * 2 ^ y))) 14 (120 + k) (nI 0))) rfl ?_
      refine am_ic (ty := 138) (tn := 96) rfl (by decide) rfl rfl (fun (h_305 : -1 = -1) => ?_) (fun (h_305 : ¬ (-1 = -1)) => ?_)
      rotate_left
      · exact absurd (by decide) h_305
      refine am_run 1 (pc' := 141) (ls' := [some (.ref 0), some (.int (nI a)), some (.int (nI (120 + k))), some (.int (nI 0 + nI 1)), some (.int (-1))]) (st' := []) (σ' := (am_wr (am_wr σ 13 (120 + k) (nI (1 * 2 ^ y))) 14 (120 + k) (nI 0))) rfl ?_
      refine am_ls (ls' := [some (.ref 0), some (.int (nI a)), some (.int (nI (120 + k))), some (.int (nI 1)), some (.int (-1))]) (by rw [nI_add]) ?_
      refine am_run 3 (pc' := 66) (ls' := [some (.ref 0), some (.int (nI a)), some (.int (nI (120 + k))), some (.int (nI 1)), some (.int (-1))]) (st' := [.int (nI 2), .int (nI 1)]) (σ' := (am_wr (am_wr σ 13 (120 + k) (nI (1 * 2 ^ y))) 14 (120 + k) (nI 0))) rfl ?_
      refine am_ic (ty := 69) (tn := 144) rfl (by decide) rfl rfl (fun (h_306 : nI 1 < nI 2) => ?_) (fun (h_306 : ¬ (nI 1 < nI 2)) => ?_)
      rotate_left
      · exact absurd (by decide) h_306
      refine am_run 1 (pc' := 70) (ls' := [some (.ref 0), some (.int (nI a)), some (.int (nI (120 + k))), some (.int (nI 1)), some (.int (-1))]) (st' := [.int (nI 1)]) (σ' := (am_wr (am_wr σ 13 (120 + k) (nI (1 * 2 ^ y))) 14 (120 + k) (nI 0))) rfl ?_
      refine am_if (ty := 73) (tn := 82) rfl (by decide) rfl rfl (fun (h_307 : nI 1 = 0) => ?_) (fun (h_307 : ¬ (nI 1 = 0)) => ?_)
      · exact absurd h_307 (by decide)
      refine am_run 3 (pc' := 87) (ls' := [some (.ref 0), some (.int (nI a)), some (.int (nI (120 + k))), some (.int (nI 1)), some (.int (-1))]) (st' := [.int (nI (120 + k)), .ref 8]) (σ' := (am_wr (am_wr σ 13 (120 + k) (nI (1 * 2 ^ y))) 14 (120 + k) (nI 0))) rfl ?_
      refine am_ialdN (n := 180) (v := -1) rfl rfl rfl (by omega) (by rw [am_wr_ne _ (by omega), am_wr_ne _ (by omega)]; exact c8) (by decide) ?_
      refine am_run 3 (pc' := 93) (ls' := [some (.ref 0), some (.int (nI a)), some (.int (nI (120 + k))), some (.int (nI 1)), some (.int (-1))]) (st' := [.int (-1), .int (-1)]) (σ' := (am_wr (am_wr σ 13 (120 + k) (nI (1 * 2 ^ y))) 14 (120 + k) (nI 0))) rfl ?_
      refine am_ic (ty := 138) (tn := 96) rfl (by decide) rfl rfl (fun (h_308 : -1 = -1) => ?_) (fun (h_308 : ¬ (-1 = -1)) => ?_)
      rotate_left
      · exact absurd (by decide) h_308
      refine am_run 1 (pc' := 141) (ls' := [some (.ref 0), some (.int (nI a)), some (.int (nI (120 + k))), some (.int (nI 1 + nI 1)), some (.int (-1))]) (st' := []) (σ' := (am_wr (am_wr σ 13 (120 + k) (nI (1 * 2 ^ y))) 14 (120 + k) (nI 0))) rfl ?_
      refine am_ls (ls' := [some (.ref 0), some (.int (nI a)), some (.int (nI (120 + k))), some (.int (nI 2)), some (.int (-1))]) (by rw [nI_add]) ?_
      refine am_run 3 (pc' := 66) (ls' := [some (.ref 0), some (.int (nI a)), some (.int (nI (120 + k))), some (.int (nI 2)), some (.int (-1))]) (st' := [.int (nI 2), .int (nI 2)]) (σ' := (am_wr (am_wr σ 13 (120 + k) (nI (1 * 2 ^ y))) 14 (120 + k) (nI 0))) rfl ?_
      refine am_ic (ty := 69) (tn := 144) rfl (by decide) rfl rfl (fun (h_309 : nI 2 < nI 2) => ?_) (fun (h_309 : ¬ (nI 2 < nI 2)) => ?_)
      · exact absurd h_309 (by decide)
      refine am_run 1 (pc' := 147) (ls' := [some (.ref 0), some (.int (nI a + nI 1)), some (.int (nI (120 + k))), some (.int (nI 2)), some (.int (-1))]) (st' := []) (σ' := (am_wr (am_wr σ 13 (120 + k) (nI (1 * 2 ^ y))) 14 (120 + k) (nI 0))) rfl ?_
      refine am_ls (ls' := [some (.ref 0), some (.int (nI (a + 1))), some (.int (nI (120 + k))), some (.int (nI 2)), some (.int (-1))]) (by rw [nI_add]) ?_
      refine am_run 1 (pc' := 2) (ls' := [some (.ref 0), some (.int (nI (a + 1))), some (.int (nI (120 + k))), some (.int (nI 2)), some (.int (-1))]) (st' := []) (σ' := (am_wr (am_wr σ 13 (120 + k) (nI (1 * 2 ^ y))) 14 (120 + k) (nI 0))) rfl ?_
      refine ls_loop hd h hq m (a + 1) _ _ _ _ (by omega) ((hK.wr _ (by omega) (by omega)).wr _ (by omega) (by omega)) (fun k' h1 h2 => ?_)
      by_cases hz : k' = k
      · subst hz
        exact ⟨by rw [am_ne2 _ (by omega), am_same, h4], by rw [am_same, hw]⟩
      · have := rkk k' h1 hz
        obtain ⟨u1, u2⟩ := hold k' h1 (by omega)
        exact ⟨by rw [am_ne2 _ (by omega), am_ne2 _ (by omega)]; exact u1, by rw [am_ne2 _ (by omega), am_ne2 _ (by omega)]; exact u2⟩
    · rw [← e12] at hr
      rw [z2, oI_0] at c7
      rw [z3, oI_0] at c8
      refine am_run 4 (pc' := 8) (ls' := [some (.ref 0), some (.int (nI a)), v2, v3, v4]) (st' := [.int (nI 2), .ref 2, .int (nI a)]) (σ' := σ) rfl ?_
      refine am_ialdN (n := 3) (v := nI n) rfl rfl rfl (by omega) hn2 (by decide) ?_
      refine am_ic (ty := 12) (tn := 150) rfl (by decide) rfl rfl (fun (h_301 : nI a < nI n) => ?_) (fun (h_301 : ¬ (nI a < nI n)) => ?_)
      rotate_left
      · have h_301 : ¬ (a < n) := fun z => h_301 ((nI_ltI (by omega) (by omega)).mpr z)
        omega
      have h_301 : a < n := (nI_ltI (by omega) (by omega)).mp h_301
      refine am_run 5 (pc' := 19) (ls' := [some (.ref 0), some (.int (nI a)), v2, v3, v4]) (st' := [.int (nI a), .int (nI 2), .ref 9, .int (nI 2)]) (σ' := σ) rfl ?_
      refine am_invs (y := 158) (as := [.int (nI 2), .int (nI a)]) (rest := [.ref 9, .int (nI 2)]) rfl rfl rfl rfl rfl rfl (Nat.le_of_ble_eq_true rfl) ?_
      refine c_m_placeOf (by omega) (j := 2) ?_
      show am_G _ M_X10_laysSizes _ 22 [some (.ref 0), some (.int (nI a)), v2, v3, v4] [.int (nI (120 + a)), .ref 9, .int (nI 2)] σ
      refine am_ialdN (n := 180) (v := nI k) rfl rfl rfl (by omega) c9 (by decide) ?_
      refine am_invs (y := 158) (as := [.int (nI 2), .int (nI k)]) (rest := []) rfl rfl rfl rfl rfl rfl (Nat.le_of_ble_eq_true rfl) ?_
      refine c_m_placeOf (by omega) (j := 2) ?_
      show am_G _ M_X10_laysSizes _ 26 [some (.ref 0), some (.int (nI a)), v2, v3, v4] [.int (nI (120 + k))] σ
      refine am_run 7 (pc' := 37) (ls' := [some (.ref 0), some (.int (nI a)), some (.int (nI (120 + k))), v3, v4]) (st' := [.int (nI (120 + k)), .ref 12, .int (nI (120 + k)), .ref 13]) (σ' := σ) rfl ?_
      refine am_ialdN (n := 180) (v := -1) rfl rfl rfl (by omega) hr (by decide) ?_
      refine am_run 1 (pc' := 39) (ls' := [some (.ref 0), some (.int (nI a)), some (.int (nI (120 + k))), v3, v4]) (st' := [.int (-1), .int (-1), .int (nI (120 + k)), .ref 13]) (σ' := σ) rfl ?_
      refine am_ic (ty := 42) (tn := 46) rfl (by decide) rfl rfl (fun (h_302 : -1 = -1) => ?_) (fun (h_302 : ¬ (-1 = -1)) => ?_)
      rotate_left
      · exact absurd (by decide) h_302
      refine am_run 2 (pc' := 54) (ls' := [some (.ref 0), some (.int (nI a)), some (.int (nI (120 + k))), v3, v4]) (st' := [.int (nI 0), .int (nI (120 + k)), .ref 13]) (σ' := σ) rfl ?_
      refine am_iastN (n := 180) rfl rfl rfl (by omega) (by decide) ?_
      refine am_run 4 (pc' := 61) (ls' := [some (.ref 0), some (.int (nI a)), some (.int (nI (120 + k))), v3, v4]) (st' := [.int (nI 0), .int (nI (120 + k)), .ref 14]) (σ' := (am_wr σ 13 (120 + k) (nI 0))) rfl ?_
      refine am_iastN (n := 180) rfl rfl rfl (by omega) (by decide) ?_
      refine am_run 4 (pc' := 66) (ls' := [some (.ref 0), some (.int (nI a)), some (.int (nI (120 + k))), some (.int (nI 0)), v4]) (st' := [.int (nI 2), .int (nI 0)]) (σ' := (am_wr (am_wr σ 13 (120 + k) (nI 0)) 14 (120 + k) (nI 0))) rfl ?_
      refine am_ic (ty := 69) (tn := 144) rfl (by decide) rfl rfl (fun (h_303 : nI 0 < nI 2) => ?_) (fun (h_303 : ¬ (nI 0 < nI 2)) => ?_)
      rotate_left
      · exact absurd (by decide) h_303
      refine am_run 1 (pc' := 70) (ls' := [some (.ref 0), some (.int (nI a)), some (.int (nI (120 + k))), some (.int (nI 0)), v4]) (st' := [.int (nI 0)]) (σ' := (am_wr (am_wr σ 13 (120 + k) (nI 0)) 14 (120 + k) (nI 0))) rfl ?_
      refine am_if (ty := 73) (tn := 82) rfl (by decide) rfl rfl (fun (h_304 : nI 0 = 0) => ?_) (fun (h_304 : ¬ (nI 0 = 0)) => ?_)
      rotate_left
      · exact absurd (by decide) h_304
      refine am_run 3 (pc' := 78) (ls' := [some (.ref 0), some (.int (nI a)), some (.int (nI (120 + k))), some (.int (nI 0)), v4]) (st' := [.int (nI (120 + k)), .ref 7]) (σ' := (am_wr (am_wr σ 13 (120 + k) (nI 0)) 14 (120 + k) (nI 0))) rfl ?_
      refine am_ialdN (n := 180) (v := -1) rfl rfl rfl (by omega) (by rw [am_wr_ne _ (by omega), am_wr_ne _ (by omega)]; exact c7) (by decide) ?_
      refine am_run 4 (pc' := 93) (ls' := [some (.ref 0), some (.int (nI a)), some (.int (nI (120 + k))), some (.int (nI 0)), some (.int (-1))]) (st' := [.int (-1), .int (-1)]) (σ' := (am_wr (am_wr σ 13 (120 + k) (nI 0)) 14 (120 + k) (nI 0))) rfl ?_
      refine am_ic (ty := 138) (tn := 96) rfl (by decide) rfl rfl (fun (h_305 : -1 = -1) => ?_) (fun (h_305 : ¬ (-1 = -1)) => ?_)
      rotate_left
      · exact absurd (by decide) h_305
      refine am_run 1 (pc' := 141) (ls' := [some (.ref 0), some (.int (nI a)), some (.int (nI (120 + k))), some (.int (nI 0 + nI 1)), some (.int (-1))]) (st' := []) (σ' := (am_wr (am_wr σ 13 (120 + k) (nI 0)) 14 (120 + k) (nI 0))) rfl ?_
      refine am_ls (ls' := [some (.ref 0), some (.int (nI a)), some (.int (nI (120 + k))), some (.int (nI 1)), some (.int (-1))]) (by rw [nI_add]) ?_
      refine am_run 3 (pc' := 66) (ls' := [some (.ref 0), some (.int (nI a)), some (.int (nI (120 + k))), some (.int (nI 1)), some (.int (-1))]) (st' := [.int (nI 2), .int (nI 1)]) (σ' := (am_wr (am_wr σ 13 (120 + k) (nI 0)) 14 (120 + k) (nI 0))) rfl ?_
      refine am_ic (ty := 69) (tn := 144) rfl (by decide) rfl rfl (fun (h_306 : nI 1 < nI 2) => ?_) (fun (h_306 : ¬ (nI 1 < nI 2)) => ?_)
      rotate_left
      · exact absurd (by decide) h_306
      refine am_run 1 (pc' := 70) (ls' := [some (.ref 0), some (.int (nI a)), some (.int (nI (120 + k))), some (.int (nI 1)), some (.int (-1))]) (st' := [.int (nI 1)]) (σ' := (am_wr (am_wr σ 13 (120 + k) (nI 0)) 14 (120 + k) (nI 0))) rfl ?_
      refine am_if (ty := 73) (tn := 82) rfl (by decide) rfl rfl (fun (h_307 : nI 1 = 0) => ?_) (fun (h_307 : ¬ (nI 1 = 0)) => ?_)
      · exact absurd h_307 (by decide)
      refine am_run 3 (pc' := 87) (ls' := [some (.ref 0), some (.int (nI a)), some (.int (nI (120 + k))), some (.int (nI 1)), some (.int (-1))]) (st' := [.int (nI (120 + k)), .ref 8]) (σ' := (am_wr (am_wr σ 13 (120 + k) (nI 0)) 14 (120 + k) (nI 0))) rfl ?_
      refine am_ialdN (n := 180) (v := -1) rfl rfl rfl (by omega) (by rw [am_wr_ne _ (by omega), am_wr_ne _ (by omega)]; exact c8) (by decide) ?_
      refine am_run 3 (pc' := 93) (ls' := [some (.ref 0), some (.int (nI a)), some (.int (nI (120 + k))), some (.int (nI 1)), some (.int (-1))]) (st' := [.int (-1), .int (-1)]) (σ' := (am_wr (am_wr σ 13 (120 + k) (nI 0)) 14 (120 + k) (nI 0))) rfl ?_
      refine am_ic (ty := 138) (tn := 96) rfl (by decide) rfl rfl (fun (h_308 : -1 = -1) => ?_) (fun (h_308 : ¬ (-1 = -1)) => ?_)
      rotate_left
      · exact absurd (by decide) h_308
      refine am_run 1 (pc' := 141) (ls' := [some (.ref 0), some (.int (nI a)), some (.int (nI (120 + k))), some (.int (nI 1 + nI 1)), some (.int (-1))]) (st' := []) (σ' := (am_wr (am_wr σ 13 (120 + k) (nI 0)) 14 (120 + k) (nI 0))) rfl ?_
      refine am_ls (ls' := [some (.ref 0), some (.int (nI a)), some (.int (nI (120 + k))), some (.int (nI 2)), some (.int (-1))]) (by rw [nI_add]) ?_
      refine am_run 3 (pc' := 66) (ls' := [some (.ref 0), some (.int (nI a)), some (.int (nI (120 + k))), some (.int (nI 2)), some (.int (-1))]) (st' := [.int (nI 2), .int (nI 2)]) (σ' := (am_wr (am_wr σ 13 (120 + k) (nI 0)) 14 (120 + k) (nI 0))) rfl ?_
      refine am_ic (ty := 69) (tn := 144) rfl (by decide) rfl rfl (fun (h_309 : nI 2 < nI 2) => ?_) (fun (h_309 : ¬ (nI 2 < nI 2)) => ?_)
      · exact absurd h_309 (by decide)
      refine am_run 1 (pc' := 147) (ls' := [some (.ref 0), some (.int (nI a + nI 1)), some (.int (nI (120 + k))), some (.int (nI 2)), some (.int (-1))]) (st' := []) (σ' := (am_wr (am_wr σ 13 (120 + k) (nI 0)) 14 (120 + k) (nI 0))) rfl ?_
      refine am_ls (ls' := [some (.ref 0), some (.int (nI (a + 1))), some (.int (nI (120 + k))), some (.int (nI 2)), some (.int (-1))]) (by rw [nI_add]) ?_
      refine am_run 1 (pc' := 2) (ls' := [some (.ref 0), some (.int (nI (a + 1))), some (.int (nI (120 + k))), some (.int (nI 2)), some (.int (-1))]) (st' := []) (σ' := (am_wr (am_wr σ 13 (120 + k) (nI 0)) 14 (120 + k) (nI 0))) rfl ?_
      refine ls_loop hd h hq m (a + 1) _ _ _ _ (by omega) ((hK.wr _ (by omega) (by omega)).wr _ (by omega) (by omega)) (fun k' h1 h2 => ?_)
      by_cases hz : k' = k
      · subst hz
        exact ⟨by rw [am_ne2 _ (by omega), am_same, h4], by rw [am_same, hw]⟩
      · have := rkk k' h1 hz
        obtain ⟨u1, u2⟩ := hold k' h1 (by omega)
        exact ⟨by rw [am_ne2 _ (by omega), am_ne2 _ (by omega)]; exact u1, by rw [am_ne2 _ (by omega), am_ne2 _ (by omega)]; exact u2⟩
    · rw [← e12] at hr
      have xk : x ≠ k := fun z => by rw [z] at x2; omega
      rw [hx, oI_s] at c7
      rw [z3, oI_0] at c8
      refine am_run 4 (pc' := 8) (ls' := [some (.ref 0), some (.int (nI a)), v2, v3, v4]) (st' := [.int (nI 2), .ref 2, .int (nI a)]) (σ' := σ) rfl ?_
      refine am_ialdN (n := 3) (v := nI n) rfl rfl rfl (by omega) hn2 (by decide) ?_
      refine am_ic (ty := 12) (tn := 150) rfl (by decide) rfl rfl (fun (h_301 : nI a < nI n) => ?_) (fun (h_301 : ¬ (nI a < nI n)) => ?_)
      rotate_left
      · have h_301 : ¬ (a < n) := fun z => h_301 ((nI_ltI (by omega) (by omega)).mpr z)
        omega
      have h_301 : a < n := (nI_ltI (by omega) (by omega)).mp h_301
      refine am_run 5 (pc' := 19) (ls' := [some (.ref 0), some (.int (nI a)), v2, v3, v4]) (st' := [.int (nI a), .int (nI 2), .ref 9, .int (nI 2)]) (σ' := σ) rfl ?_
      refine am_invs (y := 158) (as := [.int (nI 2), .int (nI a)]) (rest := [.ref 9, .int (nI 2)]) rfl rfl rfl rfl rfl rfl (Nat.le_of_ble_eq_true rfl) ?_
      refine c_m_placeOf (by omega) (j := 2) ?_
      show am_G _ M_X10_laysSizes _ 22 [some (.ref 0), some (.int (nI a)), v2, v3, v4] [.int (nI (120 + a)), .ref 9, .int (nI 2)] σ
      refine am_ialdN (n := 180) (v := nI k) rfl rfl rfl (by omega) c9 (by decide) ?_
      refine am_invs (y := 158) (as := [.int (nI 2), .int (nI k)]) (rest := []) rfl rfl rfl rfl rfl rfl (Nat.le_of_ble_eq_true rfl) ?_
      refine c_m_placeOf (by omega) (j := 2) ?_
      show am_G _ M_X10_laysSizes _ 26 [some (.ref 0), some (.int (nI a)), v2, v3, v4] [.int (nI (120 + k))] σ
      refine am_run 7 (pc' := 37) (ls' := [some (.ref 0), some (.int (nI a)), some (.int (nI (120 + k))), v3, v4]) (st' := [.int (nI (120 + k)), .ref 12, .int (nI (120 + k)), .ref 13]) (σ' := σ) rfl ?_
      refine am_ialdN (n := 180) (v := -1) rfl rfl rfl (by omega) hr (by decide) ?_
      refine am_run 1 (pc' := 39) (ls' := [some (.ref 0), some (.int (nI a)), some (.int (nI (120 + k))), v3, v4]) (st' := [.int (-1), .int (-1), .int (nI (120 + k)), .ref 13]) (σ' := σ) rfl ?_
      refine am_ic (ty := 42) (tn := 46) rfl (by decide) rfl rfl (fun (h_302 : -1 = -1) => ?_) (fun (h_302 : ¬ (-1 = -1)) => ?_)
      rotate_left
      · exact absurd (by decide) h_302
      refine am_run 2 (pc' := 54) (ls' := [some (.ref 0), some (.int (nI a)), some (.int (nI (120 + k))), v3, v4]) (st' := [.int (nI 0), .int (nI (120 + k)), .ref 13]) (σ' := σ) rfl ?_
      refine am_iastN (n := 180) rfl rfl rfl (by omega) (by decide) ?_
      refine am_run 4 (pc' := 61) (ls' := [some (.ref 0), some (.int (nI a)), some (.int (nI (120 + k))), v3, v4]) (st' := [.int (nI 0), .int (nI (120 + k)), .ref 14]) (σ' := (am_wr σ 13 (120 + k) (nI 0))) rfl ?_
      refine am_iastN (n := 180) rfl rfl rfl (by omega) (by decide) ?_
      refine am_run 4 (pc' := 66) (ls' := [some (.ref 0), some (.int (nI a)), some (.int (nI (120 + k))), some (.int (nI 0)), v4]) (st' := [.int (nI 2), .int (nI 0)]) (σ' := (am_wr (am_wr σ 13 (120 + k) (nI 0)) 14 (120 + k) (nI 0))) rfl ?_
      refine am_ic (ty := 69) (tn := 144) rfl (by decide) rfl rfl (fun (h_303 : nI 0 < nI 2) => ?_) (fun (h_303 : ¬ (nI 0 < nI 2)) => ?_)
      rotate_left
      · exact absurd (by decide) h_303
      refine am_run 1 (pc' := 70) (ls' := [some (.ref 0), some (.int (nI a)), some (.int (nI (120 + k))), some (.int (nI 0)), v4]) (st' := [.int (nI 0)]) (σ' := (am_wr (am_wr σ 13 (120 + k) (nI 0)) 14 (120 + k) (nI 0))) rfl ?_
      refine am_if (ty := 73) (tn := 82) rfl (by decide) rfl rfl (fun (h_304 : nI 0 = 0) => ?_) (fun (h_304 : ¬ (nI 0 = 0)) => ?_)
      rotate_left
      · exact absurd (by decide) h_304
      refine am_run 3 (pc' := 78) (ls' := [some (.ref 0), some (.int (nI a)), some (.int (nI (120 + k))), some (.int (nI 0)), v4]) (st' := [.int (nI (120 + k)), .ref 7]) (σ' := (am_wr (am_wr σ 13 (120 + k) (nI 0)) 14 (120 + k) (nI 0))) rfl ?_
      refine am_ialdN (n := 180) (v := nI x) rfl rfl rfl (by omega) (by rw [am_wr_ne _ (by omega), am_wr_ne _ (by omega)]; exact c7) (by decide) ?_
      refine am_run 4 (pc' := 93) (ls' := [some (.ref 0), some (.int (nI a)), some (.int (nI (120 + k))), some (.int (nI 0)), some (.int (nI x))]) (st' := [.int (-1), .int (nI x)]) (σ' := (am_wr (am_wr σ 13 (120 + k) (nI 0)) 14 (120 + k) (nI 0))) rfl ?_
      refine am_ic (ty := 138) (tn := 96) rfl (by decide) rfl rfl (fun (h_305 : nI x = -1) => ?_) (fun (h_305 : ¬ (nI x = -1)) => ?_)
      · exact absurd h_305 (am_nm1 (by omega))
      refine am_run 4 (pc' := 102) (ls' := [some (.ref 0), some (.int (nI a)), some (.int (nI (120 + k))), some (.int (nI 0)), some (.int (nI x))]) (st' := [.int (nI (120 + k)), .ref 13, .int (nI (120 + k)), .ref 13]) (σ' := (am_wr (am_wr σ 13 (120 + k) (nI 0)) 14 (120 + k) (nI 0))) rfl ?_
      refine am_ialdN (n := 180) (v := nI 0) rfl rfl rfl (by omega) (by rw [am_ne2 _ (by omega), am_same]) (by decide) ?_
      refine am_run 4 (pc' := 110) (ls' := [some (.ref 0), some (.int (nI a)), some (.int (nI (120 + k))), some (.int (nI 0)), some (.int (nI x))]) (st' := [.int (nI x), .int (nI 2), .ref 13, .int (nI 0), .int (nI (120 + k)), .ref 13]) (σ' := (am_wr (am_wr σ 13 (120 + k) (nI 0)) 14 (120 + k) (nI 0))) rfl ?_
      refine am_invs (y := 158) (as := [.int (nI 2), .int (nI x)]) (rest := [.ref 13, .int (nI 0), .int (nI (120 + k)), .ref 13]) rfl rfl rfl rfl rfl rfl (Nat.le_of_ble_eq_true rfl) ?_
      refine c_m_placeOf (by omega) (j := 2) ?_
      show am_G _ M_X10_laysSizes _ 113 [some (.ref 0), some (.int (nI a)), some (.int (nI (120 + k))), some (.int (nI 0)), some (.int (nI x))] [.int (nI (120 + x)), .ref 13, .int (nI 0), .int (nI (120 + k)), .ref 13] (am_wr (am_wr σ 13 (120 + k) (nI 0)) 14 (120 + k) (nI 0))
      refine am_ialdN (n := 180) (v := nI (p 4 x)) rfl rfl rfl (by omega) (by rw [am_ne2 _ (by omega), am_ne2 _ (by omega)]; exact (hold x x1 (by omega)).1) (by decide) ?_
      refine am_run 1 (pc' := 115) (ls' := [some (.ref 0), some (.int (nI a)), some (.int (nI (120 + k))), some (.int (nI 0)), some (.int (nI x))]) (st' := [.int (nI 0 ||| nI (p 4 x)), .int (nI (120 + k)), .ref 13]) (σ' := (am_wr (am_wr σ 13 (120 + k) (nI 0)) 14 (120 + k) (nI 0))) rfl ?_
      refine am_top (v' := nI (0 ||| p 4 x)) (nx_or _ _) ?_
      refine am_iastN (n := 180) rfl rfl rfl (by omega) (by decide) ?_
      refine am_run 4 (pc' := 122) (ls' := [some (.ref 0), some (.int (nI a)), some (.int (nI (120 + k))), some (.int (nI 0)), some (.int (nI x))]) (st' := [.int (nI (120 + k)), .ref 14, .int (nI (120 + k)), .ref 14]) (σ' := (am_wr (am_wr (am_wr σ 13 (120 + k) (nI 0)) 14 (120 + k) (nI 0)) 13 (120 + k) (nI (0 ||| p 4 x)))) rfl ?_
      refine am_ialdN (n := 180) (v := nI 0) rfl rfl rfl (by omega) (by rw [am_ne2 _ (by omega), am_same]) (by decide) ?_
      refine am_run 4 (pc' := 130) (ls' := [some (.ref 0), some (.int (nI a)), some (.int (nI (120 + k))), some (.int (nI 0)), some (.int (nI x))]) (st' := [.int (nI x), .int (nI 2), .ref 14, .int (nI 0), .int (nI (120 + k)), .ref 14]) (σ' := (am_wr (am_wr (am_wr σ 13 (120 + k) (nI 0)) 14 (120 + k) (nI 0)) 13 (120 + k) (nI (0 ||| p 4 x)))) rfl ?_
      refine am_invs (y := 158) (as := [.int (nI 2), .int (nI x)]) (rest := [.ref 14, .int (nI 0), .int (nI (120 + k)), .ref 14]) rfl rfl rfl rfl rfl rfl (Nat.le_of_ble_eq_true rfl) ?_
      refine c_m_placeOf (by omega) (j := 2) ?_
      show am_G _ M_X10_laysSizes _ 133 [some (.ref 0), some (.int (nI a)), some (.int (nI (120 + k))), some (.int (nI 0)), some (.int (nI x))] [.int (nI (120 + x)), .ref 14, .int (nI 0), .int (nI (120 + k)), .ref 14] (am_wr (am_wr (am_wr σ 13 (120 + k) (nI 0)) 14 (120 + k) (nI 0)) 13 (120 + k) (nI (0 ||| p 4 x)))
      refine am_ialdN (n := 180) (v := nI (p 7 x - p 6 x)) rfl rfl rfl (by omega) (by rw [am_ne2 _ (by omega), am_ne2 _ (by omega), am_ne2 _ (by omega)]; exact (hold x x1 (by omega)).2) (by decide) ?_
      refine am_run 2 (pc' := 136) (ls' := [some (.ref 0), some (.int (nI a)), some (.int (nI (120 + k))), some (.int (nI 0)), some (.int (nI x))]) (st' := [.int (nI (p 7 x - p 6 x) + nI 1), .int (nI 0), .int (nI (120 + k)), .ref 14]) (σ' := (am_wr (am_wr (am_wr σ 13 (120 + k) (nI 0)) 14 (120 + k) (nI 0)) 13 (120 + k) (nI (0 ||| p 4 x)))) rfl ?_
      refine am_top (v' := nI (p 7 x - p 6 x + 1)) (nI_add _ _) ?_
      refine am_run 1 (pc' := 137) (ls' := [some (.ref 0), some (.int (nI a)), some (.int (nI (120 + k))), some (.int (nI 0)), some (.int (nI x))]) (st' := [.int (nI 0 + nI (p 7 x - p 6 x + 1)), .int (nI (120 + k)), .ref 14]) (σ' := (am_wr (am_wr (am_wr σ 13 (120 + k) (nI 0)) 14 (120 + k) (nI 0)) 13 (120 + k) (nI (0 ||| p 4 x)))) rfl ?_
      refine am_top (v' := nI (0 + (p 7 x - p 6 x + 1))) (nI_add _ _) ?_
      refine am_iastN (n := 180) rfl rfl rfl (by omega) (by decide) ?_
      refine am_run 1 (pc' := 141) (ls' := [some (.ref 0), some (.int (nI a)), some (.int (nI (120 + k))), some (.int (nI 0 + nI 1)), some (.int (nI x))]) (st' := []) (σ' := (am_wr (am_wr (am_wr (am_wr σ 13 (120 + k) (nI 0)) 14 (120 + k) (nI 0)) 13 (120 + k) (nI (0 ||| p 4 x))) 14 (120 + k) (nI (0 + (p 7 x - p 6 x + 1))))) rfl ?_
      refine am_ls (ls' := [some (.ref 0), some (.int (nI a)), some (.int (nI (120 + k))), some (.int (nI 1)), some (.int (nI x))]) (by rw [nI_add]) ?_
      refine am_run 3 (pc' := 66) (ls' := [some (.ref 0), some (.int (nI a)), some (.int (nI (120 + k))), some (.int (nI 1)), some (.int (nI x))]) (st' := [.int (nI 2), .int (nI 1)]) (σ' := (am_wr (am_wr (am_wr (am_wr σ 13 (120 + k) (nI 0)) 14 (120 + k) (nI 0)) 13 (120 + k) (nI (0 ||| p 4 x))) 14 (120 + k) (nI (0 + (p 7 x - p 6 x + 1))))) rfl ?_
      refine am_ic (ty := 69) (tn := 144) rfl (by decide) rfl rfl (fun (h_306 : nI 1 < nI 2) => ?_) (fun (h_306 : ¬ (nI 1 < nI 2)) => ?_)
      rotate_left
      · exact absurd (by decide) h_306
      refine am_run 1 (pc' := 70) (ls' := [some (.ref 0), some (.int (nI a)), some (.int (nI (120 + k))), some (.int (nI 1)), some (.int (nI x))]) (st' := [.int (nI 1)]) (σ' := (am_wr (am_wr (am_wr (am_wr σ 13 (120 + k) (nI 0)) 14 (120 + k) (nI 0)) 13 (120 + k) (nI (0 ||| p 4 x))) 14 (120 + k) (nI (0 + (p 7 x - p 6 x + 1))))) rfl ?_
      refine am_if (ty := 73) (tn := 82) rfl (by decide) rfl rfl (fun (h_307 : nI 1 = 0) => ?_) (fun (h_307 : ¬ (nI 1 = 0)) => ?_)
      · exact absurd h_307 (by decide)
      refine am_run 3 (pc' := 87) (ls' := [some (.ref 0), some (.int (nI a)), some (.int (nI (120 + k))), some (.int (nI 1)), some (.int (nI x))]) (st' := [.int (nI (120 + k)), .ref 8]) (σ' := (am_wr (am_wr (am_wr (am_wr σ 13 (120 + k) (nI 0)) 14 (120 + k) (nI 0)) 13 (120 + k) (nI (0 ||| p 4 x))) 14 (120 + k) (nI (0 + (p 7 x - p 6 x + 1))))) rfl ?_
      refine am_ialdN (n := 180) (v := -1) rfl rfl rfl (by omega) (by rw [am_wr_ne _ (by omega), am_wr_ne _ (by omega), am_wr_ne _ (by omega), am_wr_ne _ (by omega)]; exact c8) (by decide) ?_
      refine am_run 3 (pc' := 93) (ls' := [some (.ref 0), some (.int (nI a)), some (.int (nI (120 + k))), some (.int (nI 1)), some (.int (-1))]) (st' := [.int (-1), .int (-1)]) (σ' := (am_wr (am_wr (am_wr (am_wr σ 13 (120 + k) (nI 0)) 14 (120 + k) (nI 0)) 13 (120 + k) (nI (0 ||| p 4 x))) 14 (120 + k) (nI (0 + (p 7 x - p 6 x + 1))))) rfl ?_
      refine am_ic (ty := 138) (tn := 96) rfl (by decide) rfl rfl (fun (h_308 : -1 = -1) => ?_) (fun (h_308 : ¬ (-1 = -1)) => ?_)
      rotate_left
      · exact absurd (by decide) h_308
      refine am_run 1 (pc' := 141) (ls' := [some (.ref 0), some (.int (nI a)), some (.int (nI (120 + k))), some (.int (nI 1 + nI 1)), some (.int (-1))]) (st' := []) (σ' := (am_wr (am_wr (am_wr (am_wr σ 13 (120 + k) (nI 0)) 14 (120 + k) (nI 0)) 13 (120 + k) (nI (0 ||| p 4 x))) 14 (120 + k) (nI (0 + (p 7 x - p 6 x + 1))))) rfl ?_
      refine am_ls (ls' := [some (.ref 0), some (.int (nI a)), some (.int (nI (120 + k))), some (.int (nI 2)), some (.int (-1))]) (by rw [nI_add]) ?_
      refine am_run 3 (pc' := 66) (ls' := [some (.ref 0), some (.int (nI a)), some (.int (nI (120 + k))), some (.int (nI 2)), some (.int (-1))]) (st' := [.int (nI 2), .int (nI 2)]) (σ' := (am_wr (am_wr (am_wr (am_wr σ 13 (120 + k) (nI 0)) 14 (120 + k) (nI 0)) 13 (120 + k) (nI (0 ||| p 4 x))) 14 (120 + k) (nI (0 + (p 7 x - p 6 x + 1))))) rfl ?_
      refine am_ic (ty := 69) (tn := 144) rfl (by decide) rfl rfl (fun (h_309 : nI 2 < nI 2) => ?_) (fun (h_309 : ¬ (nI 2 < nI 2)) => ?_)
      · exact absurd h_309 (by decide)
      refine am_run 1 (pc' := 147) (ls' := [some (.ref 0), some (.int (nI a + nI 1)), some (.int (nI (120 + k))), some (.int (nI 2)), some (.int (-1))]) (st' := []) (σ' := (am_wr (am_wr (am_wr (am_wr σ 13 (120 + k) (nI 0)) 14 (120 + k) (nI 0)) 13 (120 + k) (nI (0 ||| p 4 x))) 14 (120 + k) (nI (0 + (p 7 x - p 6 x + 1))))) rfl ?_
      refine am_ls (ls' := [some (.ref 0), some (.int (nI (a + 1))), some (.int (nI (120 + k))), some (.int (nI 2)), some (.int (-1))]) (by rw [nI_add]) ?_
      refine am_run 1 (pc' := 2) (ls' := [some (.ref 0), some (.int (nI (a + 1))), some (.int (nI (120 + k))), some (.int (nI 2)), some (.int (-1))]) (st' := []) (σ' := (am_wr (am_wr (am_wr (am_wr σ 13 (120 + k) (nI 0)) 14 (120 + k) (nI 0)) 13 (120 + k) (nI (0 ||| p 4 x))) 14 (120 + k) (nI (0 + (p 7 x - p 6 x + 1))))) rfl ?_
      refine ls_loop hd h hq m (a + 1) _ _ _ _ (by omega) ((((hK.wr _ (by omega) (by omega)).wr _ (by omega) (by omega)).wr _ (by omega) (by omega)).wr _ (by omega) (by omega)) (fun k' h1 h2 => ?_)
      by_cases hz : k' = k
      · subst hz
        exact ⟨by rw [am_ne2 _ (by omega), am_same, h4], by rw [am_same, hw]⟩
      · have := rkk k' h1 hz
        obtain ⟨u1, u2⟩ := hold k' h1 (by omega)
        exact ⟨by rw [am_ne2 _ (by omega), am_ne2 _ (by omega), am_ne2 _ (by omega), am_ne2 _ (by omega)]; exact u1, by rw [am_ne2 _ (by omega), am_ne2 _ (by omega), am_ne2 _ (by omega), am_ne2 _ (by omega)]; exact u2⟩
    · rw [← e12] at hr
      have xk : x ≠ k := fun z => by rw [z] at x2; omega
      have yk : y ≠ k := fun z => by rw [z] at y2; omega
      rw [hx, oI_s] at c7
      rw [hy, oI_s] at c8
      refine am_run 4 (pc' := 8) (ls' := [some (.ref 0), some (.int (nI a)), v2, v3, v4]) (st' := [.int (nI 2), .ref 2, .int (nI a)]) (σ' := σ) rfl ?_
      refine am_ialdN (n := 3) (v := nI n) rfl rfl rfl (by omega) hn2 (by decide) ?_
      refine am_ic (ty := 12) (tn := 150) rfl (by decide) rfl rfl (fun (h_301 : nI a < nI n) => ?_) (fun (h_301 : ¬ (nI a < nI n)) => ?_)
      rotate_left
      · have h_301 : ¬ (a < n) := fun z => h_301 ((nI_ltI (by omega) (by omega)).mpr z)
        omega
      have h_301 : a < n := (nI_ltI (by omega) (by omega)).mp h_301
      refine am_run 5 (pc' := 19) (ls' := [some (.ref 0), some (.int (nI a)), v2, v3, v4]) (st' := [.int (nI a), .int (nI 2), .ref 9, .int (nI 2)]) (σ' := σ) rfl ?_
      refine am_invs (y := 158) (as := [.int (nI 2), .int (nI a)]) (rest := [.ref 9, .int (nI 2)]) rfl rfl rfl rfl rfl rfl (Nat.le_of_ble_eq_true rfl) ?_
      refine c_m_placeOf (by omega) (j := 2) ?_
      show am_G _ M_X10_laysSizes _ 22 [some (.ref 0), some (.int (nI a)), v2, v3, v4] [.int (nI (120 + a)), .ref 9, .int (nI 2)] σ
      refine am_ialdN (n := 180) (v := nI k) rfl rfl rfl (by omega) c9 (by decide) ?_
      refine am_invs (y := 158) (as := [.int (nI 2), .int (nI k)]) (rest := []) rfl rfl rfl rfl rfl rfl (Nat.le_of_ble_eq_true rfl) ?_
      refine c_m_placeOf (by omega) (j := 2) ?_
      show am_G _ M_X10_laysSizes _ 26 [some (.ref 0), some (.int (nI a)), v2, v3, v4] [.int (nI (120 + k))] σ
      refine am_run 7 (pc' := 37) (ls' := [some (.ref 0), some (.int (nI a)), some (.int (nI (120 + k))), v3, v4]) (st' := [.int (nI (120 + k)), .ref 12, .int (nI (120 + k)), .ref 13]) (σ' := σ) rfl ?_
      refine am_ialdN (n := 180) (v := -1) rfl rfl rfl (by omega) hr (by decide) ?_
      refine am_run 1 (pc' := 39) (ls' := [some (.ref 0), some (.int (nI a)), some (.int (nI (120 + k))), v3, v4]) (st' := [.int (-1), .int (-1), .int (nI (120 + k)), .ref 13]) (σ' := σ) rfl ?_
      refine am_ic (ty := 42) (tn := 46) rfl (by decide) rfl rfl (fun (h_302 : -1 = -1) => ?_) (fun (h_302 : ¬ (-1 = -1)) => ?_)
      rotate_left
      · exact absurd (by decide) h_302
      refine am_run 2 (pc' := 54) (ls' := [some (.ref 0), some (.int (nI a)), some (.int (nI (120 + k))), v3, v4]) (st' := [.int (nI 0), .int (nI (120 + k)), .ref 13]) (σ' := σ) rfl ?_
      refine am_iastN (n := 180) rfl rfl rfl (by omega) (by decide) ?_
      refine am_run 4 (pc' := 61) (ls' := [some (.ref 0), some (.int (nI a)), some (.int (nI (120 + k))), v3, v4]) (st' := [.int (nI 0), .int (nI (120 + k)), .ref 14]) (σ' := (am_wr σ 13 (120 + k) (nI 0))) rfl ?_
      refine am_iastN (n := 180) rfl rfl rfl (by omega) (by decide) ?_
      refine am_run 4 (pc' := 66) (ls' := [some (.ref 0), some (.int (nI a)), some (.int (nI (120 + k))), some (.int (nI 0)), v4]) (st' := [.int (nI 2), .int (nI 0)]) (σ' := (am_wr (am_wr σ 13 (120 + k) (nI 0)) 14 (120 + k) (nI 0))) rfl ?_
      refine am_ic (ty := 69) (tn := 144) rfl (by decide) rfl rfl (fun (h_303 : nI 0 < nI 2) => ?_) (fun (h_303 : ¬ (nI 0 < nI 2)) => ?_)
      rotate_left
      · exact absurd (by decide) h_303
      refine am_run 1 (pc' := 70) (ls' := [some (.ref 0), some (.int (nI a)), some (.int (nI (120 + k))), some (.int (nI 0)), v4]) (st' := [.int (nI 0)]) (σ' := (am_wr (am_wr σ 13 (120 + k) (nI 0)) 14 (120 + k) (nI 0))) rfl ?_
      refine am_if (ty := 73) (tn := 82) rfl (by decide) rfl rfl (fun (h_304 : nI 0 = 0) => ?_) (fun (h_304 : ¬ (nI 0 = 0)) => ?_)
      rotate_left
      · exact absurd (by decide) h_304
      refine am_run 3 (pc' := 78) (ls' := [some (.ref 0), some (.int (nI a)), some (.int (nI (120 + k))), some (.int (nI 0)), v4]) (st' := [.int (nI (120 + k)), .ref 7]) (σ' := (am_wr (am_wr σ 13 (120 + k) (nI 0)) 14 (120 + k) (nI 0))) rfl ?_
      refine am_ialdN (n := 180) (v := nI x) rfl rfl rfl (by omega) (by rw [am_wr_ne _ (by omega), am_wr_ne _ (by omega)]; exact c7) (by decide) ?_
      refine am_run 4 (pc' := 93) (ls' := [some (.ref 0), some (.int (nI a)), some (.int (nI (120 + k))), some (.int (nI 0)), some (.int (nI x))]) (st' := [.int (-1), .int (nI x)]) (σ' := (am_wr (am_wr σ 13 (120 + k) (nI 0)) 14 (120 + k) (nI 0))) rfl ?_
      refine am_ic (ty := 138) (tn := 96) rfl (by decide) rfl rfl (fun (h_305 : nI x = -1) => ?_) (fun (h_305 : ¬ (nI x = -1)) => ?_)
      · exact absurd h_305 (am_nm1 (by omega))
      refine am_run 4 (pc' := 102) (ls' := [some (.ref 0), some (.int (nI a)), some (.int (nI (120 + k))), some (.int (nI 0)), some (.int (nI x))]) (st' := [.int (nI (120 + k)), .ref 13, .int (nI (120 + k)), .ref 13]) (σ' := (am_wr (am_wr σ 13 (120 + k) (nI 0)) 14 (120 + k) (nI 0))) rfl ?_
      refine am_ialdN (n := 180) (v := nI 0) rfl rfl rfl (by omega) (by rw [am_ne2 _ (by omega), am_same]) (by decide) ?_
      refine am_run 4 (pc' := 110) (ls' := [some (.ref 0), some (.int (nI a)), some (.int (nI (120 + k))), some (.int (nI 0)), some (.int (nI x))]) (st' := [.int (nI x), .int (nI 2), .ref 13, .int (nI 0), .int (nI (120 + k)), .ref 13]) (σ' := (am_wr (am_wr σ 13 (120 + k) (nI 0)) 14 (120 + k) (nI 0))) rfl ?_
      refine am_invs (y := 158) (as := [.int (nI 2), .int (nI x)]) (rest := [.ref 13, .int (nI 0), .int (nI (120 + k)), .ref 13]) rfl rfl rfl rfl rfl rfl (Nat.le_of_ble_eq_true rfl) ?_
      refine c_m_placeOf (by omega) (j := 2) ?_
      show am_G _ M_X10_laysSizes _ 113 [some (.ref 0), some (.int (nI a)), some (.int (nI (120 + k))), some (.int (nI 0)), some (.int (nI x))] [.int (nI (120 + x)), .ref 13, .int (nI 0), .int (nI (120 + k)), .ref 13] (am_wr (am_wr σ 13 (120 + k) (nI 0)) 14 (120 + k) (nI 0))
      refine am_ialdN (n := 180) (v := nI (p 4 x)) rfl rfl rfl (by omega) (by rw [am_ne2 _ (by omega), am_ne2 _ (by omega)]; exact (hold x x1 (by omega)).1) (by decide) ?_
      refine am_run 1 (pc' := 115) (ls' := [some (.ref 0), some (.int (nI a)), some (.int (nI (120 + k))), some (.int (nI 0)), some (.int (nI x))]) (st' := [.int (nI 0 ||| nI (p 4 x)), .int (nI (120 + k)), .ref 13]) (σ' := (am_wr (am_wr σ 13 (120 + k) (nI 0)) 14 (120 + k) (nI 0))) rfl ?_
      refine am_top (v' := nI (0 ||| p 4 x)) (nx_or _ _) ?_
      refine am_iastN (n := 180) rfl rfl rfl (by omega) (by decide) ?_
      refine am_run 4 (pc' := 122) (ls' := [some (.ref 0), some (.int (nI a)), some (.int (nI (120 + k))), some (.int (nI 0)), some (.int (nI x))]) (st' := [.int (nI (120 + k)), .ref 14, .int (nI (120 + k)), .ref 14]) (σ' := (am_wr (am_wr (am_wr σ 13 (120 + k) (nI 0)) 14 (120 + k) (nI 0)) 13 (120 + k) (nI (0 ||| p 4 x)))) rfl ?_
      refine am_ialdN (n := 180) (v := nI 0) rfl rfl rfl (by omega) (by rw [am_ne2 _ (by omega), am_same]) (by decide) ?_
      refine am_run 4 (pc' := 130) (ls' := [some (.ref 0), some (.int (nI a)), some (.int (nI (120 + k))), some (.int (nI 0)), some (.int (nI x))]) (st' := [.int (nI x), .int (nI 2), .ref 14, .int (nI 0), .int (nI (120 + k)), .ref 14]) (σ' := (am_wr (am_wr (am_wr σ 13 (120 + k) (nI 0)) 14 (120 + k) (nI 0)) 13 (120 + k) (nI (0 ||| p 4 x)))) rfl ?_
      refine am_invs (y := 158) (as := [.int (nI 2), .int (nI x)]) (rest := [.ref 14, .int (nI 0), .int (nI (120 + k)), .ref 14]) rfl rfl rfl rfl rfl rfl (Nat.le_of_ble_eq_true rfl) ?_
      refine c_m_placeOf (by omega) (j := 2) ?_
      show am_G _ M_X10_laysSizes _ 133 [some (.ref 0), some (.int (nI a)), some (.int (nI (120 + k))), some (.int (nI 0)), some (.int (nI x))] [.int (nI (120 + x)), .ref 14, .int (nI 0), .int (nI (120 + k)), .ref 14] (am_wr (am_wr (am_wr σ 13 (120 + k) (nI 0)) 14 (120 + k) (nI 0)) 13 (120 + k) (nI (0 ||| p 4 x)))
      refine am_ialdN (n := 180) (v := nI (p 7 x - p 6 x)) rfl rfl rfl (by omega) (by rw [am_ne2 _ (by omega), am_ne2 _ (by omega), am_ne2 _ (by omega)]; exact (hold x x1 (by omega)).2) (by decide) ?_
      refine am_run 2 (pc' := 136) (ls' := [some (.ref 0), some (.int (nI a)), some (.int (nI (120 + k))), some (.int (nI 0)), some (.int (nI x))]) (st' := [.int (nI (p 7 x - p 6 x) + nI 1), .int (nI 0), .int (nI (120 + k)), .ref 14]) (σ' := (am_wr (am_wr (am_wr σ 13 (120 + k) (nI 0)) 14 (120 + k) (nI 0)) 13 (120 + k) (nI (0 ||| p 4 x)))) rfl ?_
      refine am_top (v' := nI (p 7 x - p 6 x + 1)) (nI_add _ _) ?_
      refine am_run 1 (pc' := 137) (ls' := [some (.ref 0), some (.int (nI a)), some (.int (nI (120 + k))), some (.int (nI 0)), some (.int (nI x))]) (st' := [.int (nI 0 + nI (p 7 x - p 6 x + 1)), .int (nI (120 + k)), .ref 14]) (σ' := (am_wr (am_wr (am_wr σ 13 (120 + k) (nI 0)) 14 (120 + k) (nI 0)) 13 (120 + k) (nI (0 ||| p 4 x)))) rfl ?_
      refine am_top (v' := nI (0 + (p 7 x - p 6 x + 1))) (nI_add _ _) ?_
      refine am_iastN (n := 180) rfl rfl rfl (by omega) (by decide) ?_
      refine am_run 1 (pc' := 141) (ls' := [some (.ref 0), some (.int (nI a)), some (.int (nI (120 + k))), some (.int (nI 0 + nI 1)), some (.int (nI x))]) (st' := []) (σ' := (am_wr (am_wr (am_wr (am_wr σ 13 (120 + k) (nI 0)) 14 (120 + k) (nI 0)) 13 (120 + k) (nI (0 ||| p 4 x))) 14 (120 + k) (nI (0 + (p 7 x - p 6 x + 1))))) rfl ?_
      refine am_ls (ls' := [some (.ref 0), some (.int (nI a)), some (.int (nI (120 + k))), some (.int (nI 1)), some (.int (nI x))]) (by rw [nI_add]) ?_
      refine am_run 3 (pc' := 66) (ls' := [some (.ref 0), some (.int (nI a)), some (.int (nI (120 + k))), some (.int (nI 1)), some (.int (nI x))]) (st' := [.int (nI 2), .int (nI 1)]) (σ' := (am_wr (am_wr (am_wr (am_wr σ 13 (120 + k) (nI 0)) 14 (120 + k) (nI 0)) 13 (120 + k) (nI (0 ||| p 4 x))) 14 (120 + k) (nI (0 + (p 7 x - p 6 x + 1))))) rfl ?_
      refine am_ic (ty := 69) (tn := 144) rfl (by decide) rfl rfl (fun (h_306 : nI 1 < nI 2) => ?_) (fun (h_306 : ¬ (nI 1 < nI 2)) => ?_)
      rotate_left
      · exact absurd (by decide) h_306
      refine am_run 1 (pc' := 70) (ls' := [some (.ref 0), some (.int (nI a)), some (.int (nI (120 + k))), some (.int (nI 1)), some (.int (nI x))]) (st' := [.int (nI 1)]) (σ' := (am_wr (am_wr (am_wr (am_wr σ 13 (120 + k) (nI 0)) 14 (120 + k) (nI 0)) 13 (120 + k) (nI (0 ||| p 4 x))) 14 (120 + k) (nI (0 + (p 7 x - p 6 x + 1))))) rfl ?_
      refine am_if (ty := 73) (tn := 82) rfl (by decide) rfl rfl (fun (h_307 : nI 1 = 0) => ?_) (fun (h_307 : ¬ (nI 1 = 0)) => ?_)
      · exact absurd h_307 (by decide)
      refine am_run 3 (pc' := 87) (ls' := [some (.ref 0), some (.int (nI a)), some (.int (nI (120 + k))), some (.int (nI 1)), some (.int (nI x))]) (st' := [.int (nI (120 + k)), .ref 8]) (σ' := (am_wr (am_wr (am_wr (am_wr σ 13 (120 + k) (nI 0)) 14 (120 + k) (nI 0)) 13 (120 + k) (nI (0 ||| p 4 x))) 14 (120 + k) (nI (0 + (p 7 x - p 6 x + 1))))) rfl ?_
      refine am_ialdN (n := 180) (v := nI y) rfl rfl rfl (by omega) (by rw [am_wr_ne _ (by omega), am_wr_ne _ (by omega), am_wr_ne _ (by omega), am_wr_ne _ (by omega)]; exact c8) (by decide) ?_
      refine am_run 3 (pc' := 93) (ls' := [some (.ref 0), some (.int (nI a)), some (.int (nI (120 + k))), some (.int (nI 1)), some (.int (nI y))]) (st' := [.int (-1), .int (nI y)]) (σ' := (am_wr (am_wr (am_wr (am_wr σ 13 (120 + k) (nI 0)) 14 (120 + k) (nI 0)) 13 (120 + k) (nI (0 ||| p 4 x))) 14 (120 + k) (nI (0 + (p 7 x - p 6 x + 1))))) rfl ?_
      refine am_ic (ty := 138) (tn := 96) rfl (by decide) rfl rfl (fun (h_308 : nI y = -1) => ?_) (fun (h_308 : ¬ (nI y = -1)) => ?_)
      · exact absurd h_308 (am_nm1 (by omega))
      refine am_run 4 (pc' := 102) (ls' := [some (.ref 0), some (.int (nI a)), some (.int (nI (120 + k))), some (.int (nI 1)), some (.int (nI y))]) (st' := [.int (nI (120 + k)), .ref 13, .int (nI (120 + k)), .ref 13]) (σ' := (am_wr (am_wr (am_wr (am_wr σ 13 (120 + k) (nI 0)) 14 (120 + k) (nI 0)) 13 (120 + k) (nI (0 ||| p 4 x))) 14 (120 + k) (nI (0 + (p 7 x - p 6 x + 1))))) rfl ?_
      refine am_ialdN (n := 180) (v := nI (0 ||| p 4 x)) rfl rfl rfl (by omega) (by rw [am_ne2 _ (by omega), am_same]) (by decide) ?_
      refine am_run 4 (pc' := 110) (ls' := [some (.ref 0), some (.int (nI a)), some (.int (nI (120 + k))), some (.int (nI 1)), some (.int (nI y))]) (st' := [.int (nI y), .int (nI 2), .ref 13, .int (nI (0 ||| p 4 x)), .int (nI (120 + k)), .ref 13]) (σ' := (am_wr (am_wr (am_wr (am_wr σ 13 (120 + k) (nI 0)) 14 (120 + k) (nI 0)) 13 (120 + k) (nI (0 ||| p 4 x))) 14 (120 + k) (nI (0 + (p 7 x - p 6 x + 1))))) rfl ?_
      refine am_invs (y := 158) (as := [.int (nI 2), .int (nI y)]) (rest := [.ref 13, .int (nI (0 ||| p 4 x)), .int (nI (120 + k)), .ref 13]) rfl rfl rfl rfl rfl rfl (Nat.le_of_ble_eq_true rfl) ?_
      refine c_m_placeOf (by omega) (j := 2) ?_
      show am_G _ M_X10_laysSizes _ 113 [some (.ref 0), some (.int (nI a)), some (.int (nI (120 + k))), some (.int (nI 1)), some (.int (nI y))] [.int (nI (120 + y)), .ref 13, .int (nI (0 ||| p 4 x)), .int (nI (120 + k)), .ref 13] (am_wr (am_wr (am_wr (am_wr σ 13 (120 + k) (nI 0)) 14 (120 + k) (nI 0)) 13 (120 + k) (nI (0 ||| p 4 x))) 14 (120 + k) (nI (0 + (p 7 x - p 6 x + 1))))
      refine am_ialdN (n := 180) (v := nI (p 4 y)) rfl rfl rfl (by omega) (by rw [am_ne2 _ (by omega), am_ne2 _ (by omega), am_ne2 _ (by omega), am_ne2 _ (by omega)]; exact (hold y y1 (by omega)).1) (by decide) ?_
      refine am_run 1 (pc' := 115) (ls' := [some (.ref 0), some (.int (nI a)), some (.int (nI (120 + k))), some (.int (nI 1)), some (.int (nI y))]) (st' := [.int (nI (0 ||| p 4 x) ||| nI (p 4 y)), .int (nI (120 + k)), .ref 13]) (σ' := (am_wr (am_wr (am_wr (am_wr σ 13 (120 + k) (nI 0)) 14 (120 + k) (nI 0)) 13 (120 + k) (nI (0 ||| p 4 x))) 14 (120 + k) (nI (0 + (p 7 x - p 6 x + 1))))) rfl ?_
      refine am_top (v' := nI ((0 ||| p 4 x) ||| p 4 y)) (nx_or _ _) ?_
      refine am_iastN (n := 180) rfl rfl rfl (by omega) (by decide) ?_
      refine am_run 4 (pc' := 122) (ls' := [some (.ref 0), some (.int (nI a)), some (.int (nI (120 + k))), some (.int (nI 1)), some (.int (nI y))]) (st' := [.int (nI (120 + k)), .ref 14, .int (nI (120 + k)), .ref 14]) (σ' := (am_wr (am_wr (am_wr (am_wr (am_wr σ 13 (120 + k) (nI 0)) 14 (120 + k) (nI 0)) 13 (120 + k) (nI (0 ||| p 4 x))) 14 (120 + k) (nI (0 + (p 7 x - p 6 x + 1)))) 13 (120 + k) (nI ((0 ||| p 4 x) ||| p 4 y)))) rfl ?_
      refine am_ialdN (n := 180) (v := nI (0 + (p 7 x - p 6 x + 1))) rfl rfl rfl (by omega) (by rw [am_ne2 _ (by omega), am_same]) (by decide) ?_
      refine am_run 4 (pc' := 130) (ls' := [some (.ref 0), some (.int (nI a)), some (.int (nI (120 + k))), some (.int (nI 1)), some (.int (nI y))]) (st' := [.int (nI y), .int (nI 2), .ref 14, .int (nI (0 + (p 7 x - p 6 x + 1))), .int (nI (120 + k)), .ref 14]) (σ' := (am_wr (am_wr (am_wr (am_wr (am_wr σ 13 (120 + k) (nI 0)) 14 (120 + k) (nI 0)) 13 (120 + k) (nI (0 ||| p 4 x))) 14 (120 + k) (nI (0 + (p 7 x - p 6 x + 1)))) 13 (120 + k) (nI ((0 ||| p 4 x) ||| p 4 y)))) rfl ?_
      refine am_invs (y := 158) (as := [.int (nI 2), .int (nI y)]) (rest := [.ref 14, .int (nI (0 + (p 7 x - p 6 x + 1))), .int (nI (120 + k)), .ref 14]) rfl rfl rfl rfl rfl rfl (Nat.le_of_ble_eq_true rfl) ?_
      refine c_m_placeOf (by omega) (j := 2) ?_
      show am_G _ M_X10_laysSizes _ 133 [some (.ref 0), some (.int (nI a)), some (.int (nI (120 + k))), some (.int (nI 1)), some (.int (nI y))] [.int (nI (120 + y)), .ref 14, .int (nI (0 + (p 7 x - p 6 x + 1))), .int (nI (120 + k)), .ref 14] (am_wr (am_wr (am_wr (am_wr (am_wr σ 13 (120 + k) (nI 0)) 14 (120 + k) (nI 0)) 13 (120 + k) (nI (0 ||| p 4 x))) 14 (120 + k) (nI (0 + (p 7 x - p 6 x + 1)))) 13 (120 + k) (nI ((0 ||| p 4 x) ||| p 4 y)))
      refine am_ialdN (n := 180) (v := nI (p 7 y - p 6 y)) rfl rfl rfl (by omega) (by rw [am_ne2 _ (by omega), am_ne2 _ (by omega), am_ne2 _ (by omega), am_ne2 _ (by omega), am_ne2 _ (by omega)]; exact (hold y y1 (by omega)).2) (by decide) ?_
      refine am_run 2 (pc' := 136) (ls' := [some (.ref 0), some (.int (nI a)), some (.int (nI (120 + k))), some (.int (nI 1)), some (.int (nI y))]) (st' := [.int (nI (p 7 y - p 6 y) + nI 1), .int (nI (0 + (p 7 x - p 6 x + 1))), .int (nI (120 + k)), .ref 14]) (σ' := (am_wr (am_wr (am_wr (am_wr (am_wr σ 13 (120 + k) (nI 0)) 14 (120 + k) (nI 0)) 13 (120 + k) (nI (0 ||| p 4 x))) 14 (120 + k) (nI (0 + (p 7 x - p 6 x + 1)))) 13 (120 + k) (nI ((0 ||| p 4 x) ||| p 4 y)))) rfl ?_
      refine am_top (v' := nI (p 7 y - p 6 y + 1)) (nI_add _ _) ?_
      refine am_run 1 (pc' := 137) (ls' := [some (.ref 0), some (.int (nI a)), some (.int (nI (120 + k))), some (.int (nI 1)), some (.int (nI y))]) (st' := [.int (nI (0 + (p 7 x - p 6 x + 1)) + nI (p 7 y - p 6 y + 1)), .int (nI (120 + k)), .ref 14]) (σ' := (am_wr (am_wr (am_wr (am_wr (am_wr σ 13 (120 + k) (nI 0)) 14 (120 + k) (nI 0)) 13 (120 + k) (nI (0 ||| p 4 x))) 14 (120 + k) (nI (0 + (p 7 x - p 6 x + 1)))) 13 (120 + k) (nI ((0 ||| p 4 x) ||| p 4 y)))) rfl ?_
      refine am_top (v' := nI (0 + (p 7 x - p 6 x + 1) + (p 7 y - p 6 y + 1))) (nI_add _ _) ?_
      refine am_iastN (n := 180) rfl rfl rfl (by omega) (by decide) ?_
      refine am_run 1 (pc' := 141) (ls' := [some (.ref 0), some (.int (nI a)), some (.int (nI (120 + k))), some (.int (nI 1 + nI 1)), some (.int (nI y))]) (st' := []) (σ' := (am_wr (am_wr (am_wr (am_wr (am_wr (am_wr σ 13 (120 + k) (nI 0)) 14 (120 + k) (nI 0)) 13 (120 + k) (nI (0 ||| p 4 x))) 14 (120 + k) (nI (0 + (p 7 x - p 6 x + 1)))) 13 (120 + k) (nI ((0 ||| p 4 x) ||| p 4 y))) 14 (120 + k) (nI (0 + (p 7 x - p 6 x + 1) + (p 7 y - p 6 y + 1))))) rfl ?_
      refine am_ls (ls' := [some (.ref 0), some (.int (nI a)), some (.int (nI (120 + k))), some (.int (nI 2)), some (.int (nI y))]) (by rw [nI_add]) ?_
      refine am_run 3 (pc' := 66) (ls' := [some (.ref 0), some (.int (nI a)), some (.int (nI (120 + k))), some (.int (nI 2)), some (.int (nI y))]) (st' := [.int (nI 2), .int (nI 2)]) (σ' := (am_wr (am_wr (am_wr (am_wr (am_wr (am_wr σ 13 (120 + k) (nI 0)) 14 (120 + k) (nI 0)) 13 (120 + k) (nI (0 ||| p 4 x))) 14 (120 + k) (nI (0 + (p 7 x - p 6 x + 1)))) 13 (120 + k) (nI ((0 ||| p 4 x) ||| p 4 y))) 14 (120 + k) (nI (0 + (p 7 x - p 6 x + 1) + (p 7 y - p 6 y + 1))))) rfl ?_
      refine am_ic (ty := 69) (tn := 144) rfl (by decide) rfl rfl (fun (h_309 : nI 2 < nI 2) => ?_) (fun (h_309 : ¬ (nI 2 < nI 2)) => ?_)
      · exact absurd h_309 (by decide)
      refine am_run 1 (pc' := 147) (ls' := [some (.ref 0), some (.int (nI a + nI 1)), some (.int (nI (120 + k))), some (.int (nI 2)), some (.int (nI y))]) (st' := []) (σ' := (am_wr (am_wr (am_wr (am_wr (am_wr (am_wr σ 13 (120 + k) (nI 0)) 14 (120 + k) (nI 0)) 13 (120 + k) (nI (0 ||| p 4 x))) 14 (120 + k) (nI (0 + (p 7 x - p 6 x + 1)))) 13 (120 + k) (nI ((0 ||| p 4 x) ||| p 4 y))) 14 (120 + k) (nI (0 + (p 7 x - p 6 x + 1) + (p 7 y - p 6 y + 1))))) rfl ?_
      refine am_ls (ls' := [some (.ref 0), some (.int (nI (a + 1))), some (.int (nI (120 + k))), some (.int (nI 2)), some (.int (nI y))]) (by rw [nI_add]) ?_
      refine am_run 1 (pc' := 2) (ls' := [some (.ref 0), some (.int (nI (a + 1))), some (.int (nI (120 + k))), some (.int (nI 2)), some (.int (nI y))]) (st' := []) (σ' := (am_wr (am_wr (am_wr (am_wr (am_wr (am_wr σ 13 (120 + k) (nI 0)) 14 (120 + k) (nI 0)) 13 (120 + k) (nI (0 ||| p 4 x))) 14 (120 + k) (nI (0 + (p 7 x - p 6 x + 1)))) 13 (120 + k) (nI ((0 ||| p 4 x) ||| p 4 y))) 14 (120 + k) (nI (0 + (p 7 x - p 6 x + 1) + (p 7 y - p 6 y + 1))))) rfl ?_
      refine ls_loop hd h hq m (a + 1) _ _ _ _ (by omega) ((((((hK.wr _ (by omega) (by omega)).wr _ (by omega) (by omega)).wr _ (by omega) (by omega)).wr _ (by omega) (by omega)).wr _ (by omega) (by omega)).wr _ (by omega) (by omega)) (fun k' h1 h2 => ?_)
      by_cases hz : k' = k
      · subst hz
        exact ⟨by rw [am_ne2 _ (by omega), am_same, h4], by rw [am_same, hw]⟩
      · have := rkk k' h1 hz
        obtain ⟨u1, u2⟩ := hold k' h1 (by omega)
        exact ⟨by rw [am_ne2 _ (by omega), am_ne2 _ (by omega), am_ne2 _ (by omega), am_ne2 _ (by omega), am_ne2 _ (by omega), am_ne2 _ (by omega)]; exact u1, by rw [am_ne2 _ (by omega), am_ne2 _ (by omega), am_ne2 _ (by omega), am_ne2 _ (by omega), am_ne2 _ (by omega), am_ne2 _ (by omega)]; exact u2⟩
set_option maxRecDepth 10000 in
set_option maxHeartbeats 2000000 in
theorem c_laysSizes {d : Nat} (hd : 3 ≤ d) {σ0 : am_M} {p g : Nat → Nat → Nat} {n r : Nat} (h : RDY σ0 p g n r) {Q : am_Q} (hq : ∀ σ, KZs σ0 σ → (∀ k, k < n → σ.1 13 (120 + k) = nI (p 4 k) ∧ σ.1 14 (120 + k) = nI (p 7 k - p 6 k)) → Q none σ) : am_C d 176 [.ref 0] σ0 Q := by
  refine am_enter' (M := M_X10_laysSizes) rfl rfl rfl (by omega) (ls := [some (.ref 0), none, none, none, none]) rfl (fun d' hd' => ?_)
  refine am_run 2 (pc' := 2) (ls' := [some (.ref 0), some (.int (nI 0)), none, none, none]) (st' := []) (σ' := σ0) rfl ?_
  exact ls_loop (by omega) h hq n 0 σ0 _ _ _ (by omega) ⟨fun _ _ _ => rfl, rfl, fun _ _ _ => rfl⟩ (fun k _ h2 => absurd h2 (Nat.not_lt_zero _))

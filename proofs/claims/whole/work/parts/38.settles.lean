/-! an instant of the reference -/
/-- behind settles -/
def KS (σ σ' : am_M) : Prop := (∀ c, c ≠ 28 → c ≠ 29 → c ≠ 30 → c ≠ 0 → σ'.1 c = σ.1 c) ∧ (∀ k, k < 38 ∨ 44 < k → σ'.1 0 k = σ.1 0 k) ∧ σ'.2 = σ.2
/-- in the rounds -/
def KG (σ σ' : am_M) : Prop := (∀ c, c ≠ 28 → c ≠ 29 → c ≠ 0 → σ'.1 c = σ.1 c) ∧ (∀ k, k ≠ 38 → k ≠ 39 → k ≠ 40 → σ'.1 0 k = σ.1 0 k) ∧ σ'.2 = σ.2
theorem KG.rf (σ : am_M) : KG σ σ := ⟨fun _ _ _ _ => rfl, fun _ _ _ _ => rfl, rfl⟩
theorem KG.nx {σ σ' σ'' : am_M} (h : KG σ σ') (h' : KR σ' σ'') (x : Int32) : KG σ (am_wr σ'' 0 40 x) := ⟨fun c a b e => by rw [am_wr_ne _ e]; exact (h'.1 c a b e).trans (h.1 c a b e), fun k a b e => by rw [am_diff _ _ _ _ _ e]; exact (h'.2.1 k a b).trans (h.2.1 k a b e), h'.2.2.trans h.2.2⟩
theorem MP.keep {σ σ' : am_M} (h : ∀ c, c ≠ 28 → c ≠ 29 → c ≠ 30 → c ≠ 0 → σ'.1 c = σ.1 c) {j n : Nat} {p : Pg} {rk od dp : Nat → Nat} {ow : Nat → Nat → Nat} (hM : MP σ j p n rk od dp ow) : MP σ' j p n rk od dp ow := by
  obtain ⟨hj, hW, hWT, hn2, hod, hrk, hMN⟩ := hM
  refine ⟨hj, hW, hWT, by rw [h 2 (by decide) (by decide) (by decide) (by decide)]; exact hn2, fun a ha => by rw [h 9 (by decide) (by decide) (by decide) (by decide)]; exact hod a ha, hrk, fun i hi => ?_⟩
  have := hMN i hi
  unfold MN
  rw [h 5 (by decide) (by decide) (by decide) (by decide), h 6 (by decide) (by decide) (by decide) (by decide), h 7 (by decide) (by decide) (by decide) (by decide), h 8 (by decide) (by decide) (by decide) (by decide), h 13 (by decide) (by decide) (by decide) (by decide), h 10 (by decide) (by decide) (by decide) (by decide), h 11 (by decide) (by decide) (by decide) (by decide)]
  exact this
/-- a program in the slot j with all that an instant needs -/
def MI (σ : am_M) (j : Nat) (p : Pg) (n r : Nat) (rk od dp : Nat → Nat) (ow : Nat → Nat → Nat) : Prop := MP σ j p n rk od dp ow ∧ MR σ j n dp r ∧ RO σ j n p
theorem MI.keep {σ σ' : am_M} (h : ∀ c, c ≠ 28 → c ≠ 29 → c ≠ 30 → c ≠ 0 → σ'.1 c = σ.1 c) {j n r : Nat} {p : Pg} {rk od dp : Nat → Nat} {ow : Nat → Nat → Nat} (hM : MI σ j p n r rk od dp ow) : MI σ' j p n r rk od dp ow := ⟨hM.1.keep h, ⟨by rw [h 4 (by decide) (by decide) (by decide) (by decide)]; exact hM.2.1.1, hM.2.1.2⟩, hM.2.2.keep (h 12 (by decide) (by decide) (by decide) (by decide))⟩
/-- what settles leaves -/
def SP (σ σ' : am_M) (j s : Nat) (z : Nat × Nat × Nat × Nat × Nat × Nat) : Prop := KS σ σ' ∧ σ'.1 0 38 = nI j ∧ σ'.1 0 39 = nI s ∧ σ'.1 0 40 = nI z.2.2.2.2.2 ∧ σ'.1 0 41 = nI z.2.2.1 ∧ (z.2.2.1 = 0 → σ'.1 0 42 = nI z.1 ∧ σ'.1 0 43 = nI z.2.2.2.1 ∧ σ'.1 0 44 = nI z.2.2.2.2.1) ∧ ∀ g, g < 8 → σ'.1 29 g = nI (sts (z.1, z.2.1) g)
theorem sts_u0 (u g : Nat) : sts (u, 0) g = if u.testBit g = true then 1 else 0 := by
  unfold sts
  split
  · rfl
  · rw [if_neg (by rw [Nat.zero_testBit]; decide)]
theorem stl_sb {p : Pg} {x s : Nat} : ∀ (j P A : Nat), sb P (stl p x s j P A).1
  | 0, _, _ => sb.rf _
  | j + 1, P, A => by
    unfold stl
    split
    · exact sb.rf _
    · exact fun i hi => stl_sb j _ _ i ((rnd_sb p x s P A).1 i hi)
theorem SE_of {P A : Nat} (hd : dj P A) (hP : P < 256) (hA : A < 256) (h : dn 255 (P ||| A) = 0) : SE (P, A) := by
  show A = 255 ^^^ P
  refine lt8_ext hA (Nat.xor_lt_two_pow (n := 8) (by decide) hP) fun i hi => ?_
  have e : (dn 255 (P ||| A)).testBit i = false := by rw [h, Nat.zero_testBit]
  rw [dn_bit, bit255 hi, Nat.testBit_or] at e
  rw [Nat.testBit_xor, bit255 hi]
  have := hd i
  revert this e
  cases P.testBit i <;> cases A.testBit i <;> simp
theorem mod_s {P k : Nat} : P % 2 ^ (k + 1) = if P.testBit k = true then P % 2 ^ k ||| 2 ^ k else P % 2 ^ k := by
  apply Nat.eq_of_testBit_eq
  intro i
  by_cases e : P.testBit k = true
  · rw [if_pos e, Nat.testBit_or, Nat.testBit_mod_two_pow, Nat.testBit_mod_two_pow, Nat.testBit_two_pow]
    by_cases z : k = i
    · subst z; simp [e]
    · rcases Nat.lt_or_ge i k with y | y
      · simp [y, show i < k + 1 by omega, z]
      · simp [show ¬ i < k by omega, show ¬ i < k + 1 by omega, z]
  · rw [if_neg e, Nat.testBit_mod_two_pow, Nat.testBit_mod_two_pow]
    by_cases z : k = i
    · subst z; simp [e]
    · rcases Nat.lt_or_ge i k with y | y
      · simp [y, show i < k + 1 by omega]
      · simp [show ¬ i < k by omega, show ¬ i < k + 1 by omega]
theorem or_sb {a b : Nat} (h : sb a b) : a ||| b = b := by
  apply Nat.eq_of_testBit_eq
  intro i
  rw [Nat.testBit_or]
  rcases bt (a.testBit i) with e | e
  · rw [e, h i e]; rfl
  · rw [e]; rfl
set_option maxRecDepth 10000 in
set_option maxHeartbeats 2000000 in
theorem c_settles_init {d : Nat} (hd : 1 ≤ d) {σ0 : am_M} {j s u : Nat} (hu : u < 256) {Q : am_Q} (hn : ∀ σ', (∀ c, c ≠ 29 → σ'.1 c = σ0.1 c) → σ'.2 = σ0.2 → (∀ g, g < 8 → σ'.1 29 g = nI (sts (u, 0) g)) → am_G d M_X10_settles Q 37 [some (.ref 0), some (.int (nI j)), some (.int (nI s)), some (.int (nI u)), some (.int (nI 8)), none, none] [] σ') : ∀ (m k : Nat) (σ' : am_M), k + m = 8 → (∀ c, c ≠ 29 → σ'.1 c = σ0.1 c) → σ'.2 = σ0.2 → (∀ g, g < k → σ'.1 29 g = nI (sts (u, 0) g)) → am_G d M_X10_settles Q 3 [some (.ref 0), some (.int (nI j)), some (.int (nI s)), some (.int (nI u)), some (.int (nI k)), none, none] [] σ'
  | 0, k, σ', hm, h1, h2, hI => by
    refine am_run 2 (pc' := 7) (ls' := [some (.ref 0), some (.int (nI j)), some (.int (nI s)), some (.int (nI u)), some (.int (nI k)), none, none]) (st' := [.int (nI 8), .int (nI k)]) (σ' := σ') rfl ?_
    refine am_ic (ty := 10) (tn := 37) rfl (by decide) rfl rfl (fun (h_1 : nI k < nI 8) => ?_) (fun (h_1 : ¬ (nI k < nI 8)) => ?_)
    · have h_1 : k < 8 := (nI_ltI (by omega) (by omega)).mp h_1
      omega
    have h_1 : ¬ (k < 8) := fun z => h_1 ((nI_ltI (by omega) (by omega)).mpr z)
    have e : k = 8 := by omega
    subst e
    exact hn σ' h1 h2 hI
  | m + 1, k, σ', hm, h1, h2, hI => by
    refine am_run 2 (pc' := 7) (ls' := [some (.ref 0), some (.int (nI j)), some (.int (nI s)), some (.int (nI u)), some (.int (nI k)), none, none]) (st' := [.int (nI 8), .int (nI k)]) (σ' := σ') rfl ?_
    refine am_ic (ty := 10) (tn := 37) rfl (by decide) rfl rfl (fun (h_1 : nI k < nI 8) => ?_) (fun (h_1 : ¬ (nI k < nI 8)) => ?_)
    rotate_left
    · have h_1 : ¬ (k < 8) := fun z => h_1 ((nI_ltI (by omega) (by omega)).mpr z)
      omega
    have h_1 : k < 8 := (nI_ltI (by omega) (by omega)).mp h_1
    refine am_run 5 (pc' := 19) (ls' := [some (.ref 0), some (.int (nI j)), some (.int (nI s)), some (.int (nI u)), some (.int (nI k)), none, none]) (st' := [.int (nI k), .int (nI u), .int (nI k), .ref 29]) (σ' := σ') rfl ?_
    refine am_invs (y := 149) (as := [.int (nI u), .int (nI k)]) (rest := [.int (nI k), .ref 29]) rfl rfl rfl rfl rfl rfl (Nat.le_of_ble_eq_true rfl) ?_
    refine c_m_has (by omega) (a := u) (s := k) (by omega) (by omega) (fun hb_2 => ?_) (fun hb_2 => ?_)
    · show am_G _ M_X10_settles _ 22 [some (.ref 0), some (.int (nI j)), some (.int (nI s)), some (.int (nI u)), some (.int (nI k)), none, none] [.int (nI 1), .int (nI k), .ref 29] σ'
      refine am_if (ty := 29) (tn := 25) rfl (by decide) rfl rfl (fun (h_3 : nI 1 = 0) => ?_) (fun (h_3 : ¬ (nI 1 = 0)) => ?_)
      · exact absurd h_3 (by decide)
      refine am_run 2 (pc' := 30) (ls' := [some (.ref 0), some (.int (nI j)), some (.int (nI s)), some (.int (nI u)), some (.int (nI k)), none, none]) (st' := [.int (nI 1), .int (nI k), .ref 29]) (σ' := σ') rfl ?_
      refine am_iastN (n := 8) rfl rfl rfl (by omega) (by decide) ?_
      refine am_run 1 (pc' := 34) (ls' := [some (.ref 0), some (.int (nI j)), some (.int (nI s)), some (.int (nI u)), some (.int (nI k + nI 1)), none, none]) (st' := []) (σ' := (am_wr σ' 29 k (nI 1))) rfl ?_
      refine am_ls (ls' := [some (.ref 0), some (.int (nI j)), some (.int (nI s)), some (.int (nI u)), some (.int (nI (k + 1))), none, none]) (by rw [nI_add]) ?_
      refine am_run 1 (pc' := 3) (ls' := [some (.ref 0), some (.int (nI j)), some (.int (nI s)), some (.int (nI u)), some (.int (nI (k + 1))), none, none]) (st' := []) (σ' := (am_wr σ' 29 k (nI 1))) rfl ?_
      refine c_settles_init hd hu hn m (k + 1) _ (by omega) (fun c hc => by rw [am_wr_ne _ hc]; exact h1 c hc) h2 (fun g hg => ?_)
      by_cases e : g = k
      · subst e
        rw [am_same, sts_u0]
        first | rw [if_pos (by assumption)] | rw [if_neg (nfl (by assumption))]
      · rw [am_diff _ _ _ _ _ e]; exact hI g (by omega)
    · show am_G _ M_X10_settles _ 22 [some (.ref 0), some (.int (nI j)), some (.int (nI s)), some (.int (nI u)), some (.int (nI k)), none, none] [.int (nI 0), .int (nI k), .ref 29] σ'
      refine am_if (ty := 29) (tn := 25) rfl (by decide) rfl rfl (fun (h_4 : nI 0 = 0) => ?_) (fun (h_4 : ¬ (nI 0 = 0)) => ?_)
      rotate_left
      · exact absurd (by decide) h_4
      refine am_run 1 (pc' := 30) (ls' := [some (.ref 0), some (.int (nI j)), some (.int (nI s)), some (.int (nI u)), some (.int (nI k)), none, none]) (st' := [.int (nI 0), .int (nI k), .ref 29]) (σ' := σ') rfl ?_
      refine am_iastN (n := 8) rfl rfl rfl (by omega) (by decide) ?_
      refine am_run 1 (pc' := 34) (ls' := [some (.ref 0), some (.int (nI j)), some (.int (nI s)), some (.int (nI u)), some (.int (nI k + nI 1)), none, none]) (st' := []) (σ' := (am_wr σ' 29 k (nI 0))) rfl ?_
      refine am_ls (ls' := [some (.ref 0), some (.int (nI j)), some (.int (nI s)), some (.int (nI u)), some (.int (nI (k + 1))), none, none]) (by rw [nI_add]) ?_
      refine am_run 1 (pc' := 3) (ls' := [some (.ref 0), some (.int (nI j)), some (.int (nI s)), some (.int (nI u)), some (.int (nI (k + 1))), none, none]) (st' := []) (σ' := (am_wr σ' 29 k (nI 0))) rfl ?_
      refine c_settles_init hd hu hn m (k + 1) _ (by omega) (fun c hc => by rw [am_wr_ne _ hc]; exact h1 c hc) h2 (fun g hg => ?_)
      by_cases e : g = k
      · subst e
        rw [am_same, sts_u0]
        first | rw [if_pos (by assumption)] | rw [if_neg (nfl (by assumption))]
      · rw [am_diff _ _ _ _ _ e]; exact hI g (by omega)
set_option maxRecDepth 10000 in
set_option maxHeartbeats 2000000 in
theorem c_settles_loop {d : Nat} (hd : 17 ≤ d) {σ0 : am_M} {j s u n r : Nat} {p : Pg} {rk od dp : Nat → Nat} {ow : Nat → Nat → Nat} (hM : MI σ0 j p n r rk od dp ow) (hs : s ≤ 1048576) (hv : s = ST ∨ lv p (r + 1) s = true) {Q : am_Q} (hn : ∀ σ', KG σ0 σ' → σ'.1 0 38 = nI j → σ'.1 0 39 = nI s → σ'.1 0 40 = nI (stl p (r + 1) s 9 u 0).2.2 → (∀ g, g < 8 → σ'.1 29 g = nI (sts ((stl p (r + 1) s 9 u 0).1, (stl p (r + 1) s 9 u 0).2.1) g)) → σ'.1 28 6480 = nI (eM (r_cd 1)) → (∀ i, i < n → ∀ w', w' < 3 ^ dp i → TB σ' p dp ow s (stl p (r + 1) s 9 u 0).1 (stl p (r + 1) s 9 u 0).2.1 i w') → am_G d M_X10_settles Q 114 [some (.ref 0), some (.int (nI j)), some (.int (nI s)), some (.int (nI u)), some (.int (nI 0)), none, none] [] σ') : ∀ (m k P A : Nat) (σ' : am_M), k + m = 9 → opn P A < m → RI p (r + 1) s P A → P < 256 → A < 256 → (stl p (r + 1) s 9 u 0) = ((stl p (r + 1) s m P A).1, (stl p (r + 1) s m P A).2.1, (stl p (r + 1) s m P A).2.2 + k) → KG σ0 σ' → σ'.1 0 38 = nI j → σ'.1 0 39 = nI s → σ'.1 0 40 = nI k → (∀ g, g < 8 → σ'.1 29 g = nI (sts (P, A) g)) → am_G d M_X10_settles Q 81 [some (.ref 0), some (.int (nI j)), some (.int (nI s)), some (.int (nI u)), some (.int (nI 1)), none, none] [] σ'
  | 0, k, P, A, σ', hm, hop, hri, hP, hA, hst, hk, h38, h39, h40, hI => absurd hop (Nat.not_lt_zero _)
  | m + 1, k, P, A, σ', hm, hop, hri, hP, hA, hst, hk, h38, h39, h40, hI => by
    have hW := hM.1.2.1
    have hrn := hM.2.1.2.1
    have hM1 := hM.keep (σ' := σ') (fun c a b _ e => hk.1 c a b e)
    refine am_run 1 (pc' := 83) (ls' := [some (.ref 0), some (.int (nI j)), some (.int (nI s)), some (.int (nI u)), some (.int (nI 1)), none, none]) (st' := [.int (nI 1)]) (σ' := σ') rfl ?_
    refine am_if (ty := 114) (tn := 86) rfl (by decide) rfl rfl (fun (h_1 : nI 1 = 0) => ?_) (fun (h_1 : ¬ (nI 1 = 0)) => ?_)
    · exact absurd h_1 (by decide)
    refine am_run 2 (pc' := 90) (ls' := [some (.ref 0), some (.int (nI j)), some (.int (nI s)), some (.int (nI u)), some (.int (nI 1)), none, none]) (st' := [.int (σ'.1 0 40)]) (σ' := σ') rfl ?_
    refine am_top (v' := nI k) h40 ?_
    refine am_run 1 (pc' := 92) (ls' := [some (.ref 0), some (.int (nI j)), some (.int (nI s)), some (.int (nI u)), some (.int (nI 1)), none, none]) (st' := [.int (nI 20), .int (nI k)]) (σ' := σ') rfl ?_
    refine am_ic (ty := 95) (tn := 114) rfl (by decide) rfl rfl (fun (h_2 : nI k < nI 20) => ?_) (fun (h_2 : ¬ (nI k < nI 20)) => ?_)
    rotate_left
    · have h_2 : ¬ (k < 20) := fun z => h_2 ((nI_ltI (by omega) (by omega)).mpr z)
      omega
    have h_2 : k < 20 := (nI_ltI (by omega) (by omega)).mp h_2
    refine am_run 1 (pc' := 96) (ls' := [some (.ref 0), some (.int (nI j)), some (.int (nI s)), some (.int (nI u)), some (.int (nI 1)), none, none]) (st' := [.ref 0]) (σ' := σ') rfl ?_
    refine am_invv (y := 213) (b := 0) (as := []) (rest := []) rfl rfl rfl rfl rfl rfl rfl (Nat.le_of_ble_eq_true rfl) ?_
    refine c_m_isRound (by omega) hM1.1 hM1.2.1 h38 h39 hs hI hri hP hA hv (fun σ1 hk1 h381 h391 hI1 h28 hT1 => ?_)
    have h401 : σ1.1 0 40 = nI k := by rw [hk1.2.1 40 (by decide) (by decide)]; exact h40
    have hc8 := chg_le p (r + 1) s P A 8
    show am_G _ M_X10_settles _ 99 [some (.ref 0), some (.int (nI j)), some (.int (nI s)), some (.int (nI u)), some (.int (nI 1)), none, none] [.int (nI (chg p (r + 1) s P A 8))] σ1
    refine am_run 4 (pc' := 106) (ls' := [some (.ref 0), some (.int (nI j)), some (.int (nI s)), some (.int (nI u)), some (.int (nI (chg p (r + 1) s P A 8))), none, none]) (st' := [.int (σ1.1 0 40), .ref 0]) (σ' := σ1) rfl ?_
    refine am_top (v' := nI k) h401 ?_
    refine am_run 2 (pc' := 108) (ls' := [some (.ref 0), some (.int (nI j)), some (.int (nI s)), some (.int (nI u)), some (.int (nI (chg p (r + 1) s P A 8))), none, none]) (st' := [.int (nI k + nI 1), .ref 0]) (σ' := σ1) rfl ?_
    refine am_top (v' := nI (k + 1)) (nI_add _ _) ?_
    refine am_run 2 (pc' := 81) (ls' := [some (.ref 0), some (.int (nI j)), some (.int (nI s)), some (.int (nI u)), some (.int (nI (chg p (r + 1) s P A 8))), none, none]) (st' := []) (σ' := (am_wr σ1 0 40 (nI (k + 1)))) rfl ?_
    rcases chg_8 hW (show r + 1 ≤ n by omega) hri hP hA with ⟨e, er⟩ | ⟨e, er⟩
    · have ez : (stl p (r + 1) s 9 u 0) = (P, A, k + 1) := by rw [hst]; unfold stl; rw [if_pos er]; simp [Nat.add_comm]
      refine am_ls (ls' := [some (.ref 0), some (.int (nI j)), some (.int (nI s)), some (.int (nI u)), some (.int (nI 0)), none, none]) (by rw [e]) ?_
      refine am_run 1 (pc' := 83) (ls' := [some (.ref 0), some (.int (nI j)), some (.int (nI s)), some (.int (nI u)), some (.int (nI 0)), none, none]) (st' := [.int (nI 0)]) (σ' := (am_wr σ1 0 40 (nI (k + 1)))) rfl ?_
      refine am_if (ty := 114) (tn := 86) rfl (by decide) rfl rfl (fun _ => ?_) (fun (z : ¬ (nI 0 = 0)) => absurd (by decide) z)
      refine hn _ (hk.nx hk1 _) (by rw [am_diff _ _ _ _ _ (by decide)]; exact h381) (by rw [am_diff _ _ _ _ _ (by decide)]; exact h391) (by rw [am_same, ez]) (fun g hg => by rw [am_wr_ne _ (by decide), hI1 g hg, er, ez]) (by rw [am_wr_ne _ (by decide)]; exact h28) (fun i hi w' hw' => ?_)
      rw [ez]
      exact (hT1 i hi w' hw').keep (am_wr_ne _ (by decide))
    · have hl := rnd_lt (s := s) hW (show r + 1 ≤ n by omega) hP hA
      have hr' := rnd_ri hW (show r + 1 ≤ n by omega) hri
      have hlt := opn_lt hP hA hl.1 hl.2 (rnd_sb p (r + 1) s P A).1 (rnd_sb p (r + 1) s P A).2 hr'.1 er
      refine am_ls (ls' := [some (.ref 0), some (.int (nI j)), some (.int (nI s)), some (.int (nI u)), some (.int (nI 1)), none, none]) (by rw [e]) ?_
      refine c_settles_loop hd hM hs hv hn m (k + 1) _ _ _ (by omega) (by omega) hr' hl.1 hl.2 ?_ (hk.nx hk1 _) (by rw [am_diff _ _ _ _ _ (by decide)]; exact h381) (by rw [am_diff _ _ _ _ _ (by decide)]; exact h391) (am_same _ _ _ _) (fun g hg => by rw [am_wr_ne _ (by decide)]; exact hI1 g hg)
      rw [hst]
      rw [show stl p (r + 1) s (m + 1) P A = _ from if_neg er]
      refine Prod.ext rfl (Prod.ext rfl ?_)
      show (stl p (r + 1) s m (rnd p (r + 1) s P A).1 (rnd p (r + 1) s P A).2).2.2 + 1 + k = (stl p (r + 1) s m (rnd p (r + 1) s P A).1 (rnd p (r + 1) s P A).2).2.2 + (k + 1)
      omega
set_option maxRecDepth 10000 in
set_option maxHeartbeats 2000000 in
theorem c_settles_or {d : Nat} (hd : 1 ≤ d) {σ0 : am_M} {j s u P A : Nat} {v : D3} (hP : P < 256) (hu : u < 256) (hsb : sb u P) (hI0 : ∀ g, g < 8 → σ0.1 29 g = nI (sts (P, A) g)) {Q : am_Q} (hn : ∀ σ', (∀ c, c ≠ 0 → σ'.1 c = σ0.1 c) → (∀ k, k ≠ 42 → σ'.1 0 k = σ0.1 0 k) → σ'.2 = σ0.2 → σ'.1 0 42 = nI P → am_G d M_X10_settles Q 213 [some (.ref 0), some (.int (nI j)), some (.int (nI s)), some (.int (nI u)), some (.int (nI 0)), some (.int (nI (eD v))), some (.int (nI 8))] [] σ') : ∀ (m k : Nat) (σ' : am_M), k + m = 8 → (∀ c, c ≠ 0 → σ'.1 c = σ0.1 c) → (∀ k, k ≠ 42 → σ'.1 0 k = σ0.1 0 k) → σ'.2 = σ0.2 → σ'.1 0 42 = nI (u ||| P % 2 ^ k) → am_G d M_X10_settles Q 172 [some (.ref 0), some (.int (nI j)), some (.int (nI s)), some (.int (nI u)), some (.int (nI 0)), some (.int (nI (eD v))), some (.int (nI k))] [] σ'
  | 0, k, σ', hm, h1, h0, h2, h42 => by
    refine am_run 2 (pc' := 176) (ls' := [some (.ref 0), some (.int (nI j)), some (.int (nI s)), some (.int (nI u)), some (.int (nI 0)), some (.int (nI (eD v))), some (.int (nI k))]) (st' := [.int (nI 8), .int (nI k)]) (σ' := σ') rfl ?_
    refine am_ic (ty := 179) (tn := 213) rfl (by decide) rfl rfl (fun (h_1 : nI k < nI 8) => ?_) (fun (h_1 : ¬ (nI k < nI 8)) => ?_)
    · have h_1 : k < 8 := (nI_ltI (by omega) (by omega)).mp h_1
      omega
    have h_1 : ¬ (k < 8) := fun z => h_1 ((nI_ltI (by omega) (by omega)).mpr z)
    have e : k = 8 := by omega
    subst e
    refine hn σ' h1 h0 h2 ?_
    rw [h42, show P % 2 ^ 8 = P from Nat.mod_eq_of_lt hP, or_sb hsb]
  | m + 1, k, σ', hm, h1, h0, h2, h42 => by
    have hsl := sts_lt (P, A) k
    refine am_run 2 (pc' := 176) (ls' := [some (.ref 0), some (.int (nI j)), some (.int (nI s)), some (.int (nI u)), some (.int (nI 0)), some (.int (nI (eD v))), some (.int (nI k))]) (st' := [.int (nI 8), .int (nI k)]) (σ' := σ') rfl ?_
    refine am_ic (ty := 179) (tn := 213) rfl (by decide) rfl rfl (fun (h_1 : nI k < nI 8) => ?_) (fun (h_1 : ¬ (nI k < nI 8)) => ?_)
    rotate_left
    · have h_1 : ¬ (k < 8) := fun z => h_1 ((nI_ltI (by omega) (by omega)).mpr z)
      omega
    have h_1 : k < 8 := (nI_ltI (by omega) (by omega)).mp h_1
    refine am_run 3 (pc' := 184) (ls' := [some (.ref 0), some (.int (nI j)), some (.int (nI s)), some (.int (nI u)), some (.int (nI 0)), some (.int (nI (eD v))), some (.int (nI k))]) (st' := [.int (σ'.1 0 42), .ref 0]) (σ' := σ') rfl ?_
    refine am_top (v' := nI (u ||| P % 2 ^ k)) h42 ?_
    refine am_run 3 (pc' := 190) (ls' := [some (.ref 0), some (.int (nI j)), some (.int (nI s)), some (.int (nI u)), some (.int (nI 0)), some (.int (nI (eD v))), some (.int (nI k))]) (st' := [.int (nI k), .ref 29, .int (nI (u ||| P % 2 ^ k)), .ref 0]) (σ' := σ') rfl ?_
    refine am_ialdN (n := 8) (v := nI (sts (P, A) k)) rfl rfl rfl (by omega) (by rw [h1 29 (by decide)]; exact hI0 k (by omega)) (by decide) ?_
    refine am_run 1 (pc' := 192) (ls' := [some (.ref 0), some (.int (nI j)), some (.int (nI s)), some (.int (nI u)), some (.int (nI 0)), some (.int (nI (eD v))), some (.int (nI k))]) (st' := [.int (nI 1), .int (nI (sts (P, A) k)), .int (nI (u ||| P % 2 ^ k)), .ref 0]) (σ' := σ') rfl ?_
    refine am_ic (ty := 195) (tn := 202) rfl (by decide) rfl rfl (fun (h_2 : nI (sts (P, A) k) = nI 1) => ?_) (fun (h_2 : ¬ (nI (sts (P, A) k) = nI 1)) => ?_)
    · have h_2 : sts (P, A) k = 1 := (nI_eq (by omega) (by omega)).mp h_2
      refine am_run 3 (pc' := 199) (ls' := [some (.ref 0), some (.int (nI j)), some (.int (nI s)), some (.int (nI u)), some (.int (nI 0)), some (.int (nI (eD v))), some (.int (nI k))]) (st' := [.int ((nI 1) <<< ((nI k) &&& 31)), .int (nI (u ||| P % 2 ^ k)), .ref 0]) (σ' := σ') rfl ?_
      refine am_top (v' := nI (2 ^ k)) (by rw [nx_shl 1 (by omega), Nat.one_mul]) ?_
      refine am_run 2 (pc' := 204) (ls' := [some (.ref 0), some (.int (nI j)), some (.int (nI s)), some (.int (nI u)), some (.int (nI 0)), some (.int (nI (eD v))), some (.int (nI k))]) (st' := [.int (nI (u ||| P % 2 ^ k) ||| nI (2 ^ k)), .ref 0]) (σ' := σ') rfl ?_
      refine am_top (v' := nI (u ||| P % 2 ^ k ||| 2 ^ k)) (nx_or _ _) ?_
      refine am_run 2 (pc' := 210) (ls' := [some (.ref 0), some (.int (nI j)), some (.int (nI s)), some (.int (nI u)), some (.int (nI 0)), some (.int (nI (eD v))), some (.int (nI k + nI 1))]) (st' := []) (σ' := (am_wr σ' 0 42 (nI (u ||| P % 2 ^ k ||| 2 ^ k)))) rfl ?_
      refine am_ls (ls' := [some (.ref 0), some (.int (nI j)), some (.int (nI s)), some (.int (nI u)), some (.int (nI 0)), some (.int (nI (eD v))), some (.int (nI (k + 1)))]) (by rw [nI_add]) ?_
      refine am_run 1 (pc' := 172) (ls' := [some (.ref 0), some (.int (nI j)), some (.int (nI s)), some (.int (nI u)), some (.int (nI 0)), some (.int (nI (eD v))), some (.int (nI (k + 1)))]) (st' := []) (σ' := (am_wr σ' 0 42 (nI (u ||| P % 2 ^ k ||| 2 ^ k)))) rfl ?_
      refine c_settles_or hd hP hu hsb hI0 hn m (k + 1) _ (by omega) (fun c hc => by rw [am_wr_ne _ hc]; exact h1 c hc) (fun k' hk' => by rw [am_diff _ _ _ _ _ hk']; exact h0 k' hk') h2 ?_
      rw [am_same, mod_s]
      first | rw [if_pos ((sts_1 (E := (P, A)) (g := k)).mp (by assumption)), Nat.or_assoc] | rw [if_neg (fun z => absurd ((sts_1 (E := (P, A)) (g := k)).mpr z) (by assumption)), Nat.or_zero]
    · have h_2 : ¬ (sts (P, A) k = 1) := fun z => h_2 ((nI_eq (by omega) (by omega)).mpr z)
      refine am_run 2 (pc' := 204) (ls' := [some (.ref 0), some (.int (nI j)), some (.int (nI s)), some (.int (nI u)), some (.int (nI 0)), some (.int (nI (eD v))), some (.int (nI k))]) (st' := [.int (nI (u ||| P % 2 ^ k) ||| nI 0), .ref 0]) (σ' := σ') rfl ?_
      refine am_top (v' := nI (u ||| P % 2 ^ k ||| 0)) (nx_or _ _) ?_
      refine am_run 2 (pc' := 210) (ls' := [some (.ref 0), some (.int (nI j)), some (.int (nI s)), some (.int (nI u)), some (.int (nI 0)), some (.int (nI (eD v))), some (.int (nI k + nI 1))]) (st' := []) (σ' := (am_wr σ' 0 42 (nI (u ||| P % 2 ^ k ||| 0)))) rfl ?_
      refine am_ls (ls' := [some (.ref 0), some (.int (nI j)), some (.int (nI s)), some (.int (nI u)), some (.int (nI 0)), some (.int (nI (eD v))), some (.int (nI (k + 1)))]) (by rw [nI_add]) ?_
      refine am_run 1 (pc' := 172) (ls' := [some (.ref 0), some (.int (nI j)), some (.int (nI s)), some (.int (nI u)), some (.int (nI 0)), some (.int (nI (eD v))), some (.int (nI (k + 1)))]) (st' := []) (σ' := (am_wr σ' 0 42 (nI (u ||| P % 2 ^ k ||| 0)))) rfl ?_
      refine c_settles_or hd hP hu hsb hI0 hn m (k + 1) _ (by omega) (fun c hc => by rw [am_wr_ne _ hc]; exact h1 c hc) (fun k' hk' => by rw [am_diff _ _ _ _ _ hk']; exact h0 k' hk') h2 ?_
      rw [am_same, mod_s]
      first | rw [if_pos ((sts_1 (E := (P, A)) (g := k)).mp (by assumption)), Nat.or_assoc] | rw [if_neg (fun z => absurd ((sts_1 (E := (P, A)) (g := k)).mpr z) (by assumption)), Nat.or_zero]

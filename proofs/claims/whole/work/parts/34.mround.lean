/-! the reference's rounds -/
theorem sts_0 {E : Nat × Nat} {g : Nat} : sts E g = 0 ↔ E.1.testBit g = false ∧ E.2.testBit g = false := by
  unfold sts
  rcases bt (E.1.testBit g) with h | h <;> rcases bt (E.2.testBit g) with h2 | h2 <;> simp [h, h2]
theorem sts_rnd {p : Pg} {n x s P A : Nat} (h : PW p n) (hx : x ≤ n) (hr : RI p x s P A) {g : Nat} (hg : g < 8) : sts (rnd p x s P A) g = if sts (P, A) g = 0 then (if (an p 61 x s true P A).1.testBit g = true then 1 else if (an p 61 x s true P A).2.1.testBit g = true then 0 else 2) else sts (P, A) g := by
  have iv := an_inv h 61 x s true P A hx
  have h255 : (255 : Nat).testBit g = true := by
    rw [show (255 : Nat) = 2 ^ 8 - 1 from rfl, Nat.testBit_two_pow_sub_one]; simp [hg]
  have i1 := iv.1 g
  have i2 := hr.2 g
  have i3 := hr.1 g
  unfold sts rnd
  simp only [Nat.testBit_or, dn_bit, h255]
  generalize (an p 61 x s true P A).1.testBit g = a at *
  generalize (an p 61 x s true P A).2.1.testBit g = b at *
  generalize P.testBit g = c at *
  generalize A.testBit g = e at *
  revert a b c e
  decide
theorem sts_ext {E F : Nat × Nat} (h1 : dj E.1 E.2) (h2 : dj F.1 F.2) (hE : E.1 < 256 ∧ E.2 < 256) (hF : F.1 < 256 ∧ F.2 < 256) (h : ∀ g, g < 8 → sts E g = sts F g) : E = F := by
  refine Prod.ext (lt8_ext hE.1 hF.1 fun g hg => ?_) (lt8_ext hE.2 hF.2 fun g hg => ?_)
  · rw [Bool.eq_iff_iff, ← sts_1 (E := E), ← sts_1 (E := F), h g hg]
  · rw [Bool.eq_iff_iff, ← sts_2 h1, ← sts_2 h2, h g hg]
/-- has a round changed one of the first k signals -/
def chg (p : Pg) (x s P A : Nat) : Nat → Nat
  | 0 => 0
  | k + 1 => if sts (rnd p x s P A) k = sts (P, A) k then chg p x s P A k else 1
theorem chg_le (p : Pg) (x s P A : Nat) : ∀ k, chg p x s P A k ≤ 1
  | 0 => Nat.zero_le _
  | k + 1 => by
    unfold chg
    split
    · exact chg_le p x s P A k
    · exact Nat.le_refl _
theorem chg_0 {p : Pg} {x s P A : Nat} : ∀ k, chg p x s P A k = 0 → ∀ g, g < k → sts (rnd p x s P A) g = sts (P, A) g
  | 0, _, _, hg => absurd hg (Nat.not_lt_zero _)
  | k + 1, h, g, hg => by
    unfold chg at h
    split at h
    · rename_i e
      by_cases z : g = k
      · rw [z]; exact e
      · exact chg_0 k h g (by omega)
    · cases h
theorem chg_eq {p : Pg} {x s P A : Nat} (h : rnd p x s P A = (P, A)) : ∀ k, chg p x s P A k = 0
  | 0 => rfl
  | k + 1 => by
    unfold chg
    rw [h, if_pos rfl]
    exact chg_eq h k
theorem chg_8 {p : Pg} {n x s P A : Nat} (h : PW p n) (hx : x ≤ n) (hr : RI p x s P A) (hP : P < 256) (hA : A < 256) : (chg p x s P A 8 = 0 ∧ rnd p x s P A = (P, A)) ∨ (chg p x s P A 8 = 1 ∧ ¬ rnd p x s P A = (P, A)) := by
  have hl := chg_le p x s P A 8
  rcases Nat.eq_zero_or_pos (chg p x s P A 8) with e | e
  · exact Or.inl ⟨e, sts_ext (rnd_ri h hx hr).1 hr.1 (rnd_lt h hx hP hA) ⟨hP, hA⟩ (chg_0 8 e)⟩
  · exact Or.inr ⟨by omega, fun z => by rw [chg_eq z 8] at e; exact absurd e (Nat.lt_irrefl 0)⟩
/-- the open signals among the first k -/
def opk (P A k : Nat) : Nat := dn (2 ^ k - 1) (P ||| A)
theorem opk_s (P A k : Nat) : opk P A (k + 1) = if sts (P, A) k = 0 then opk P A k ||| 2 ^ k else opk P A k := by
  unfold opk
  apply Nat.eq_of_testBit_eq
  intro i
  by_cases e : sts (P, A) k = 0
  · rw [if_pos e]
    obtain ⟨e1, e2⟩ := sts_0.mp e
    rw [Nat.testBit_or, dn_bit, dn_bit, Nat.testBit_two_pow_sub_one, Nat.testBit_two_pow_sub_one, Nat.testBit_two_pow, Nat.testBit_or]
    by_cases z : k = i
    · subst z
      have e1 : P.testBit k = false := e1
      have e2 : A.testBit k = false := e2
      simp [e1, e2]
    · rcases Nat.lt_or_ge i k with y | y
      · simp [y, show i < k + 1 by omega, z]
      · simp [show ¬ i < k by omega, show ¬ i < k + 1 by omega, z]
  · rw [if_neg e, dn_bit, dn_bit, Nat.testBit_two_pow_sub_one, Nat.testBit_two_pow_sub_one, Nat.testBit_or]
    by_cases z : k = i
    · subst z
      rcases bt (P.testBit k) with q | q
      · simp [q]
      · rcases bt (A.testBit k) with q2 | q2
        · simp [q2]
        · exact absurd (sts_0.mpr ⟨q, q2⟩) e
    · rcases Nat.lt_or_ge i k with y | y
      · simp [y, show i < k + 1 by omega]
      · simp [show ¬ i < k by omega, show ¬ i < k + 1 by omega]
theorem nI_01 {k : Nat} (h : k ≤ 1) : nI k = 0 ∨ nI k = 1 := by
  rcases (show k = 0 ∨ k = 1 by omega) with e | e <;> rw [e] <;> decide
theorem opk_lt {P A k : Nat} (hk : k ≤ 8) : opk P A k < 256 := by
  have h1 : opk P A k ≤ 2 ^ k - 1 := dn_le _ _
  have h2 : 2 ^ k ≤ 2 ^ 8 := Nat.pow_le_pow_right (by decide) hk
  have h3 : 0 < 2 ^ k := Nat.two_pow_pos k
  omega
set_option maxRecDepth 10000 in
set_option maxHeartbeats 2000000 in
theorem c_m_whole {d : Nat} (hd : 2 ≤ d) {σ : am_M} {j s P A n : Nat} {p : Pg} {dp : Nat → Nat} {ow : Nat → Nat → Nat} (hB : MB σ j s P A p n dp ow) {r : Nat} (hr4 : σ.1 4 j = nI r) (hrn : r < n) (hr0 : dp r = 0) (hT : TB σ p dp ow s P A r 0) (hv : s = ST ∨ lv p (r + 1) s = true) {Q : am_Q} (hq : Q (some (.int (nI (eM (an p 61 (r + 1) s true P A))))) σ) : am_C d 211 [.ref 0] σ Q := by
  obtain ⟨hj, hS, hW, hs, hN, hdj, hP, hA⟩ := id hB
  obtain ⟨hS1, hS2, hS3, hS4⟩ := id hS
  have hn60 := hW.1
  unfold TB at hT
  rw [hr0] at hT
  refine am_enter' (M := M_X10_whole) rfl rfl rfl (by omega) (ls := [some (.ref 0)]) rfl (fun d' hd' => ?_)
  refine am_run 6 (pc' := 12) (ls' := [some (.ref 0)]) (st' := [.int (σ.1 0 38), .ref 4, .ref 28]) (σ' := σ) rfl ?_
  refine am_top (v' := nI j) hS1 ?_
  refine am_ialdN (n := 3) (v := nI r) rfl rfl rfl (by omega) hr4 (by decide) ?_
  refine am_run 2 (pc' := 15) (ls' := [some (.ref 0)]) (st' := [.ref 0, .int (nI 0), .int (nI r), .ref 28]) (σ' := σ) rfl ?_
  refine am_invv (y := 210) (b := 0) (as := []) (rest := [.int (nI 0), .int (nI r), .ref 28]) rfl rfl rfl rfl rfl rfl rfl (Nat.le_of_ble_eq_true rfl) ?_
  refine am_enter' rfl rfl rfl (by omega) (ls := [some (.ref 0)]) rfl (fun d_1 hd_1 => ?_)
  refine am_run 2 (pc' := 4) (ls' := [some (.ref 0)]) (st' := [.int (σ.1 0 39)]) (σ' := σ) rfl ?_
  refine am_top (v' := nI s) hS2 ?_
  refine am_run 1 (pc' := 6) (ls' := [some (.ref 0)]) (st' := [.int (nI 1048576), .int (nI s)]) (σ' := σ) rfl ?_
  refine am_ic (ty := 9) (tn := 13) rfl (by decide) rfl rfl (fun (h_2 : nI s = nI 1048576) => ?_) (fun (h_2 : ¬ (nI s = nI 1048576)) => ?_)
  · have h_2 : s = 1048576 := (nI_eq (by omega) (by omega)).mp h_2
    refine am_run 2 (pc' := 14) (ls' := [some (.ref 0)]) (st' := [.int (nI 0)]) (σ' := σ) rfl ?_
    refine am_reti rfl rfl ?_
    show am_G _ M_X10_whole _ 18 [some (.ref 0)] [.int (nI 0), .int (nI 0), .int (nI r), .ref 28] σ
    refine am_invs (y := 189) (as := [.int (nI r), .int (nI 0), .int (nI 0)]) (rest := [.ref 28]) rfl rfl rfl rfl rfl rfl (Nat.le_of_ble_eq_true rfl) ?_
    refine c_m_cellOf (by omega) ?_
    show am_G _ M_X10_whole _ 21 [some (.ref 0)] [.int (nI ((r * 27 + 0) * 4 + 0)), .ref 28] σ
    refine am_ialdN (n := 6481) (v := nI (eM (an p 61 (r + 1) s true P A))) rfl rfl rfl (by omega) (by rw [h_2]; exact hT.1) (by decide) ?_
    refine am_reti rfl rfl ?_
    exact hq
  · have h_2 : ¬ (s = 1048576) := fun z => h_2 ((nI_eq (by omega) (by omega)).mpr z)
    refine am_run 1 (pc' := 14) (ls' := [some (.ref 0)]) (st' := [.int (nI 2)]) (σ' := σ) rfl ?_
    refine am_reti rfl rfl ?_
    show am_G _ M_X10_whole _ 18 [some (.ref 0)] [.int (nI 2), .int (nI 0), .int (nI r), .ref 28] σ
    refine am_invs (y := 189) (as := [.int (nI r), .int (nI 0), .int (nI 2)]) (rest := [.ref 28]) rfl rfl rfl rfl rfl rfl (Nat.le_of_ble_eq_true rfl) ?_
    refine c_m_cellOf (by omega) ?_
    show am_G _ M_X10_whole _ 21 [some (.ref 0)] [.int (nI ((r * 27 + 0) * 4 + 2)), .ref 28] σ
    refine am_ialdN (n := 6481) (v := nI (eM (an p 61 (r + 1) s true P A))) rfl rfl rfl (by omega) (hT.2.2 (hv.resolve_left h_2)).1 (by decide) ?_
    refine am_reti rfl rfl ?_
    exact hq
set_option maxRecDepth 10000 in
set_option maxHeartbeats 2000000 in
theorem c_m_openSet_loop {d : Nat} {σ : am_M} {P A : Nat} (hS3 : ∀ g, g < 8 → σ.1 29 g = nI (sts (P, A) g)) {Q : am_Q} (hq : Q (some (.int (nI (dn 255 (P ||| A))))) σ) : ∀ (m k : Nat), k + m = 8 → am_G d M_X10_openSet Q 4 [some (.ref 0), some (.int (nI (opk P A k))), some (.int (nI k))] [] σ
  | 0, k, hm => by
    refine am_run 2 (pc' := 7) (ls' := [some (.ref 0), some (.int (nI (opk P A k))), some (.int (nI k))]) (st' := [.int (nI 8), .int (nI k)]) (σ' := σ) rfl ?_
    refine am_ic (ty := 10) (tn := 35) rfl (by decide) rfl rfl (fun (h_1 : nI k < nI 8) => ?_) (fun (h_1 : ¬ (nI k < nI 8)) => ?_)
    · have h_1 : k < 8 := (nI_ltI (by omega) (by omega)).mp h_1
      omega
    have h_1 : ¬ (k < 8) := fun z => h_1 ((nI_ltI (by omega) (by omega)).mpr z)
    refine am_run 1 (pc' := 36) (ls' := [some (.ref 0), some (.int (nI (opk P A k))), some (.int (nI k))]) (st' := [.int (nI (opk P A k))]) (σ' := σ) rfl ?_
    refine am_reti rfl rfl ?_
    have e : k = 8 := by omega
    subst e
    exact hq
  | m + 1, k, hm => by
    have hsl := sts_lt (P, A) k
    refine am_run 2 (pc' := 7) (ls' := [some (.ref 0), some (.int (nI (opk P A k))), some (.int (nI k))]) (st' := [.int (nI 8), .int (nI k)]) (σ' := σ) rfl ?_
    refine am_ic (ty := 10) (tn := 35) rfl (by decide) rfl rfl (fun (h_1 : nI k < nI 8) => ?_) (fun (h_1 : ¬ (nI k < nI 8)) => ?_)
    rotate_left
    · have h_1 : ¬ (k < 8) := fun z => h_1 ((nI_ltI (by omega) (by omega)).mpr z)
      omega
    have h_1 : k < 8 := (nI_ltI (by omega) (by omega)).mp h_1
    refine am_run 4 (pc' := 16) (ls' := [some (.ref 0), some (.int (nI (opk P A k))), some (.int (nI k))]) (st' := [.int (nI k), .ref 29, .int (nI (opk P A k))]) (σ' := σ) rfl ?_
    refine am_ialdN (n := 8) (v := nI (sts (P, A) k)) rfl rfl rfl (by omega) (hS3 k (by omega)) (by decide) ?_
    refine am_if (ty := 20) (tn := 26) rfl (by decide) rfl rfl (fun (h_2 : nI (sts (P, A) k) = 0) => ?_) (fun (h_2 : ¬ (nI (sts (P, A) k) = 0)) => ?_)
    · have h_2 : sts (P, A) k = 0 := (am_n0 (by omega)).mp h_2
      refine am_run 3 (pc' := 23) (ls' := [some (.ref 0), some (.int (nI (opk P A k))), some (.int (nI k))]) (st' := [.int ((nI 1) <<< ((nI k) &&& 31)), .int (nI (opk P A k))]) (σ' := σ) rfl ?_
      refine am_top (v' := nI (2 ^ k)) (by rw [nx_shl 1 (by omega), Nat.one_mul]) ?_
      refine am_run 2 (pc' := 28) (ls' := [some (.ref 0), some (.int (nI (opk P A k))), some (.int (nI k))]) (st' := [.int (nI (opk P A k) ||| nI (2 ^ k))]) (σ' := σ) rfl ?_
      refine am_top (v' := nI (opk P A k ||| 2 ^ k)) (nx_or _ _) ?_
      refine am_run 2 (pc' := 32) (ls' := [some (.ref 0), some (.int (nI (opk P A k ||| 2 ^ k))), some (.int (nI k + nI 1))]) (st' := []) (σ' := σ) rfl ?_
      refine am_ls (ls' := [some (.ref 0), some (.int (nI (opk P A k ||| 2 ^ k))), some (.int (nI (k + 1)))]) (by rw [nI_add]) ?_
      refine am_run 1 (pc' := 4) (ls' := [some (.ref 0), some (.int (nI (opk P A k ||| 2 ^ k))), some (.int (nI (k + 1)))]) (st' := []) (σ' := σ) rfl ?_
      refine am_ls (ls' := [some (.ref 0), some (.int (nI (opk P A (k + 1)))), some (.int (nI (k + 1)))]) ?_ ?_
      · rw [opk_s]
        first | (rw [if_pos (by assumption)]; done) | (rw [if_neg (by assumption), Nat.or_zero]; done)
      exact c_m_openSet_loop hS3 hq m (k + 1) (by omega)
    · have h_2 : ¬ (sts (P, A) k = 0) := fun z => h_2 ((am_n0 (by omega)).mpr z)
      refine am_run 2 (pc' := 28) (ls' := [some (.ref 0), some (.int (nI (opk P A k))), some (.int (nI k))]) (st' := [.int (nI (opk P A k) ||| nI 0)]) (σ' := σ) rfl ?_
      refine am_top (v' := nI (opk P A k ||| 0)) (nx_or _ _) ?_
      refine am_run 2 (pc' := 32) (ls' := [some (.ref 0), some (.int (nI (opk P A k ||| 0))), some (.int (nI k + nI 1))]) (st' := []) (σ' := σ) rfl ?_
      refine am_ls (ls' := [some (.ref 0), some (.int (nI (opk P A k ||| 0))), some (.int (nI (k + 1)))]) (by rw [nI_add]) ?_
      refine am_run 1 (pc' := 4) (ls' := [some (.ref 0), some (.int (nI (opk P A k ||| 0))), some (.int (nI (k + 1)))]) (st' := []) (σ' := σ) rfl ?_
      refine am_ls (ls' := [some (.ref 0), some (.int (nI (opk P A (k + 1)))), some (.int (nI (k + 1)))]) ?_ ?_
      · rw [opk_s]
        first | (rw [if_pos (by assumption)]; done) | (rw [if_neg (by assumption), Nat.or_zero]; done)
      exact c_m_openSet_loop hS3 hq m (k + 1) (by omega)
set_option maxRecDepth 10000 in
set_option maxHeartbeats 2000000 in
theorem c_m_openSet {d : Nat} (hd : 1 ≤ d) {σ : am_M} {P A : Nat} (hS3 : ∀ g, g < 8 → σ.1 29 g = nI (sts (P, A) g)) {Q : am_Q} (hq : Q (some (.int (nI (dn 255 (P ||| A))))) σ) : am_C d 212 [.ref 0] σ Q := by
  refine am_enter' (M := M_X10_openSet) rfl rfl rfl (by omega) (ls := [some (.ref 0), none, none]) rfl (fun d' hd' => ?_)
  refine am_run 4 (pc' := 4) (ls' := [some (.ref 0), some (.int (nI 0)), some (.int (nI 0))]) (st' := []) (σ' := σ) rfl ?_
  refine am_ls (ls' := [some (.ref 0), some (.int (nI (opk P A 0))), some (.int (nI 0))]) ?_ ?_
  · rw [show opk P A 0 = 0 from Nat.zero_and _]
  exact c_m_openSet_loop hS3 hq 8 0 rfl
/-- the program's root -/
def MR (σ : am_M) (j n : Nat) (dp : Nat → Nat) (r : Nat) : Prop := σ.1 4 j = nI r ∧ r < n ∧ dp r = 0
/-- behind a round: the table, slot, state and the signals' states may be others -/
def KR (σ σ' : am_M) : Prop := (∀ c, c ≠ 28 → c ≠ 29 → c ≠ 0 → σ'.1 c = σ.1 c) ∧ (∀ k, k ≠ 38 → k ≠ 39 → σ'.1 0 k = σ.1 0 k) ∧ σ'.2 = σ.2
theorem KR.rf (σ : am_M) : KR σ σ := ⟨fun _ _ _ _ => rfl, fun _ _ _ => rfl, rfl⟩
theorem KR.tr {σ σ' σ'' : am_M} (h : KR σ σ') (h' : KR σ' σ'') : KR σ σ'' := ⟨fun c a b e => (h'.1 c a b e).trans (h.1 c a b e), fun k a b => (h'.2.1 k a b).trans (h.2.1 k a b), h'.2.2.trans h.2.2⟩
theorem KL.KR {σ σ' : am_M} (h : KL σ σ') : KR σ σ' := ⟨fun c a _ e => h.1 c a e, h.2.1, h.2.2⟩
theorem KR.wr {σ σ' : am_M} (h : KR σ σ') (k : Nat) (x : Int32) : KR σ (am_wr σ' 29 k x) := ⟨fun c a b e => by rw [am_wr_ne x b]; exact h.1 c a b e, fun k' a b => by rw [am_wr_ne x (by decide)]; exact h.2.1 k' a b, h.2.2⟩
theorem MN.keep {σ σ' : am_M} {j : Nat} {p : Pg} {dp : Nat → Nat} {ow : Nat → Nat → Nat} {i : Nat} (h : MN σ j p dp ow i) (hk : ∀ c, c ≠ 28 → c ≠ 29 → c ≠ 0 → σ'.1 c = σ.1 c) : MN σ' j p dp ow i := by
  unfold MN
  rw [hk 5 (by decide) (by decide) (by decide), hk 6 (by decide) (by decide) (by decide), hk 7 (by decide) (by decide) (by decide), hk 8 (by decide) (by decide) (by decide), hk 13 (by decide) (by decide) (by decide), hk 10 (by decide) (by decide) (by decide), hk 11 (by decide) (by decide) (by decide)]
  exact h
theorem KR.MP {σ σ' : am_M} (h : KR σ σ') {j n : Nat} {p : Pg} {rk od dp : Nat → Nat} {ow : Nat → Nat → Nat} (hM : MP σ j p n rk od dp ow) : MP σ' j p n rk od dp ow := by
  obtain ⟨hj, hW, hWT, hn2, hod, hrk, hMN⟩ := hM
  exact ⟨hj, hW, hWT, by rw [h.1 2 (by decide) (by decide) (by decide)]; exact hn2, fun a ha => by rw [h.1 9 (by decide) (by decide) (by decide)]; exact hod a ha, hrk, fun i hi => (hMN i hi).keep h.1⟩
theorem TB.keep {σ σ' : am_M} {p : Pg} {dp : Nat → Nat} {ow : Nat → Nat → Nat} {s P A i w : Nat} (h : TB σ p dp ow s P A i w) (hk : σ'.1 28 = σ.1 28) : TB σ' p dp ow s P A i w := by
  unfold TB
  rw [hk]
  exact h
theorem KR.MR {σ σ' : am_M} (h : KR σ σ') {j n r : Nat} {dp : Nat → Nat} (hM : MR σ j n dp r) : MR σ' j n dp r := ⟨by rw [h.1 4 (by decide) (by decide) (by decide)]; exact hM.1, hM.2⟩
set_option maxRecDepth 10000 in
set_option maxHeartbeats 2000000 in
theorem c_m_isRound_loop {d : Nat} (hd : 1 ≤ d) {σ0 : am_M} {s P A n r : Nat} {p : Pg} (hW : PW p n) (hrn : r < n) (hri : RI p (r + 1) s P A) {Q : am_Q} (hq : ∀ σ', KR σ0 σ' → σ'.1 0 = σ0.1 0 → σ'.1 28 = σ0.1 28 → (∀ g, g < 8 → σ'.1 29 g = nI (sts (rnd p (r + 1) s P A) g)) → Q (some (.int (nI (chg p (r + 1) s P A 8)))) σ') : ∀ (m k : Nat) (σ' : am_M), k + m = 8 → KR σ0 σ' → σ'.1 0 = σ0.1 0 → σ'.1 28 = σ0.1 28 → (∀ g, g < 8 → σ'.1 29 g = nI (if g < k then sts (rnd p (r + 1) s P A) g else sts (P, A) g)) → am_G d M_X10_isRound Q 21 [some (.ref 0), some (.int (nI (eM (an p 61 (r + 1) s true P A)))), some (.int (nI (chg p (r + 1) s P A k))), some (.int (nI k))] [] σ'
  | 0, k, σ', hm, hk, h38, h39, hI => by
    have hcl := chg_le p (r + 1) s P A k
    have hsl := sts_lt (P, A) k
    have oka := an_ok hW 61 (r + 1) s true P A (by omega)
    have ok1 := oka.1
    have ok2 := oka.2.1
    refine am_run 2 (pc' := 24) (ls' := [some (.ref 0), some (.int (nI (eM (an p 61 (r + 1) s true P A)))), some (.int (nI (chg p (r + 1) s P A k))), some (.int (nI k))]) (st' := [.int (nI 8), .int (nI k)]) (σ' := σ') rfl ?_
    refine am_ic (ty := 27) (tn := 94) rfl (by decide) rfl rfl (fun (h_1 : nI k < nI 8) => ?_) (fun (h_1 : ¬ (nI k < nI 8)) => ?_)
    · have h_1 : k < 8 := (nI_ltI (by omega) (by omega)).mp h_1
      omega
    have h_1 : ¬ (k < 8) := fun z => h_1 ((nI_ltI (by omega) (by omega)).mpr z)
    refine am_run 1 (pc' := 95) (ls' := [some (.ref 0), some (.int (nI (eM (an p 61 (r + 1) s true P A)))), some (.int (nI (chg p (r + 1) s P A k))), some (.int (nI k))]) (st' := [.int (nI (chg p (r + 1) s P A k))]) (σ' := σ') rfl ?_
    refine am_retz rfl rfl (nI_01 hcl) ?_
    have e : k = 8 := by omega
    subst e
    exact hq σ' hk h38 h39 (fun g hg => by rw [hI g hg, if_pos hg])
  | m + 1, k, σ', hm, hk, h38, h39, hI => by
    have hcl := chg_le p (r + 1) s P A k
    have hsl := sts_lt (P, A) k
    have oka := an_ok hW 61 (r + 1) s true P A (by omega)
    have ok1 := oka.1
    have ok2 := oka.2.1
    have hsr := sts_rnd hW (show r + 1 ≤ n by omega) hri (g := k) (by omega)
    refine am_run 2 (pc' := 24) (ls' := [some (.ref 0), some (.int (nI (eM (an p 61 (r + 1) s true P A)))), some (.int (nI (chg p (r + 1) s P A k))), some (.int (nI k))]) (st' := [.int (nI 8), .int (nI k)]) (σ' := σ') rfl ?_
    refine am_ic (ty := 27) (tn := 94) rfl (by decide) rfl rfl (fun (h_1 : nI k < nI 8) => ?_) (fun (h_1 : ¬ (nI k < nI 8)) => ?_)
    rotate_left
    · have h_1 : ¬ (k < 8) := fun z => h_1 ((nI_ltI (by omega) (by omega)).mpr z)
      omega
    have h_1 : k < 8 := (nI_ltI (by omega) (by omega)).mp h_1
    refine am_run 3 (pc' := 32) (ls' := [some (.ref 0), some (.int (nI (eM (an p 61 (r + 1) s true P A)))), some (.int (nI (chg p (r + 1) s P A k))), some (.int (nI k))]) (st' := [.int (nI k), .ref 29]) (σ' := σ') rfl ?_
    refine am_ialdN (n := 8) (v := nI (sts (P, A) k)) rfl rfl rfl (by omega) (by rw [hI k (by omega), if_neg (Nat.lt_irrefl k)]) (by decide) ?_
    refine am_if (ty := 36) (tn := 59) rfl (by decide) rfl rfl (fun (h_2 : nI (sts (P, A) k) = 0) => ?_) (fun (h_2 : ¬ (nI (sts (P, A) k) = 0)) => ?_)
    · have h_2 : sts (P, A) k = 0 := (am_n0 (by omega)).mp h_2
      refine am_run 1 (pc' := 37) (ls' := [some (.ref 0), some (.int (nI (eM (an p 61 (r + 1) s true P A)))), some (.int (nI (chg p (r + 1) s P A k))), some (.int (nI k))]) (st' := [.int (nI (eM (an p 61 (r + 1) s true P A)))]) (σ' := σ') rfl ?_
      refine am_invs (y := 185) (as := [.int (nI (eM (an p 61 (r + 1) s true P A)))]) (rest := []) rfl rfl rfl rfl rfl rfl (Nat.le_of_ble_eq_true rfl) ?_
      refine c_m_must (by omega) (r := (an p 61 (r + 1) s true P A)) oka ?_
      show am_G _ M_X10_isRound _ 40 [some (.ref 0), some (.int (nI (eM (an p 61 (r + 1) s true P A)))), some (.int (nI (chg p (r + 1) s P A k))), some (.int (nI k))] [.int (nI ((an p 61 (r + 1) s true P A).1))] σ'
      refine am_run 1 (pc' := 41) (ls' := [some (.ref 0), some (.int (nI (eM (an p 61 (r + 1) s true P A)))), some (.int (nI (chg p (r + 1) s P A k))), some (.int (nI k))]) (st' := [.int (nI k), .int (nI ((an p 61 (r + 1) s true P A).1))]) (σ' := σ') rfl ?_
      refine am_invs (y := 149) (as := [.int (nI ((an p 61 (r + 1) s true P A).1)), .int (nI k)]) (rest := []) rfl rfl rfl rfl rfl rfl (Nat.le_of_ble_eq_true rfl) ?_
      refine c_m_has (by omega) (a := (an p 61 (r + 1) s true P A).1) (s := k) (by omega) (by omega) (fun hb_3 => ?_) (fun hb_3 => ?_)
      · show am_G _ M_X10_isRound _ 44 [some (.ref 0), some (.int (nI (eM (an p 61 (r + 1) s true P A)))), some (.int (nI (chg p (r + 1) s P A k))), some (.int (nI k))] [.int (nI 1)] σ'
        refine am_if (ty := 59) (tn := 47) rfl (by decide) rfl rfl (fun (h_4 : nI 1 = 0) => ?_) (fun (h_4 : ¬ (nI 1 = 0)) => ?_)
        · exact absurd h_4 (by decide)
        refine am_run 4 (pc' := 53) (ls' := [some (.ref 0), some (.int (nI (eM (an p 61 (r + 1) s true P A)))), some (.int (nI (chg p (r + 1) s P A k))), some (.int (nI k))]) (st' := [.int (nI 1), .int (nI k), .ref 29]) (σ' := σ') rfl ?_
        refine am_iastN (n := 8) rfl rfl rfl (by omega) (by decide) ?_
        refine am_run 4 (pc' := 91) (ls' := [some (.ref 0), some (.int (nI (eM (an p 61 (r + 1) s true P A)))), some (.int (nI 1)), some (.int (nI k + nI 1))]) (st' := []) (σ' := (am_wr σ' 29 k (nI 1))) rfl ?_
        refine am_ls (ls' := [some (.ref 0), some (.int (nI (eM (an p 61 (r + 1) s true P A)))), some (.int (nI 1)), some (.int (nI (k + 1)))]) (by rw [nI_add]) ?_
        refine am_run 1 (pc' := 21) (ls' := [some (.ref 0), some (.int (nI (eM (an p 61 (r + 1) s true P A)))), some (.int (nI 1)), some (.int (nI (k + 1)))]) (st' := []) (σ' := (am_wr σ' 29 k (nI 1))) rfl ?_
        have hs2 : sts (rnd p (r + 1) s P A) k = 1 := by first | (exfalso; omega) | (rw [hsr]; simp [*]; done)
        refine am_ls (ls' := [some (.ref 0), some (.int (nI (eM (an p 61 (r + 1) s true P A)))), some (.int (nI (chg p (r + 1) s P A (k + 1)))), some (.int (nI (k + 1)))]) ?_ ?_
        · rw [show chg p (r + 1) s P A (k + 1) = 1 from if_neg (by rw [hs2]; omega)]
        refine c_m_isRound_loop hd hW hrn hri hq m (k + 1) _ (by omega) (hk.wr _ _) (by rw [am_wr_ne _ (by decide)]; exact h38) (by rw [am_wr_ne _ (by decide)]; exact h39) (fun g hg => ?_)
        by_cases e : g = k
        · subst e; rw [am_same, if_pos (by omega), hs2]
        · rw [am_diff _ _ _ _ _ e, hI g hg]
          by_cases y : g < k
          · rw [if_pos y, if_pos (by omega)]
          · rw [if_neg y, if_neg (by omega)]
      · show am_G _ M_X10_isRound _ 44 [some (.ref 0), some (.int (nI (eM (an p 61 (r + 1) s true P A)))), some (.int (nI (chg p (r + 1) s P A k))), some (.int (nI k))] [.int (nI 0)] σ'
        refine am_if (ty := 59) (tn := 47) rfl (by decide) rfl rfl (fun (h_5 : nI 0 = 0) => ?_) (fun (h_5 : ¬ (nI 0 = 0)) => ?_)
        rotate_left
        · exact absurd (by decide) h_5
        refine am_run 3 (pc' := 64) (ls' := [some (.ref 0), some (.int (nI (eM (an p 61 (r + 1) s true P A)))), some (.int (nI (chg p (r + 1) s P A k))), some (.int (nI k))]) (st' := [.int (nI k), .ref 29]) (σ' := σ') rfl ?_
        refine am_ialdN (n := 8) (v := nI (sts (P, A) k)) rfl rfl rfl (by omega) (by rw [hI k (by omega), if_neg (Nat.lt_irrefl k)]) (by decide) ?_
        refine am_if (ty := 68) (tn := 88) rfl (by decide) rfl rfl (fun (h_6 : nI (sts (P, A) k) = 0) => ?_) (fun (h_6 : ¬ (nI (sts (P, A) k) = 0)) => ?_)
        · have h_6 : sts (P, A) k = 0 := (am_n0 (by omega)).mp h_6
          refine am_run 1 (pc' := 69) (ls' := [some (.ref 0), some (.int (nI (eM (an p 61 (r + 1) s true P A)))), some (.int (nI (chg p (r + 1) s P A k))), some (.int (nI k))]) (st' := [.int (nI (eM (an p 61 (r + 1) s true P A)))]) (σ' := σ') rfl ?_
          refine am_invs (y := 186) (as := [.int (nI (eM (an p 61 (r + 1) s true P A)))]) (rest := []) rfl rfl rfl rfl rfl rfl (Nat.le_of_ble_eq_true rfl) ?_
          refine c_m_can (by omega) (r := (an p 61 (r + 1) s true P A)) oka ?_
          show am_G _ M_X10_isRound _ 72 [some (.ref 0), some (.int (nI (eM (an p 61 (r + 1) s true P A)))), some (.int (nI (chg p (r + 1) s P A k))), some (.int (nI k))] [.int (nI ((an p 61 (r + 1) s true P A).2.1))] σ'
          refine am_run 1 (pc' := 73) (ls' := [some (.ref 0), some (.int (nI (eM (an p 61 (r + 1) s true P A)))), some (.int (nI (chg p (r + 1) s P A k))), some (.int (nI k))]) (st' := [.int (nI k), .int (nI ((an p 61 (r + 1) s true P A).2.1))]) (σ' := σ') rfl ?_
          refine am_invs (y := 149) (as := [.int (nI ((an p 61 (r + 1) s true P A).2.1)), .int (nI k)]) (rest := []) rfl rfl rfl rfl rfl rfl (Nat.le_of_ble_eq_true rfl) ?_
          refine c_m_has (by omega) (a := (an p 61 (r + 1) s true P A).2.1) (s := k) (by omega) (by omega) (fun hb_7 => ?_) (fun hb_7 => ?_)
          · show am_G _ M_X10_isRound _ 76 [some (.ref 0), some (.int (nI (eM (an p 61 (r + 1) s true P A)))), some (.int (nI (chg p (r + 1) s P A k))), some (.int (nI k))] [.int (nI 1)] σ'
            refine am_if (ty := 79) (tn := 88) rfl (by decide) rfl rfl (fun (h_8 : nI 1 = 0) => ?_) (fun (h_8 : ¬ (nI 1 = 0)) => ?_)
            · exact absurd h_8 (by decide)
            refine am_run 1 (pc' := 91) (ls' := [some (.ref 0), some (.int (nI (eM (an p 61 (r + 1) s true P A)))), some (.int (nI (chg p (r + 1) s P A k))), some (.int (nI k + nI 1))]) (st' := []) (σ' := σ') rfl ?_
            refine am_ls (ls' := [some (.ref 0), some (.int (nI (eM (an p 61 (r + 1) s true P A)))), some (.int (nI (chg p (r + 1) s P A k))), some (.int (nI (k + 1)))]) (by rw [nI_add]) ?_
            refine am_run 1 (pc' := 21) (ls' := [some (.ref 0), some (.int (nI (eM (an p 61 (r + 1) s true P A)))), some (.int (nI (chg p (r + 1) s P A k))), some (.int (nI (k + 1)))]) (st' := []) (σ' := σ') rfl ?_
            have hs2 : sts (rnd p (r + 1) s P A) k = sts (P, A) k := by first | (exfalso; omega) | (rw [hsr]; simp [*]; done)
            refine am_ls (ls' := [some (.ref 0), some (.int (nI (eM (an p 61 (r + 1) s true P A)))), some (.int (nI (chg p (r + 1) s P A (k + 1)))), some (.int (nI (k + 1)))]) ?_ ?_
            · rw [show chg p (r + 1) s P A (k + 1) = chg p (r + 1) s P A k from if_pos hs2]
            refine c_m_isRound_loop hd hW hrn hri hq m (k + 1) _ (by omega) hk h38 h39 (fun g hg => ?_)
            rw [hI g hg]
            by_cases e : g = k
            · subst e; rw [if_neg (Nat.lt_irrefl g), if_pos (by omega), hs2]
            · by_cases y : g < k
              · rw [if_pos y, if_pos (by omega)]
              · rw [if_neg y, if_neg (by omega)]
          · show am_G _ M_X10_isRound _ 76 [some (.ref 0), some (.int (nI (eM (an p 61 (r + 1) s true P A)))), some (.int (nI (chg p (r + 1) s P A k))), some (.int (nI k))] [.int (nI 0)] σ'
            refine am_if (ty := 79) (tn := 88) rfl (by decide) rfl rfl (fun (h_9 : nI 0 = 0) => ?_) (fun (h_9 : ¬ (nI 0 = 0)) => ?_)
            rotate_left
            · exact absurd (by decide) h_9
            refine am_run 4 (pc' := 85) (ls' := [some (.ref 0), some (.int (nI (eM (an p 61 (r + 1) s true P A)))), some (.int (nI (chg p (r + 1) s P A k))), some (.int (nI k))]) (st' := [.int (nI 2), .int (nI k), .ref 29]) (σ' := σ') rfl ?_
            refine am_iastN (n := 8) rfl rfl rfl (by omega) (by decide) ?_
            refine am_run 3 (pc' := 91) (ls' := [some (.ref 0), some (.int (nI (eM (an p 61 (r + 1) s true P A)))), some (.int (nI 1)), some (.int (nI k + nI 1))]) (st' := []) (σ' := (am_wr σ' 29 k (nI 2))) rfl ?_
            refine am_ls (ls' := [some (.ref 0), some (.int (nI (eM (an p 61 (r + 1) s true P A)))), some (.int (nI 1)), some (.int (nI (k + 1)))]) (by rw [nI_add]) ?_
            refine am_run 1 (pc' := 21) (ls' := [some (.ref 0), some (.int (nI (eM (an p 61 (r + 1) s true P A)))), some (.int (nI 1)), some (.int (nI (k + 1)))]) (st' := []) (σ' := (am_wr σ' 29 k (nI 2))) rfl ?_
            have hs2 : sts (rnd p (r + 1) s P A) k = 2 := by first | (exfalso; omega) | (rw [hsr]; simp [*]; done)
            refine am_ls (ls' := [some (.ref 0), some (.int (nI (eM (an p 61 (r + 1) s true P A)))), some (.int (nI (chg p (r + 1) s P A (k + 1)))), some (.int (nI (k + 1)))]) ?_ ?_
            · rw [show chg p (r + 1) s P A (k + 1) = 1 from if_neg (by rw [hs2]; omega)]
            refine c_m_isRound_loop hd hW hrn hri hq m (k + 1) _ (by omega) (hk.wr _ _) (by rw [am_wr_ne _ (by decide)]; exact h38) (by rw [am_wr_ne _ (by decide)]; exact h39) (fun g hg => ?_)
            by_cases e : g = k
            · subst e; rw [am_same, if_pos (by omega), hs2]
            · rw [am_diff _ _ _ _ _ e, hI g hg]
              by_cases y : g < k
              · rw [if_pos y, if_pos (by omega)]
              · rw [if_neg y, if_neg (by omega)]
        · have h_6 : ¬ (sts (P, A) k = 0) := fun z => h_6 ((am_n0 (by omega)).mpr z)
          refine am_run 1 (pc' := 91) (ls' := [some (.ref 0), some (.int (nI (eM (an p 61 (r + 1) s true P A)))), some (.int (nI (chg p (r + 1) s P A k))), some (.int (nI k + nI 1))]) (st' := []) (σ' := σ') rfl ?_
          refine am_ls (ls' := [some (.ref 0), some (.int (nI (eM (an p 61 (r + 1) s true P A)))), some (.int (nI (chg p (r + 1) s P A k))), some (.int (nI (k + 1)))]) (by rw [nI_add]) ?_
          refine am_run 1 (pc' := 21) (ls' := [some (.ref 0), some (.int (nI (eM (an p 61 (r + 1) s true P A)))), some (.int (nI (chg p (r + 1) s P A k))), some (.int (nI (k + 1)))]) (st' := []) (σ' := σ') rfl ?_
          have hs2 : sts (rnd p (r + 1) s P A) k = sts (P, A) k := by first | (exfalso; omega) | (rw [hsr]; simp [*]; done)
          refine am_ls (ls' := [some (.ref 0), some (.int (nI (eM (an p 61 (r + 1) s true P A)))), some (.int (nI (chg p (r + 1) s P A (k + 1)))), some (.int (nI (k + 1)))]) ?_ ?_
          · rw [show chg p (r + 1) s P A (k + 1) = chg p (r + 1) s P A k from if_pos hs2]
          refine c_m_isRound_loop hd hW hrn hri hq m (k + 1) _ (by omega) hk h38 h39 (fun g hg => ?_)
          rw [hI g hg]
          by_cases e : g = k
          · subst e; rw [if_neg (Nat.lt_irrefl g), if_pos (by omega), hs2]
          · by_cases y : g < k
            · rw [if_pos y, if_pos (by omega)]
            · rw [if_neg y, if_neg (by omega)]
    · have h_2 : ¬ (sts (P, A) k = 0) := fun z => h_2 ((am_n0 (by omega)).mpr z)
      refine am_run 3 (pc' := 64) (ls' := [some (.ref 0), some (.int (nI (eM (an p 61 (r + 1) s true P A)))), some (.int (nI (chg p (r + 1) s P A k))), some (.int (nI k))]) (st' := [.int (nI k), .ref 29]) (σ' := σ') rfl ?_
      refine am_ialdN (n := 8) (v := nI (sts (P, A) k)) rfl rfl rfl (by omega) (by rw [hI k (by omega), if_neg (Nat.lt_irrefl k)]) (by decide) ?_
      refine am_if (ty := 68) (tn := 88) rfl (by decide) rfl rfl (fun (h_10 : nI (sts (P, A) k) = 0) => ?_) (fun (h_10 : ¬ (nI (sts (P, A) k) = 0)) => ?_)
      · have h_10 : sts (P, A) k = 0 := (am_n0 (by omega)).mp h_10
        refine am_run 1 (pc' := 69) (ls' := [some (.ref 0), some (.int (nI (eM (an p 61 (r + 1) s true P A)))), some (.int (nI (chg p (r + 1) s P A k))), some (.int (nI k))]) (st' := [.int (nI (eM (an p 61 (r + 1) s true P A)))]) (σ' := σ') rfl ?_
        refine am_invs (y := 186) (as := [.int (nI (eM (an p 61 (r + 1) s true P A)))]) (rest := []) rfl rfl rfl rfl rfl rfl (Nat.le_of_ble_eq_true rfl) ?_
        refine c_m_can (by omega) (r := (an p 61 (r + 1) s true P A)) oka ?_
        show am_G _ M_X10_isRound _ 72 [some (.ref 0), some (.int (nI (eM (an p 61 (r + 1) s true P A)))), some (.int (nI (chg p (r + 1) s P A k))), some (.int (nI k))] [.int (nI ((an p 61 (r + 1) s true P A).2.1))] σ'
        refine am_run 1 (pc' := 73) (ls' := [some (.ref 0), some (.int (nI (eM (an p 61 (r + 1) s true P A)))), some (.int (nI (chg p (r + 1) s P A k))), some (.int (nI k))]) (st' := [.int (nI k), .int (nI ((an p 61 (r + 1) s true P A).2.1))]) (σ' := σ') rfl ?_
        refine am_invs (y := 149) (as := [.int (nI ((an p 61 (r + 1) s true P A).2.1)), .int (nI k)]) (rest := []) rfl rfl rfl rfl rfl rfl (Nat.le_of_ble_eq_true rfl) ?_
        refine c_m_has (by omega) (a := (an p 61 (r + 1) s true P A).2.1) (s := k) (by omega) (by omega) (fun hb_11 => ?_) (fun hb_11 => ?_)
        · show am_G _ M_X10_isRound _ 76 [some (.ref 0), some (.int (nI (eM (an p 61 (r + 1) s true P A)))), some (.int (nI (chg p (r + 1) s P A k))), some (.int (nI k))] [.int (nI 1)] σ'
          refine am_if (ty := 79) (tn := 88) rfl (by decide) rfl rfl (fun (h_12 : nI 1 = 0) => ?_) (fun (h_12 : ¬ (nI 1 = 0)) => ?_)
          · exact absurd h_12 (by decide)
          refine am_run 1 (pc' := 91) (ls' := [some (.ref 0), some (.int (nI (eM (an p 61 (r + 1) s true P A)))), some (.int (nI (chg p (r + 1) s P A k))), some (.int (nI k + nI 1))]) (st' := []) (σ' := σ') rfl ?_
          refine am_ls (ls' := [some (.ref 0), some (.int (nI (eM (an p 61 (r + 1) s true P A)))), some (.int (nI (chg p (r + 1) s P A k))), some (.int (nI (k + 1)))]) (by rw [nI_add]) ?_
          refine am_run 1 (pc' := 21) (ls' := [some (.ref 0), some (.int (nI (eM (an p 61 (r + 1) s true P A)))), some (.int (nI (chg p (r + 1) s P A k))), some (.int (nI (k + 1)))]) (st' := []) (σ' := σ') rfl ?_
          have hs2 : sts (rnd p (r + 1) s P A) k = sts (P, A) k := by first | (exfalso; omega) | (rw [hsr]; simp [*]; done)
          refine am_ls (ls' := [some (.ref 0), some (.int (nI (eM (an p 61 (r + 1) s true P A)))), some (.int (nI (chg p (r + 1) s P A (k + 1)))), some (.int (nI (k + 1)))]) ?_ ?_
          · rw [show chg p (r + 1) s P A (k + 1) = chg p (r + 1) s P A k from if_pos hs2]
          refine c_m_isRound_loop hd hW hrn hri hq m (k + 1) _ (by omega) hk h38 h39 (fun g hg => ?_)
          rw [hI g hg]
          by_cases e : g = k
          · subst e; rw [if_neg (Nat.lt_irrefl g), if_pos (by omega), hs2]
          · by_cases y : g < k
            · rw [if_pos y, if_pos (by omega)]
            · rw [if_neg y, if_neg (by omega)]
        · show am_G _ M_X10_isRound _ 76 [some (.ref 0), some (.int (nI (eM (an p 61 (r + 1) s true P A)))), some (.int (nI (chg p (r + 1) s P A k))), some (.int (nI k))] [.int (nI 0)] σ'
          refine am_if (ty := 79) (tn := 88) rfl (by decide) rfl rfl (fun (h_13 : nI 0 = 0) => ?_) (fun (h_13 : ¬ (nI 0 = 0)) => ?_)
          rotate_left
          · exact absurd (by decide) h_13
          refine am_run 4 (pc' := 85) (ls' := [some (.ref 0), some (.int (nI (eM (an p 61 (r + 1) s true P A)))), some (.int (nI (chg p (r + 1) s P A k))), some (.int (nI k))]) (st' := [.int (nI 2), .int (nI k), .ref 29]) (σ' := σ') rfl ?_
          refine am_iastN (n := 8) rfl rfl rfl (by omega) (by decide) ?_
          refine am_run 3 (pc' := 91) (ls' := [some (.ref 0), some (.int (nI (eM (an p 61 (r + 1) s true P A)))), some (.int (nI 1)), some (.int (nI k + nI 1))]) (st' := []) (σ' := (am_wr σ' 29 k (nI 2))) rfl ?_
          refine am_ls (ls' := [some (.ref 0), some (.int (nI (eM (an p 61 (r + 1) s true P A)))), some (.int (nI 1)), some (.int (nI (k + 1)))]) (by rw [nI_add]) ?_
          refine am_run 1 (pc' := 21) (ls' := [some (.ref 0), some (.int (nI (eM (an p 61 (r + 1) s true P A)))), some (.int (nI 1)), some (.int (nI (k + 1)))]) (st' := []) (σ' := (am_wr σ' 29 k (nI 2))) rfl ?_
          have hs2 : sts (rnd p (r + 1) s P A) k = 2 := by first | (exfalso; omega) | (rw [hsr]; simp [*]; done)
          refine am_ls (ls' := [some (.ref 0), some (.int (nI (eM (an p 61 (r + 1) s true P A)))), some (.int (nI (chg p (r + 1) s P A (k + 1)))), some (.int (nI (k + 1)))]) ?_ ?_
          · rw [show chg p (r + 1) s P A (k + 1) = 1 from if_neg (by rw [hs2]; omega)]
          refine c_m_isRound_loop hd hW hrn hri hq m (k + 1) _ (by omega) (hk.wr _ _) (by rw [am_wr_ne _ (by decide)]; exact h38) (by rw [am_wr_ne _ (by decide)]; exact h39) (fun g hg => ?_)
          by_cases e : g = k
          · subst e; rw [am_same, if_pos (by omega), hs2]
          · rw [am_diff _ _ _ _ _ e, hI g hg]
            by_cases y : g < k
            · rw [if_pos y, if_pos (by omega)]
            · rw [if_neg y, if_neg (by omega)]
      · have h_10 : ¬ (sts (P, A) k = 0) := fun z => h_10 ((am_n0 (by omega)).mpr z)
        refine am_run 1 (pc' := 91) (ls' := [some (.ref 0), some (.int (nI (eM (an p 61 (r + 1) s true P A)))), some (.int (nI (chg p (r + 1) s P A k))), some (.int (nI k + nI 1))]) (st' := []) (σ' := σ') rfl ?_
        refine am_ls (ls' := [some (.ref 0), some (.int (nI (eM (an p 61 (r + 1) s true P A)))), some (.int (nI (chg p (r + 1) s P A k))), some (.int (nI (k + 1)))]) (by rw [nI_add]) ?_
        refine am_run 1 (pc' := 21) (ls' := [some (.ref 0), some (.int (nI (eM (an p 61 (r + 1) s true P A)))), some (.int (nI (chg p (r + 1) s P A k))), some (.int (nI (k + 1)))]) (st' := []) (σ' := σ') rfl ?_
        have hs2 : sts (rnd p (r + 1) s P A) k = sts (P, A) k := by first | (exfalso; omega) | (rw [hsr]; simp [*]; done)
        refine am_ls (ls' := [some (.ref 0), some (.int (nI (eM (an p 61 (r + 1) s true P A)))), some (.int (nI (chg p (r + 1) s P A (k + 1)))), some (.int (nI (k + 1)))]) ?_ ?_
        · rw [show chg p (r + 1) s P A (k + 1) = chg p (r + 1) s P A k from if_pos hs2]
        refine c_m_isRound_loop hd hW hrn hri hq m (k + 1) _ (by omega) hk h38 h39 (fun g hg => ?_)
        rw [hI g hg]
        by_cases e : g = k
        · subst e; rw [if_neg (Nat.lt_irrefl g), if_pos (by omega), hs2]
        · by_cases y : g < k
          · rw [if_pos y, if_pos (by omega)]
          · rw [if_neg y, if_neg (by omega)]
set_option maxRecDepth 10000 in
set_option maxHeartbeats 2000000 in
theorem c_m_isRound {d : Nat} (hd : 16 ≤ d) {σ : am_M} {j s P A n r : Nat} {p : Pg} {rk od dp : Nat → Nat} {ow : Nat → Nat → Nat} (hM : MP σ j p n rk od dp ow) (hR : MR σ j n dp r) (hS1 : σ.1 0 38 = nI j) (hS2 : σ.1 0 39 = nI s) (hs : s ≤ 1048576) (hI : ∀ g, g < 8 → σ.1 29 g = nI (sts (P, A) g)) (hri : RI p (r + 1) s P A) (hP : P < 256) (hA : A < 256) (hv : s = ST ∨ lv p (r + 1) s = true) {Q : am_Q} (hq : ∀ σ', KR σ σ' → σ'.1 0 38 = nI j → σ'.1 0 39 = nI s → (∀ g, g < 8 → σ'.1 29 g = nI (sts (rnd p (r + 1) s P A) g)) → σ'.1 28 6480 = nI (eM (r_cd 1)) → (∀ i, i < n → ∀ w', w' < 3 ^ dp i → TB σ' p dp ow s P A i w') → Q (some (.int (nI (chg p (r + 1) s P A 8)))) σ') : am_C d 213 [.ref 0] σ Q := by
  refine am_enter' (M := M_X10_isRound) rfl rfl rfl (by omega) (ls := [some (.ref 0), none, none, none]) rfl (fun d' hd' => ?_)
  refine am_run 3 (pc' := 5) (ls' := [some (.ref 0), none, none, none]) (st' := [.int (σ.1 0 38), .ref 0]) (σ' := σ) rfl ?_
  refine am_top (v' := nI j) hS1 ?_
  refine am_run 2 (pc' := 9) (ls' := [some (.ref 0), none, none, none]) (st' := [.int (σ.1 0 39), .int (nI j), .ref 0]) (σ' := σ) rfl ?_
  refine am_top (v' := nI s) hS2 ?_
  refine am_invv (y := 209) (b := 0) (as := [.int (nI j), .int (nI s)]) (rest := []) rfl rfl rfl rfl rfl rfl rfl (Nat.le_of_ble_eq_true rfl) ?_
  refine c_lays (by omega) hM hs hI hri.1 hP hA (fun σ1 hk1 hB1 hT1 => ?_)
  show am_G _ M_X10_isRound _ 12 [some (.ref 0), none, none, none] [] σ1
  refine am_run 1 (pc' := 13) (ls' := [some (.ref 0), none, none, none]) (st' := [.ref 0]) (σ' := σ1) rfl ?_
  refine am_invv (y := 211) (b := 0) (as := []) (rest := []) rfl rfl rfl rfl rfl rfl rfl (Nat.le_of_ble_eq_true rfl) ?_
  refine c_m_whole (by omega) hB1 (hk1.KR.MR hR).1 hR.2.1 hR.2.2 (hT1 r hR.2.1 0 (Nat.pow_pos (by decide))) hv ?_
  show am_G _ M_X10_isRound _ 16 [some (.ref 0), none, none, none] [.int (nI (eM (an p 61 (r + 1) s true P A)))] σ1
  refine am_run 5 (pc' := 21) (ls' := [some (.ref 0), some (.int (nI (eM (an p 61 (r + 1) s true P A)))), some (.int (nI 0)), some (.int (nI 0))]) (st' := []) (σ' := σ1) rfl ?_
  refine c_m_isRound_loop (by omega) hM.2.1 hR.2.1 hri (fun σ2 a b c e => hq σ2 (hk1.KR.tr a) (by rw [b]; exact hB1.2.1.1) (by rw [b]; exact hB1.2.1.2.1) e (by rw [c]; exact hB1.2.1.2.2.2) (fun i hi w' hw' => (hT1 i hi w' hw').keep c)) 8 0 σ1 rfl (KR.rf _) rfl rfl (fun g hg => by rw [if_neg (Nat.not_lt_zero _)]; exact hB1.2.1.2.2.1 g hg)

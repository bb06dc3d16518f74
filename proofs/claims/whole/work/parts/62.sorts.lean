/-! sorting the states -/
def alc (G tl ld : Nat → Nat) (a b : Nat) : Nat → Bool
  | 0 => true
  | i + 1 => alc G tl ld a b i && (tl (8 * a + i) == tl (8 * b + i) && (tl (8 * a + i) == 0 || G (ld (8 * a + i) - 1) == G (ld (8 * b + i) - 1)))
def alb (G tl ld : Nat → Nat) (wd a b : Nat) : Bool := G a == G b && alc G tl ld a b wd
/-- the first below k, else k -/
def fal (P : Nat → Bool) : Nat → Nat
  | 0 => 0
  | k + 1 => if fal P k < k then fal P k else if P k = true then k else k + 1
theorem fal_le (P : Nat → Bool) : ∀ k, fal P k ≤ k
  | 0 => Nat.le_refl 0
  | k + 1 => by
    have := fal_le P k
    unfold fal
    split
    · omega
    · split <;> omega
theorem fal_no {P : Nat → Bool} : ∀ k, (∀ j, j < k → P j = false) → fal P k = k
  | 0, _ => rfl
  | k + 1, h => by
    have := fal_no k (fun j hj => h j (by omega))
    unfold fal
    rw [this, if_neg (Nat.lt_irrefl k), if_neg (nfl (h k (by omega)))]
theorem fal_yes {P : Nat → Bool} {j : Nat} (h1 : P j = true) (h2 : ∀ i, i < j → P i = false) : ∀ k, j < k → fal P k = j
  | 0, h => absurd h (Nat.not_lt_zero _)
  | k + 1, h => by
    unfold fal
    by_cases e : j = k
    · subst e
      rw [fal_no j h2, if_neg (Nat.lt_irrefl j), if_pos h1]
    · rw [fal_yes h1 h2 k (by omega), if_pos (by omega)]
theorem fal_lt {P : Nat → Bool} : ∀ k, fal P k < k → P (fal P k) = true
  | 0, h => absurd h (Nat.not_lt_zero _)
  | k + 1, h => by
    have hle := fal_le P k
    unfold fal at h ⊢
    by_cases e : fal P k < k
    · rw [if_pos e]; exact fal_lt k e
    · rw [if_neg e] at h ⊢
      by_cases z : P k = true
      · rw [if_pos z]; exact z
      · rw [if_neg z] at h; exact absurd h (Nat.lt_irrefl _)
theorem fal_k {P : Nat → Bool} : ∀ k, ¬ fal P k < k → ∀ j, j < k → P j = false
  | 0, _, j, hj => absurd hj (Nat.not_lt_zero _)
  | k + 1, h, j, hj => by
    have hle := fal_le P k
    unfold fal at h
    by_cases e : fal P k < k
    · rw [if_pos e] at h; omega
    · rw [if_neg e] at h
      by_cases z : P k = true
      · rw [if_pos z] at h; omega
      · by_cases y : j = k
        · rw [y]; rcases bt (P k) with q | q
          · exact absurd q z
          · exact q
        · exact fal_k k e j (by omega)
def rfn (G tl ld : Nat → Nat) (wd : Nat) : Nat → (Nat → Nat) × Nat
  | 0 => (z0, 0)
  | k + 1 => if fal (fun j => alb G tl ld wd j k) k < k then (up1 (rfn G tl ld wd k).1 k ((rfn G tl ld wd k).1 (fal (fun j => alb G tl ld wd j k) k)), (rfn G tl ld wd k).2) else (up1 (rfn G tl ld wd k).1 k (rfn G tl ld wd k).2, (rfn G tl ld wd k).2 + 1)
def cls (tl ld : Nat → Nat) (wd n : Nat) : Nat → (Nat → Nat) → Nat → Nat → Nat
  | 0, _, _, many => many
  | M + 1, G, had, many => if many = had then many else cls tl ld wd n M (rfn G tl ld wd n).1 many (rfn G tl ld wd n).2
theorem rfn_b (G tl ld : Nat → Nat) (wd : Nat) : ∀ k, (rfn G tl ld wd k).2 ≤ k ∧ ∀ x, x < k → (rfn G tl ld wd k).1 x < (rfn G tl ld wd k).2
  | 0 => ⟨Nat.le_refl 0, fun x h => absurd h (Nat.not_lt_zero _)⟩
  | k + 1 => by
    obtain ⟨h1, h2⟩ := rfn_b G tl ld wd k
    unfold rfn
    by_cases e : fal (fun j => alb G tl ld wd j k) k < k
    · rw [if_pos e]
      refine ⟨by show (rfn G tl ld wd k).2 ≤ k + 1; omega, fun x hx => ?_⟩
      show up1 (rfn G tl ld wd k).1 k _ x < (rfn G tl ld wd k).2
      by_cases z : x = k
      · rw [z, up1_s]; exact h2 _ e
      · rw [up1_o _ _ z]; exact h2 x (by omega)
    · rw [if_neg e]
      refine ⟨by show (rfn G tl ld wd k).2 + 1 ≤ k + 1; omega, fun x hx => ?_⟩
      show up1 (rfn G tl ld wd k).1 k _ x < (rfn G tl ld wd k).2 + 1
      by_cases z : x = k
      · rw [z, up1_s]; omega
      · rw [up1_o _ _ z]; have := h2 x (by omega); omega
theorem rfn_st (G tl ld : Nat → Nat) (wd : Nat) {k x : Nat} (h : x < k) : ∀ m, (rfn G tl ld wd (k + m)).1 x = (rfn G tl ld wd k).1 x
  | 0 => rfl
  | m + 1 => by
    rw [← rfn_st G tl ld wd h m]
    show (rfn G tl ld wd ((k + m) + 1)).1 x = _
    rw [show (rfn G tl ld wd ((k + m) + 1)) = if fal (fun j => alb G tl ld wd j (k + m)) (k + m) < k + m then (up1 (rfn G tl ld wd (k + m)).1 (k + m) ((rfn G tl ld wd (k + m)).1 (fal (fun j => alb G tl ld wd j (k + m)) (k + m))), (rfn G tl ld wd (k + m)).2) else (up1 (rfn G tl ld wd (k + m)).1 (k + m) (rfn G tl ld wd (k + m)).2, (rfn G tl ld wd (k + m)).2 + 1) from rfl]
    split
    · exact up1_o _ _ (by omega)
    · exact up1_o _ _ (by omega)
def fstb (G : Nat → Nat) (k : Nat) : Bool := decide (¬ fal (fun j => G j == G k) k < k)
def alo (G tl ld : Nat → Nat) (wd k : Nat) : Bool := decide (¬ fal (fun j => alb G tl ld wd j k) k < k)
theorem cnb_mono {f g : Nat → Bool} (h : ∀ k, f k = true → g k = true) : ∀ k, cnb f k ≤ cnb g k
  | 0 => Nat.le_refl 0
  | k + 1 => by
    have := cnb_mono h k
    unfold cnb
    by_cases e : f k = true
    · rw [if_pos e, if_pos (h k e)]; omega
    · rw [if_neg e]; split <;> omega
theorem rfn_alo (G tl ld : Nat → Nat) (wd : Nat) : ∀ k, (rfn G tl ld wd k).2 = cnb (alo G tl ld wd) k
  | 0 => rfl
  | k + 1 => by
    have ih := rfn_alo G tl ld wd k
    unfold rfn cnb
    by_cases e : fal (fun j => alb G tl ld wd j k) k < k
    · rw [if_pos e, if_neg (show ¬ alo G tl ld wd k = true from fun z => of_decide_eq_true z e)]
      exact ih
    · rw [if_neg e, if_pos (show alo G tl ld wd k = true from decide_eq_true e), ← ih]
theorem rf_mono (G tl ld : Nat → Nat) (wd n : Nat) : cnb (fstb G) n ≤ (rfn G tl ld wd n).2 := by
  rw [rfn_alo]
  refine cnb_mono (fun k h => ?_) n
  have h := of_decide_eq_true h
  refine decide_eq_true (fun z => ?_)
  have h1 : alb G tl ld wd (fal (fun j => alb G tl ld wd j k) k) k = true := fal_lt (P := fun j => alb G tl ld wd j k) k z
  have h2 : (G (fal (fun j => alb G tl ld wd j k) k) == G k) = false := fal_k (P := fun j => G j == G k) k h _ z
  generalize fal (fun j => alb G tl ld wd j k) k = a at h1 h2
  unfold alb at h1
  rw [Bool.and_eq_true] at h1
  rw [h1.1] at h2
  cases h2
theorem rf_cnt (G tl ld : Nat → Nat) (wd n : Nat) : (rfn G tl ld wd n).2 = cnb (fstb (rfn G tl ld wd n).1) n := by
  rw [rfn_alo]
  refine cnb_eq n (fun k hk => ?_)
  have st : ∀ j, j < k → (rfn G tl ld wd n).1 j = (rfn G tl ld wd k).1 j := fun j hj => by
    have := rfn_st G tl ld wd hj (n - k)
    rw [show k + (n - k) = n by omega] at this
    exact this
  have sk : (rfn G tl ld wd n).1 k = (rfn G tl ld wd (k + 1)).1 k := by
    have := rfn_st G tl ld wd (k := k + 1) (x := k) (by omega) (n - (k + 1))
    rw [show k + 1 + (n - (k + 1)) = n by omega] at this
    exact this
  obtain ⟨hb1, hb2⟩ := rfn_b G tl ld wd k
  unfold alo fstb
  by_cases e : fal (fun j => alb G tl ld wd j k) k < k
  · have ek : (rfn G tl ld wd (k + 1)).1 k = (rfn G tl ld wd k).1 (fal (fun j => alb G tl ld wd j k) k) := by
      rw [show rfn G tl ld wd (k + 1) = _ from if_pos e]
      exact up1_s _ _ _
    have e2 : fal (fun j => (rfn G tl ld wd n).1 j == (rfn G tl ld wd n).1 k) k < k := by
      rcases Nat.lt_or_ge (fal (fun j => (rfn G tl ld wd n).1 j == (rfn G tl ld wd n).1 k) k) k with z | z
      · exact z
      · have q : ((rfn G tl ld wd n).1 (fal (fun j => alb G tl ld wd j k) k) == (rfn G tl ld wd n).1 k) = false := fal_k (P := fun j => (rfn G tl ld wd n).1 j == (rfn G tl ld wd n).1 k) k (by omega) _ e
        rw [st _ e, sk, ek, beq_self_eq_true] at q
        cases q
    rw [decide_eq_false (fun z => z e), decide_eq_false (fun z => z e2)]
  · have ek : (rfn G tl ld wd (k + 1)).1 k = (rfn G tl ld wd k).2 := by
      rw [show rfn G tl ld wd (k + 1) = _ from if_neg e]
      exact up1_s _ _ _
    have e2 : ¬ fal (fun j => (rfn G tl ld wd n).1 j == (rfn G tl ld wd n).1 k) k < k := by
      intro z
      have h1 : ((rfn G tl ld wd n).1 (fal (fun j => (rfn G tl ld wd n).1 j == (rfn G tl ld wd n).1 k) k) == (rfn G tl ld wd n).1 k) = true := fal_lt (P := fun j => (rfn G tl ld wd n).1 j == (rfn G tl ld wd n).1 k) k z
      generalize fal (fun j => (rfn G tl ld wd n).1 j == (rfn G tl ld wd n).1 k) k = a at h1 z
      have h2 := hb2 _ z
      rw [beq_iff_eq, st _ z, sk, ek] at h1
      omega
    rw [decide_eq_true e, decide_eq_true e2]
theorem fst_z0 : ∀ k, cnb (fstb z0) (k + 1) = 1
  | 0 => rfl
  | k + 1 => by
    have ih := fst_z0 k
    show cnb (fstb z0) (k + 1) + _ = 1
    rw [ih, if_neg]
    intro h
    have h := of_decide_eq_true h
    have := fal_k (k + 1) h 0 (by omega)
    simp [z0] at this
theorem alc_f {G tl ld : Nat → Nat} {a b i : Nat} (h : alc G tl ld a b i = false) : ∀ m, alc G tl ld a b (i + m) = false
  | 0 => h
  | m + 1 => by
    show (alc G tl ld a b (i + m) && _) = false
    rw [alc_f h m, Bool.false_and]
theorem oI_inj {x y : Nat} (hx : x < 2 ^ 30) (hy : y < 2 ^ 30) (h : oI x = oI y) : x = y := by
  cases x with
  | zero =>
    cases y with
    | zero => rfl
    | succ y => rw [oI_0, oI_s] at h; exact absurd h.symm (am_nm1 (by omega))
  | succ x =>
    cases y with
    | zero => rw [oI_0, oI_s] at h; exact absurd h (am_nm1 (by omega))
    | succ y => rw [oI_s, oI_s] at h; rw [(nI_eq (by omega) (by omega)).mp h]
/-- a chart that is drawn, and its sorts -/
def CE (μ : Nat → Nat → Int32) (n wd : Nat) (tl ld : Nat → Nat) : Prop := n ≤ 100 ∧ wd ≤ 8 ∧ μ 83 4 = nI n ∧ μ 83 5 = nI wd ∧ ∀ a b, a < n → b < wd → μ 84 (8 * a + b) = oI (tl (8 * a + b)) ∧ tl (8 * a + b) ≤ 256 ∧ (¬ tl (8 * a + b) = 0 → μ 85 (8 * a + b) = nI (ld (8 * a + b) - 1)) ∧ ld (8 * a + b) ≤ n ∧ (tl (8 * a + b) = 0 ↔ ld (8 * a + b) = 0)
def GA (τ : Nat → Nat → Nat) : Prop := (τ 83 2 = 86 ∧ τ 83 3 = 87) ∨ (τ 83 2 = 87 ∧ τ 83 3 = 86)
theorem GA.a2 {τ : Nat → Nat → Nat} (h : GA τ) : am_kind (τ 83 2) = 100 ∧ am_len (τ 83 2) = 100 := by
  rcases h with ⟨h, -⟩ | ⟨h, -⟩ <;> rw [h] <;> exact ⟨rfl, rfl⟩
theorem GA.a3 {τ : Nat → Nat → Nat} (h : GA τ) : am_kind (τ 83 3) = 100 ∧ am_len (τ 83 3) = 100 := by
  rcases h with ⟨-, h⟩ | ⟨-, h⟩ <;> rw [h] <;> exact ⟨rfl, rfl⟩
theorem GA.ne {τ : Nat → Nat → Nat} (h : GA τ) : τ 83 2 ≠ τ 83 3 ∧ 86 ≤ τ 83 2 ∧ 86 ≤ τ 83 3 ∧ τ 83 2 ≤ 87 ∧ τ 83 3 ≤ 87 := by
  rcases h with ⟨h1, h2⟩ | ⟨h1, h2⟩ <;> rw [h1, h2] <;> decide
def GG (μ : Nat → Nat → Int32) (τ : Nat → Nat → Nat) (n : Nat) (G : Nat → Nat) : Prop := ∀ x, x < n → μ (τ 83 2) x = nI (G x) ∧ G x ≤ 100
theorem CE.keep {μ μ' : Nat → Nat → Int32} {n wd : Nat} {tl ld : Nat → Nat} (h : CE μ n wd tl ld) (hk : ∀ c, 83 ≤ c ∧ c ≤ 85 → μ' c = μ c) : CE μ' n wd tl ld := by
  unfold CE
  rw [hk 83 (by omega), hk 84 (by omega), hk 85 (by omega)]
  exact h
set_option maxRecDepth 10000 in
set_option maxHeartbeats 2000000 in
theorem c_groupOf {d : Nat} (hd : 1 ≤ d) {μ : Nat → Nat → Int32} {τ : Nat → Nat → Nat} {a v : Nat} (hGA : GA τ) (ha : a < 100) (hv : μ (τ 83 2) a = nI v) {Q : am_Q} (hq : Q (some (.int (nI v))) (μ, τ)) : am_C d 34 [.ref 83, .int (nI a)] (μ, τ) Q := by
  refine am_enter' (M := M_X1_groupOf) rfl rfl rfl (by omega) (ls := [some (.ref 83), some (.int (nI a))]) rfl (fun d' hd' => ?_)
  refine am_run 1 (pc' := 1) (ls' := [some (.ref 83), some (.int (nI a))]) (st' := [.int (nI a)]) (σ' := (μ, τ)) rfl ?_
  refine am_if (ty := 19) (tn := 4) rfl (by decide) rfl rfl (fun (h_1 : nI a < 0) => ?_) (fun (h_1 : ¬ (nI a < 0)) => ?_)
  · have h_1 : a < 0 := (am_nlt0 (by omega)).mp h_1
    exact absurd h_1 (Nat.not_lt_zero _)
  have h_1 : ¬ (a < 0) := fun z => h_1 ((am_nlt0 (by omega)).mpr z)
  refine am_run 2 (pc' := 7) (ls' := [some (.ref 83), some (.int (nI a))]) (st' := [.int (nI 100), .int (nI a)]) (σ' := (μ, τ)) rfl ?_
  refine am_ic (ty := 10) (tn := 19) rfl (by decide) rfl rfl (fun (h_2 : nI a < nI 100) => ?_) (fun (h_2 : ¬ (nI a < nI 100)) => ?_)
  rotate_left
  · have h_2 : ¬ (a < 100) := fun z => h_2 ((nI_ltI (by omega) (by omega)).mpr z)
    omega
  have h_2 : a < 100 := (nI_ltI (by omega) (by omega)).mp h_2
  refine am_run 3 (pc' := 15) (ls' := [some (.ref 83), some (.int (nI a))]) (st' := [.int (nI a), .ref (τ 83 2)]) (σ' := (μ, τ)) rfl ?_
  refine am_ialdN (n := 100) (v := nI v) rfl hGA.a2.1 hGA.a2.2 (by omega) hv (by decide) ?_
  refine am_run 1 (pc' := 20) (ls' := [some (.ref 83), some (.int (nI a))]) (st' := [.int (nI v)]) (σ' := (μ, τ)) rfl ?_
  refine am_reti rfl rfl ?_
  exact hq
set_option maxRecDepth 10000 in
set_option maxHeartbeats 2000000 in
theorem c_shownAt {d : Nat} (hd : 1 ≤ d) {μ : Nat → Nat → Int32} {τ : Nat → Nat → Nat} {a b : Nat} (ha : a < 100) (hb : b < 8) {v : Int32} (hv : μ 84 (8 * a + b) = v) {Q : am_Q} (hq : Q (some (.int v)) (μ, τ)) : am_C d 35 [.ref 83, .int (nI a), .int (nI b)] (μ, τ) Q := by
  refine am_enter' (M := M_X1_shownAt) rfl rfl rfl (by omega) (ls := [some (.ref 83), some (.int (nI a)), some (.int (nI b)), none]) rfl (fun d' hd' => ?_)
  refine am_run 3 (pc' := 4) (ls' := [some (.ref 83), some (.int (nI a)), some (.int (nI b)), none]) (st' := [.int (nI a * nI 8)]) (σ' := (μ, τ)) rfl ?_
  refine am_top (v' := nI (a * 8)) (am_nmul _ _) ?_
  refine am_run 2 (pc' := 6) (ls' := [some (.ref 83), some (.int (nI a)), some (.int (nI b)), none]) (st' := [.int (nI (a * 8) + nI b)]) (σ' := (μ, τ)) rfl ?_
  refine am_top (v' := nI (a * 8 + b)) (nI_add _ _) ?_
  refine am_run 2 (pc' := 8) (ls' := [some (.ref 83), some (.int (nI a)), some (.int (nI b)), some (.int (nI (a * 8 + b)))]) (st' := [.int (nI (a * 8 + b))]) (σ' := (μ, τ)) rfl ?_
  refine am_if (ty := 29) (tn := 11) rfl (by decide) rfl rfl (fun (h_1 : nI (a * 8 + b) < 0) => ?_) (fun (h_1 : ¬ (nI (a * 8 + b) < 0)) => ?_)
  · have h_1 : a * 8 + b < 0 := (am_nlt0 (by omega)).mp h_1
    exact absurd h_1 (Nat.not_lt_zero _)
  have h_1 : ¬ (a * 8 + b < 0) := fun z => h_1 ((am_nlt0 (by omega)).mpr z)
  refine am_run 4 (pc' := 17) (ls' := [some (.ref 83), some (.int (nI a)), some (.int (nI b)), some (.int (nI (a * 8 + b)))]) (st' := [.int (nI 800), .int (nI (a * 8 + b))]) (σ' := (μ, τ)) rfl ?_
  refine am_ic (ty := 20) (tn := 29) rfl (by decide) rfl rfl (fun (h_2 : nI (a * 8 + b) < nI 800) => ?_) (fun (h_2 : ¬ (nI (a * 8 + b) < nI 800)) => ?_)
  rotate_left
  · have h_2 : ¬ (a * 8 + b < 800) := fun z => h_2 ((nI_ltI (by omega) (by omega)).mpr z)
    omega
  have h_2 : a * 8 + b < 800 := (nI_ltI (by omega) (by omega)).mp h_2
  refine am_run 3 (pc' := 25) (ls' := [some (.ref 83), some (.int (nI a)), some (.int (nI b)), some (.int (nI (a * 8 + b)))]) (st' := [.int (nI (a * 8 + b)), .ref 84]) (σ' := (μ, τ)) rfl ?_
  refine am_ialdN (n := 800) (v := v) rfl rfl rfl (by omega) (by rw [Nat.mul_comm]; exact hv) (by decide) ?_
  refine am_run 1 (pc' := 30) (ls' := [some (.ref 83), some (.int (nI a)), some (.int (nI b)), some (.int (nI (a * 8 + b)))]) (st' := [.int v]) (σ' := (μ, τ)) rfl ?_
  refine am_reti rfl rfl ?_
  exact hq
set_option maxRecDepth 10000 in
set_option maxHeartbeats 2000000 in
theorem c_nextAt {d : Nat} (hd : 1 ≤ d) {μ : Nat → Nat → Int32} {τ : Nat → Nat → Nat} {a b : Nat} (ha : a < 100) (hb : b < 8) {v : Int32} (hv : μ 85 (8 * a + b) = v) {Q : am_Q} (hq : Q (some (.int v)) (μ, τ)) : am_C d 36 [.ref 83, .int (nI a), .int (nI b)] (μ, τ) Q := by
  refine am_enter' (M := M_X1_nextAt) rfl rfl rfl (by omega) (ls := [some (.ref 83), some (.int (nI a)), some (.int (nI b)), none]) rfl (fun d' hd' => ?_)
  refine am_run 3 (pc' := 4) (ls' := [some (.ref 83), some (.int (nI a)), some (.int (nI b)), none]) (st' := [.int (nI a * nI 8)]) (σ' := (μ, τ)) rfl ?_
  refine am_top (v' := nI (a * 8)) (am_nmul _ _) ?_
  refine am_run 2 (pc' := 6) (ls' := [some (.ref 83), some (.int (nI a)), some (.int (nI b)), none]) (st' := [.int (nI (a * 8) + nI b)]) (σ' := (μ, τ)) rfl ?_
  refine am_top (v' := nI (a * 8 + b)) (nI_add _ _) ?_
  refine am_run 2 (pc' := 8) (ls' := [some (.ref 83), some (.int (nI a)), some (.int (nI b)), some (.int (nI (a * 8 + b)))]) (st' := [.int (nI (a * 8 + b))]) (σ' := (μ, τ)) rfl ?_
  refine am_if (ty := 29) (tn := 11) rfl (by decide) rfl rfl (fun (h_1 : nI (a * 8 + b) < 0) => ?_) (fun (h_1 : ¬ (nI (a * 8 + b) < 0)) => ?_)
  · have h_1 : a * 8 + b < 0 := (am_nlt0 (by omega)).mp h_1
    exact absurd h_1 (Nat.not_lt_zero _)
  have h_1 : ¬ (a * 8 + b < 0) := fun z => h_1 ((am_nlt0 (by omega)).mpr z)
  refine am_run 4 (pc' := 17) (ls' := [some (.ref 83), some (.int (nI a)), some (.int (nI b)), some (.int (nI (a * 8 + b)))]) (st' := [.int (nI 800), .int (nI (a * 8 + b))]) (σ' := (μ, τ)) rfl ?_
  refine am_ic (ty := 20) (tn := 29) rfl (by decide) rfl rfl (fun (h_2 : nI (a * 8 + b) < nI 800) => ?_) (fun (h_2 : ¬ (nI (a * 8 + b) < nI 800)) => ?_)
  rotate_left
  · have h_2 : ¬ (a * 8 + b < 800) := fun z => h_2 ((nI_ltI (by omega) (by omega)).mpr z)
    omega
  have h_2 : a * 8 + b < 800 := (nI_ltI (by omega) (by omega)).mp h_2
  refine am_run 3 (pc' := 25) (ls' := [some (.ref 83), some (.int (nI a)), some (.int (nI b)), some (.int (nI (a * 8 + b)))]) (st' := [.int (nI (a * 8 + b)), .ref 85]) (σ' := (μ, τ)) rfl ?_
  refine am_ialdN (n := 800) (v := v) rfl rfl rfl (by omega) (by rw [Nat.mul_comm]; exact hv) (by decide) ?_
  refine am_run 1 (pc' := 30) (ls' := [some (.ref 83), some (.int (nI a)), some (.int (nI b)), some (.int (nI (a * 8 + b)))]) (st' := [.int v]) (σ' := (μ, τ)) rfl ?_
  refine am_reti rfl rfl ?_
  exact hq
set_option maxRecDepth 10000 in
set_option maxHeartbeats 2000000 in
theorem c_isAlike_loop {d : Nat} (hd : 1 ≤ d) {μ : Nat → Nat → Int32} {τ : Nat → Nat → Nat} {n wd : Nat} {tl ld G : Nat → Nat} (hGA : GA τ) (hC : CE μ n wd tl ld) (hG : GG μ τ n G) {a b : Nat} (ha : a < n) (hb : b < n) {Q : am_Q} (h1 : alc G tl ld a b wd = true → Q (some (.int (nI 1))) (μ, τ)) (h0 : alc G tl ld a b wd = false → Q (some (.int (nI 0))) (μ, τ)) : ∀ (m i : Nat) (v4 : Option Value), i + m = wd → alc G tl ld a b i = true → am_G d M_X1_isAlike Q 2 [some (.ref 83), some (.int (nI a)), some (.int (nI b)), some (.int (nI i)), v4] [] (μ, τ)
  | 0, i, v4, hm, hi => by
    obtain ⟨c1, c2, c4, c5, c6⟩ := id hC
    have e : i = wd := by omega
    subst e
    refine am_run 2 (pc' := 5) (ls' := [some (.ref 83), some (.int (nI a)), some (.int (nI b)), some (.int (nI i)), v4]) (st' := [.int (nI 8), .int (nI i)]) (σ' := (μ, τ)) rfl ?_
    refine am_ic (ty := 8) (tn := 74) rfl (by decide) rfl rfl (fun (h_1 : nI i < nI 8) => ?_) (fun (h_1 : ¬ (nI i < nI 8)) => ?_)
    · have h_1 : i < 8 := (nI_ltI (by omega) (by omega)).mp h_1
      refine am_run 3 (pc' := 13) (ls' := [some (.ref 83), some (.int (nI a)), some (.int (nI b)), some (.int (nI i)), v4]) (st' := [.int ((μ, τ).1 83 5), .int (nI i)]) (σ' := (μ, τ)) rfl ?_
      refine am_top (v' := nI i) c5 ?_
      refine am_ic (ty := 16) (tn := 74) rfl (by decide) rfl rfl (fun (h_2 : nI i < nI i) => ?_) (fun (h_2 : ¬ (nI i < nI i)) => ?_)
      · have h_2 : i < i := (nI_ltI (by omega) (by omega)).mp h_2
        omega
      have h_2 : ¬ (i < i) := fun z => h_2 ((nI_ltI (by omega) (by omega)).mpr z)
      refine am_run 1 (pc' := 75) (ls' := [some (.ref 83), some (.int (nI a)), some (.int (nI b)), some (.int (nI i)), v4]) (st' := [.int (nI 1)]) (σ' := (μ, τ)) rfl ?_
      refine am_retz rfl rfl (by decide) ?_
      exact h1 hi
    · have h_1 : ¬ (i < 8) := fun z => h_1 ((nI_ltI (by omega) (by omega)).mpr z)
      refine am_run 1 (pc' := 75) (ls' := [some (.ref 83), some (.int (nI a)), some (.int (nI b)), some (.int (nI i)), v4]) (st' := [.int (nI 1)]) (σ' := (μ, τ)) rfl ?_
      refine am_retz rfl rfl (by decide) ?_
      exact h1 hi
  | m + 1, i, v4, hm, hi => by
    obtain ⟨c1, c2, c4, c5, c6⟩ := id hC
    obtain ⟨a1, a2, a3, a4, a5⟩ := c6 a i ha (by omega)
    obtain ⟨e1, e2, e3, e4, e5⟩ := c6 b i hb (by omega)
    have hs : alc G tl ld a b (i + 1) = (tl (8 * a + i) == tl (8 * b + i) && (tl (8 * a + i) == 0 || G (ld (8 * a + i) - 1) == G (ld (8 * b + i) - 1))) := by
      show (alc G tl ld a b i && _) = _
      rw [hi, Bool.true_and]
    by_cases ee : tl (8 * a + i) = tl (8 * b + i)
    · by_cases ez : tl (8 * a + i) = 0
      · skip
        refine am_run 2 (pc' := 5) (ls' := [some (.ref 83), some (.int (nI a)), some (.int (nI b)), some (.int (nI i)), v4]) (st' := [.int (nI 8), .int (nI i)]) (σ' := (μ, τ)) rfl ?_
        refine am_ic (ty := 8) (tn := 74) rfl (by decide) rfl rfl (fun (h_1 : nI i < nI 8) => ?_) (fun (h_1 : ¬ (nI i < nI 8)) => ?_)
        rotate_left
        · have h_1 : ¬ (i < 8) := fun z => h_1 ((nI_ltI (by omega) (by omega)).mpr z)
          omega
        have h_1 : i < 8 := (nI_ltI (by omega) (by omega)).mp h_1
        refine am_run 3 (pc' := 13) (ls' := [some (.ref 83), some (.int (nI a)), some (.int (nI b)), some (.int (nI i)), v4]) (st' := [.int ((μ, τ).1 83 5), .int (nI i)]) (σ' := (μ, τ)) rfl ?_
        refine am_top (v' := nI wd) c5 ?_
        refine am_ic (ty := 16) (tn := 74) rfl (by decide) rfl rfl (fun (h_2 : nI i < nI wd) => ?_) (fun (h_2 : ¬ (nI i < nI wd)) => ?_)
        rotate_left
        · have h_2 : ¬ (i < wd) := fun z => h_2 ((nI_ltI (by omega) (by omega)).mpr z)
          omega
        have h_2 : i < wd := (nI_ltI (by omega) (by omega)).mp h_2
        refine am_run 3 (pc' := 19) (ls' := [some (.ref 83), some (.int (nI a)), some (.int (nI b)), some (.int (nI i)), v4]) (st' := [.int (nI i), .int (nI a), .ref 83]) (σ' := (μ, τ)) rfl ?_
        refine am_invv (y := 35) (b := 83) (as := [.int (nI a), .int (nI i)]) (rest := []) rfl rfl rfl rfl rfl rfl rfl (Nat.le_of_ble_eq_true rfl) ?_
        refine c_shownAt (by omega) (by omega) (by omega) a1 ?_
        show am_G _ M_X1_isAlike _ 22 [some (.ref 83), some (.int (nI a)), some (.int (nI b)), some (.int (nI i)), v4] [.int (oI (tl (8 * a + i)))] (μ, τ)
        refine am_run 5 (pc' := 29) (ls' := [some (.ref 83), some (.int (nI a)), some (.int (nI b)), some (.int (nI i)), some (.int (oI (tl (8 * a + i))))]) (st' := [.int (nI i), .int (nI b), .ref 83, .int (oI (tl (8 * a + i)))]) (σ' := (μ, τ)) rfl ?_
        refine am_invv (y := 35) (b := 83) (as := [.int (nI b), .int (nI i)]) (rest := [.int (oI (tl (8 * a + i)))]) rfl rfl rfl rfl rfl rfl rfl (Nat.le_of_ble_eq_true rfl) ?_
        refine c_shownAt (by omega) (by omega) (by omega) e1 ?_
        show am_G _ M_X1_isAlike _ 32 [some (.ref 83), some (.int (nI a)), some (.int (nI b)), some (.int (nI i)), some (.int (oI (tl (8 * a + i))))] [.int (oI (tl (8 * b + i))), .int (oI (tl (8 * a + i)))] (μ, τ)
        refine am_ic (ty := 37) (tn := 35) rfl (by decide) rfl rfl (fun (h_3 : oI (tl (8 * a + i)) = oI (tl (8 * b + i))) => ?_) (fun (h_3 : ¬ (oI (tl (8 * a + i)) = oI (tl (8 * b + i)))) => ?_)
        rotate_left
        · exact absurd (by rw [ee]) h_3
        refine am_run 2 (pc' := 40) (ls' := [some (.ref 83), some (.int (nI a)), some (.int (nI b)), some (.int (nI i)), some (.int (oI (tl (8 * a + i))))]) (st' := [.int (-1), .int (oI (tl (8 * a + i)))]) (σ' := (μ, τ)) rfl ?_
        refine am_ic (ty := 68) (tn := 43) rfl (by decide) rfl rfl (fun (h_4 : oI (tl (8 * a + i)) = -1) => ?_) (fun (h_4 : ¬ (oI (tl (8 * a + i)) = -1)) => ?_)
        rotate_left
        · exact absurd (by rw [ez]; exact oI_0) h_4
        refine am_run 1 (pc' := 71) (ls' := [some (.ref 83), some (.int (nI a)), some (.int (nI b)), some (.int (nI i + nI 1)), some (.int (oI (tl (8 * a + i))))]) (st' := []) (σ' := (μ, τ)) rfl ?_
        refine am_ls (ls' := [some (.ref 83), some (.int (nI a)), some (.int (nI b)), some (.int (nI (i + 1))), some (.int (oI (tl (8 * a + i))))]) (by rw [nI_add]) ?_
        refine am_run 1 (pc' := 2) (ls' := [some (.ref 83), some (.int (nI a)), some (.int (nI b)), some (.int (nI (i + 1))), some (.int (oI (tl (8 * a + i))))]) (st' := []) (σ' := (μ, τ)) rfl ?_
        exact c_isAlike_loop hd hGA hC hG ha hb h1 h0 m (i + 1) _ (by omega) (by rw [hs]; simp [← ee, ez])
      · have g1 := (hG (ld (8 * a + i) - 1) (by omega)).2
        have g2 := (hG (ld (8 * b + i) - 1) (by omega)).2
        by_cases eg : G (ld (8 * a + i) - 1) = G (ld (8 * b + i) - 1)
        · skip
          refine am_run 2 (pc' := 5) (ls' := [some (.ref 83), some (.int (nI a)), some (.int (nI b)), some (.int (nI i)), v4]) (st' := [.int (nI 8), .int (nI i)]) (σ' := (μ, τ)) rfl ?_
          refine am_ic (ty := 8) (tn := 74) rfl (by decide) rfl rfl (fun (h_1 : nI i < nI 8) => ?_) (fun (h_1 : ¬ (nI i < nI 8)) => ?_)
          rotate_left
          · have h_1 : ¬ (i < 8) := fun z => h_1 ((nI_ltI (by omega) (by omega)).mpr z)
            omega
          have h_1 : i < 8 := (nI_ltI (by omega) (by omega)).mp h_1
          refine am_run 3 (pc' := 13) (ls' := [some (.ref 83), some (.int (nI a)), some (.int (nI b)), some (.int (nI i)), v4]) (st' := [.int ((μ, τ).1 83 5), .int (nI i)]) (σ' := (μ, τ)) rfl ?_
          refine am_top (v' := nI wd) c5 ?_
          refine am_ic (ty := 16) (tn := 74) rfl (by decide) rfl rfl (fun (h_2 : nI i < nI wd) => ?_) (fun (h_2 : ¬ (nI i < nI wd)) => ?_)
          rotate_left
          · have h_2 : ¬ (i < wd) := fun z => h_2 ((nI_ltI (by omega) (by omega)).mpr z)
            omega
          have h_2 : i < wd := (nI_ltI (by omega) (by omega)).mp h_2
          refine am_run 3 (pc' := 19) (ls' := [some (.ref 83), some (.int (nI a)), some (.int (nI b)), some (.int (nI i)), v4]) (st' := [.int (nI i), .int (nI a), .ref 83]) (σ' := (μ, τ)) rfl ?_
          refine am_invv (y := 35) (b := 83) (as := [.int (nI a), .int (nI i)]) (rest := []) rfl rfl rfl rfl rfl rfl rfl (Nat.le_of_ble_eq_true rfl) ?_
          refine c_shownAt (by omega) (by omega) (by omega) a1 ?_
          show am_G _ M_X1_isAlike _ 22 [some (.ref 83), some (.int (nI a)), some (.int (nI b)), some (.int (nI i)), v4] [.int (oI (tl (8 * a + i)))] (μ, τ)
          refine am_run 5 (pc' := 29) (ls' := [some (.ref 83), some (.int (nI a)), some (.int (nI b)), some (.int (nI i)), some (.int (oI (tl (8 * a + i))))]) (st' := [.int (nI i), .int (nI b), .ref 83, .int (oI (tl (8 * a + i)))]) (σ' := (μ, τ)) rfl ?_
          refine am_invv (y := 35) (b := 83) (as := [.int (nI b), .int (nI i)]) (rest := [.int (oI (tl (8 * a + i)))]) rfl rfl rfl rfl rfl rfl rfl (Nat.le_of_ble_eq_true rfl) ?_
          refine c_shownAt (by omega) (by omega) (by omega) e1 ?_
          show am_G _ M_X1_isAlike _ 32 [some (.ref 83), some (.int (nI a)), some (.int (nI b)), some (.int (nI i)), some (.int (oI (tl (8 * a + i))))] [.int (oI (tl (8 * b + i))), .int (oI (tl (8 * a + i)))] (μ, τ)
          refine am_ic (ty := 37) (tn := 35) rfl (by decide) rfl rfl (fun (h_3 : oI (tl (8 * a + i)) = oI (tl (8 * b + i))) => ?_) (fun (h_3 : ¬ (oI (tl (8 * a + i)) = oI (tl (8 * b + i)))) => ?_)
          rotate_left
          · exact absurd (by rw [ee]) h_3
          refine am_run 2 (pc' := 40) (ls' := [some (.ref 83), some (.int (nI a)), some (.int (nI b)), some (.int (nI i)), some (.int (oI (tl (8 * a + i))))]) (st' := [.int (-1), .int (oI (tl (8 * a + i)))]) (σ' := (μ, τ)) rfl ?_
          refine am_ic (ty := 68) (tn := 43) rfl (by decide) rfl rfl (fun (h_4 : oI (tl (8 * a + i)) = -1) => ?_) (fun (h_4 : ¬ (oI (tl (8 * a + i)) = -1)) => ?_)
          · exact absurd (oI_inj (y := 0) (by omega) (by omega) (by rw [h_4]; rfl)) ez
          refine am_run 4 (pc' := 47) (ls' := [some (.ref 83), some (.int (nI a)), some (.int (nI b)), some (.int (nI i)), some (.int (oI (tl (8 * a + i))))]) (st' := [.int (nI i), .int (nI a), .ref 83, .ref 83]) (σ' := (μ, τ)) rfl ?_
          refine am_invv (y := 36) (b := 83) (as := [.int (nI a), .int (nI i)]) (rest := [.ref 83]) rfl rfl rfl rfl rfl rfl rfl (Nat.le_of_ble_eq_true rfl) ?_
          refine c_nextAt (by omega) (by omega) (by omega) (a3 ez) ?_
          show am_G _ M_X1_isAlike _ 50 [some (.ref 83), some (.int (nI a)), some (.int (nI b)), some (.int (nI i)), some (.int (oI (tl (8 * a + i))))] [.int (nI (ld (8 * a + i) - 1)), .ref 83] (μ, τ)
          refine am_invv (y := 34) (b := 83) (as := [.int (nI (ld (8 * a + i) - 1))]) (rest := []) rfl rfl rfl rfl rfl rfl rfl (Nat.le_of_ble_eq_true rfl) ?_
          refine c_groupOf (by omega) hGA (by omega) (hG (ld (8 * a + i) - 1) (by omega)).1 ?_
          show am_G _ M_X1_isAlike _ 53 [some (.ref 83), some (.int (nI a)), some (.int (nI b)), some (.int (nI i)), some (.int (oI (tl (8 * a + i))))] [.int (nI (G (ld (8 * a + i) - 1)))] (μ, τ)
          refine am_run 4 (pc' := 57) (ls' := [some (.ref 83), some (.int (nI a)), some (.int (nI b)), some (.int (nI i)), some (.int (oI (tl (8 * a + i))))]) (st' := [.int (nI i), .int (nI b), .ref 83, .ref 83, .int (nI (G (ld (8 * a + i) - 1)))]) (σ' := (μ, τ)) rfl ?_
          refine am_invv (y := 36) (b := 83) (as := [.int (nI b), .int (nI i)]) (rest := [.ref 83, .int (nI (G (ld (8 * a + i) - 1)))]) rfl rfl rfl rfl rfl rfl rfl (Nat.le_of_ble_eq_true rfl) ?_
          refine c_nextAt (by omega) (by omega) (by omega) (e3 (by omega)) ?_
          show am_G _ M_X1_isAlike _ 60 [some (.ref 83), some (.int (nI a)), some (.int (nI b)), some (.int (nI i)), some (.int (oI (tl (8 * a + i))))] [.int (nI (ld (8 * b + i) - 1)), .ref 83, .int (nI (G (ld (8 * a + i) - 1)))] (μ, τ)
          refine am_invv (y := 34) (b := 83) (as := [.int (nI (ld (8 * b + i) - 1))]) (rest := [.int (nI (G (ld (8 * a + i) - 1)))]) rfl rfl rfl rfl rfl rfl rfl (Nat.le_of_ble_eq_true rfl) ?_
          refine c_groupOf (by omega) hGA (by omega) (hG (ld (8 * b + i) - 1) (by omega)).1 ?_
          show am_G _ M_X1_isAlike _ 63 [some (.ref 83), some (.int (nI a)), some (.int (nI b)), some (.int (nI i)), some (.int (oI (tl (8 * a + i))))] [.int (nI (G (ld (8 * b + i) - 1))), .int (nI (G (ld (8 * a + i) - 1)))] (μ, τ)
          refine am_ic (ty := 68) (tn := 66) rfl (by decide) rfl rfl (fun (h_5 : nI (G (ld (8 * a + i) - 1)) = nI (G (ld (8 * b + i) - 1))) => ?_) (fun (h_5 : ¬ (nI (G (ld (8 * a + i) - 1)) = nI (G (ld (8 * b + i) - 1)))) => ?_)
          rotate_left
          · have h_5 : ¬ (G (ld (8 * a + i) - 1) = G (ld (8 * b + i) - 1)) := fun z => h_5 ((nI_eq (by omega) (by omega)).mpr z)
            omega
          have h_5 : G (ld (8 * a + i) - 1) = G (ld (8 * b + i) - 1) := (nI_eq (by omega) (by omega)).mp h_5
          refine am_run 1 (pc' := 71) (ls' := [some (.ref 83), some (.int (nI a)), some (.int (nI b)), some (.int (nI i + nI 1)), some (.int (oI (tl (8 * a + i))))]) (st' := []) (σ' := (μ, τ)) rfl ?_
          refine am_ls (ls' := [some (.ref 83), some (.int (nI a)), some (.int (nI b)), some (.int (nI (i + 1))), some (.int (oI (tl (8 * a + i))))]) (by rw [nI_add]) ?_
          refine am_run 1 (pc' := 2) (ls' := [some (.ref 83), some (.int (nI a)), some (.int (nI b)), some (.int (nI (i + 1))), some (.int (oI (tl (8 * a + i))))]) (st' := []) (σ' := (μ, τ)) rfl ?_
          exact c_isAlike_loop hd hGA hC hG ha hb h1 h0 m (i + 1) _ (by omega) (by rw [hs]; simp [ee, eg])
        · skip
          refine am_run 2 (pc' := 5) (ls' := [some (.ref 83), some (.int (nI a)), some (.int (nI b)), some (.int (nI i)), v4]) (st' := [.int (nI 8), .int (nI i)]) (σ' := (μ, τ)) rfl ?_
          refine am_ic (ty := 8) (tn := 74) rfl (by decide) rfl rfl (fun (h_1 : nI i < nI 8) => ?_) (fun (h_1 : ¬ (nI i < nI 8)) => ?_)
          rotate_left
          · have h_1 : ¬ (i < 8) := fun z => h_1 ((nI_ltI (by omega) (by omega)).mpr z)
            omega
          have h_1 : i < 8 := (nI_ltI (by omega) (by omega)).mp h_1
          refine am_run 3 (pc' := 13) (ls' := [some (.ref 83), some (.int (nI a)), some (.int (nI b)), some (.int (nI i)), v4]) (st' := [.int ((μ, τ).1 83 5), .int (nI i)]) (σ' := (μ, τ)) rfl ?_
          refine am_top (v' := nI wd) c5 ?_
          refine am_ic (ty := 16) (tn := 74) rfl (by decide) rfl rfl (fun (h_2 : nI i < nI wd) => ?_) (fun (h_2 : ¬ (nI i < nI wd)) => ?_)
          rotate_left
          · have h_2 : ¬ (i < wd) := fun z => h_2 ((nI_ltI (by omega) (by omega)).mpr z)
            omega
          have h_2 : i < wd := (nI_ltI (by omega) (by omega)).mp h_2
          refine am_run 3 (pc' := 19) (ls' := [some (.ref 83), some (.int (nI a)), some (.int (nI b)), some (.int (nI i)), v4]) (st' := [.int (nI i), .int (nI a), .ref 83]) (σ' := (μ, τ)) rfl ?_
          refine am_invv (y := 35) (b := 83) (as := [.int (nI a), .int (nI i)]) (rest := []) rfl rfl rfl rfl rfl rfl rfl (Nat.le_of_ble_eq_true rfl) ?_
          refine c_shownAt (by omega) (by omega) (by omega) a1 ?_
          show am_G _ M_X1_isAlike _ 22 [some (.ref 83), some (.int (nI a)), some (.int (nI b)), some (.int (nI i)), v4] [.int (oI (tl (8 * a + i)))] (μ, τ)
          refine am_run 5 (pc' := 29) (ls' := [some (.ref 83), some (.int (nI a)), some (.int (nI b)), some (.int (nI i)), some (.int (oI (tl (8 * a + i))))]) (st' := [.int (nI i), .int (nI b), .ref 83, .int (oI (tl (8 * a + i)))]) (σ' := (μ, τ)) rfl ?_
          refine am_invv (y := 35) (b := 83) (as := [.int (nI b), .int (nI i)]) (rest := [.int (oI (tl (8 * a + i)))]) rfl rfl rfl rfl rfl rfl rfl (Nat.le_of_ble_eq_true rfl) ?_
          refine c_shownAt (by omega) (by omega) (by omega) e1 ?_
          show am_G _ M_X1_isAlike _ 32 [some (.ref 83), some (.int (nI a)), some (.int (nI b)), some (.int (nI i)), some (.int (oI (tl (8 * a + i))))] [.int (oI (tl (8 * b + i))), .int (oI (tl (8 * a + i)))] (μ, τ)
          refine am_ic (ty := 37) (tn := 35) rfl (by decide) rfl rfl (fun (h_3 : oI (tl (8 * a + i)) = oI (tl (8 * b + i))) => ?_) (fun (h_3 : ¬ (oI (tl (8 * a + i)) = oI (tl (8 * b + i)))) => ?_)
          rotate_left
          · exact absurd (by rw [ee]) h_3
          refine am_run 2 (pc' := 40) (ls' := [some (.ref 83), some (.int (nI a)), some (.int (nI b)), some (.int (nI i)), some (.int (oI (tl (8 * a + i))))]) (st' := [.int (-1), .int (oI (tl (8 * a + i)))]) (σ' := (μ, τ)) rfl ?_
          refine am_ic (ty := 68) (tn := 43) rfl (by decide) rfl rfl (fun (h_4 : oI (tl (8 * a + i)) = -1) => ?_) (fun (h_4 : ¬ (oI (tl (8 * a + i)) = -1)) => ?_)
          · exact absurd (oI_inj (y := 0) (by omega) (by omega) (by rw [h_4]; rfl)) ez
          refine am_run 4 (pc' := 47) (ls' := [some (.ref 83), some (.int (nI a)), some (.int (nI b)), some (.int (nI i)), some (.int (oI (tl (8 * a + i))))]) (st' := [.int (nI i), .int (nI a), .ref 83, .ref 83]) (σ' := (μ, τ)) rfl ?_
          refine am_invv (y := 36) (b := 83) (as := [.int (nI a), .int (nI i)]) (rest := [.ref 83]) rfl rfl rfl rfl rfl rfl rfl (Nat.le_of_ble_eq_true rfl) ?_
          refine c_nextAt (by omega) (by omega) (by omega) (a3 ez) ?_
          show am_G _ M_X1_isAlike _ 50 [some (.ref 83), some (.int (nI a)), some (.int (nI b)), some (.int (nI i)), some (.int (oI (tl (8 * a + i))))] [.int (nI (ld (8 * a + i) - 1)), .ref 83] (μ, τ)
          refine am_invv (y := 34) (b := 83) (as := [.int (nI (ld (8 * a + i) - 1))]) (rest := []) rfl rfl rfl rfl rfl rfl rfl (Nat.le_of_ble_eq_true rfl) ?_
          refine c_groupOf (by omega) hGA (by omega) (hG (ld (8 * a + i) - 1) (by omega)).1 ?_
          show am_G _ M_X1_isAlike _ 53 [some (.ref 83), some (.int (nI a)), some (.int (nI b)), some (.int (nI i)), some (.int (oI (tl (8 * a + i))))] [.int (nI (G (ld (8 * a + i) - 1)))] (μ, τ)
          refine am_run 4 (pc' := 57) (ls' := [some (.ref 83), some (.int (nI a)), some (.int (nI b)), some (.int (nI i)), some (.int (oI (tl (8 * a + i))))]) (st' := [.int (nI i), .int (nI b), .ref 83, .ref 83, .int (nI (G (ld (8 * a + i) - 1)))]) (σ' := (μ, τ)) rfl ?_
          refine am_invv (y := 36) (b := 83) (as := [.int (nI b), .int (nI i)]) (rest := [.ref 83, .int (nI (G (ld (8 * a + i) - 1)))]) rfl rfl rfl rfl rfl rfl rfl (Nat.le_of_ble_eq_true rfl) ?_
          refine c_nextAt (by omega) (by omega) (by omega) (e3 (by omega)) ?_
          show am_G _ M_X1_isAlike _ 60 [some (.ref 83), some (.int (nI a)), some (.int (nI b)), some (.int (nI i)), some (.int (oI (tl (8 * a + i))))] [.int (nI (ld (8 * b + i) - 1)), .ref 83, .int (nI (G (ld (8 * a + i) - 1)))] (μ, τ)
          refine am_invv (y := 34) (b := 83) (as := [.int (nI (ld (8 * b + i) - 1))]) (rest := [.int (nI (G (ld (8 * a + i) - 1)))]) rfl rfl rfl rfl rfl rfl rfl (Nat.le_of_ble_eq_true rfl) ?_
          refine c_groupOf (by omega) hGA (by omega) (hG (ld (8 * b + i) - 1) (by omega)).1 ?_
          show am_G _ M_X1_isAlike _ 63 [some (.ref 83), some (.int (nI a)), some (.int (nI b)), some (.int (nI i)), some (.int (oI (tl (8 * a + i))))] [.int (nI (G (ld (8 * b + i) - 1))), .int (nI (G (ld (8 * a + i) - 1)))] (μ, τ)
          refine am_ic (ty := 68) (tn := 66) rfl (by decide) rfl rfl (fun (h_5 : nI (G (ld (8 * a + i) - 1)) = nI (G (ld (8 * b + i) - 1))) => ?_) (fun (h_5 : ¬ (nI (G (ld (8 * a + i) - 1)) = nI (G (ld (8 * b + i) - 1)))) => ?_)
          · have h_5 : G (ld (8 * a + i) - 1) = G (ld (8 * b + i) - 1) := (nI_eq (by omega) (by omega)).mp h_5
            omega
          have h_5 : ¬ (G (ld (8 * a + i) - 1) = G (ld (8 * b + i) - 1)) := fun z => h_5 ((nI_eq (by omega) (by omega)).mpr z)
          refine am_run 1 (pc' := 67) (ls' := [some (.ref 83), some (.int (nI a)), some (.int (nI b)), some (.int (nI i)), some (.int (oI (tl (8 * a + i))))]) (st' := [.int (nI 0)]) (σ' := (μ, τ)) rfl ?_
          refine am_retz rfl rfl (by decide) ?_
          have hf : alc G tl ld a b (i + 1) = false := by rw [hs]; simp [ee, eg, show ¬ tl (8 * b + i) = 0 by omega]
          have hf2 := alc_f hf m
          rw [show i + 1 + m = wd by omega] at hf2
          exact h0 hf2
    · skip
      refine am_run 2 (pc' := 5) (ls' := [some (.ref 83), some (.int (nI a)), some (.int (nI b)), some (.int (nI i)), v4]) (st' := [.int (nI 8), .int (nI i)]) (σ' := (μ, τ)) rfl ?_
      refine am_ic (ty := 8) (tn := 74) rfl (by decide) rfl rfl (fun (h_1 : nI i < nI 8) => ?_) (fun (h_1 : ¬ (nI i < nI 8)) => ?_)
      rotate_left
      · have h_1 : ¬ (i < 8) := fun z => h_1 ((nI_ltI (by omega) (by omega)).mpr z)
        omega
      have h_1 : i < 8 := (nI_ltI (by omega) (by omega)).mp h_1
      refine am_run 3 (pc' := 13) (ls' := [some (.ref 83), some (.int (nI a)), some (.int (nI b)), some (.int (nI i)), v4]) (st' := [.int ((μ, τ).1 83 5), .int (nI i)]) (σ' := (μ, τ)) rfl ?_
      refine am_top (v' := nI wd) c5 ?_
      refine am_ic (ty := 16) (tn := 74) rfl (by decide) rfl rfl (fun (h_2 : nI i < nI wd) => ?_) (fun (h_2 : ¬ (nI i < nI wd)) => ?_)
      rotate_left
      · have h_2 : ¬ (i < wd) := fun z => h_2 ((nI_ltI (by omega) (by omega)).mpr z)
        omega
      have h_2 : i < wd := (nI_ltI (by omega) (by omega)).mp h_2
      refine am_run 3 (pc' := 19) (ls' := [some (.ref 83), some (.int (nI a)), some (.int (nI b)), some (.int (nI i)), v4]) (st' := [.int (nI i), .int (nI a), .ref 83]) (σ' := (μ, τ)) rfl ?_
      refine am_invv (y := 35) (b := 83) (as := [.int (nI a), .int (nI i)]) (rest := []) rfl rfl rfl rfl rfl rfl rfl (Nat.le_of_ble_eq_true rfl) ?_
      refine c_shownAt (by omega) (by omega) (by omega) a1 ?_
      show am_G _ M_X1_isAlike _ 22 [some (.ref 83), some (.int (nI a)), some (.int (nI b)), some (.int (nI i)), v4] [.int (oI (tl (8 * a + i)))] (μ, τ)
      refine am_run 5 (pc' := 29) (ls' := [some (.ref 83), some (.int (nI a)), some (.int (nI b)), some (.int (nI i)), some (.int (oI (tl (8 * a + i))))]) (st' := [.int (nI i), .int (nI b), .ref 83, .int (oI (tl (8 * a + i)))]) (σ' := (μ, τ)) rfl ?_
      refine am_invv (y := 35) (b := 83) (as := [.int (nI b), .int (nI i)]) (rest := [.int (oI (tl (8 * a + i)))]) rfl rfl rfl rfl rfl rfl rfl (Nat.le_of_ble_eq_true rfl) ?_
      refine c_shownAt (by omega) (by omega) (by omega) e1 ?_
      show am_G _ M_X1_isAlike _ 32 [some (.ref 83), some (.int (nI a)), some (.int (nI b)), some (.int (nI i)), some (.int (oI (tl (8 * a + i))))] [.int (oI (tl (8 * b + i))), .int (oI (tl (8 * a + i)))] (μ, τ)
      refine am_ic (ty := 37) (tn := 35) rfl (by decide) rfl rfl (fun (h_3 : oI (tl (8 * a + i)) = oI (tl (8 * b + i))) => ?_) (fun (h_3 : ¬ (oI (tl (8 * a + i)) = oI (tl (8 * b + i)))) => ?_)
      · exact absurd (oI_inj (by omega) (by omega) h_3) ee
      refine am_run 1 (pc' := 36) (ls' := [some (.ref 83), some (.int (nI a)), some (.int (nI b)), some (.int (nI i)), some (.int (oI (tl (8 * a + i))))]) (st' := [.int (nI 0)]) (σ' := (μ, τ)) rfl ?_
      refine am_retz rfl rfl (by decide) ?_
      have hf : alc G tl ld a b (i + 1) = false := by rw [hs]; simp [ee]
      have hf2 := alc_f hf m
      rw [show i + 1 + m = wd by omega] at hf2
      exact h0 hf2
set_option maxRecDepth 10000 in
set_option maxHeartbeats 2000000 in
theorem c_isAlike {d : Nat} (hd : 2 ≤ d) {μ : Nat → Nat → Int32} {τ : Nat → Nat → Nat} {n wd : Nat} {tl ld G : Nat → Nat} (hGA : GA τ) (hC : CE μ n wd tl ld) (hG : GG μ τ n G) {a b : Nat} (ha : a < n) (hb : b < n) {Q : am_Q} (h1 : alc G tl ld a b wd = true → Q (some (.int (nI 1))) (μ, τ)) (h0 : alc G tl ld a b wd = false → Q (some (.int (nI 0))) (μ, τ)) : am_C d 33 [.ref 83, .int (nI a), .int (nI b)] (μ, τ) Q := by
  refine am_enter' (M := M_X1_isAlike) rfl rfl rfl (by omega) (ls := [some (.ref 83), some (.int (nI a)), some (.int (nI b)), none, none]) rfl (fun d' hd' => ?_)
  refine am_run 2 (pc' := 2) (ls' := [some (.ref 83), some (.int (nI a)), some (.int (nI b)), some (.int (nI 0)), none]) (st' := []) (σ' := (μ, τ)) rfl ?_
  exact c_isAlike_loop (by omega) hGA hC hG ha hb h1 h0 wd 0 _ (by omega) rfl
set_option maxRecDepth 10000 in
set_option maxHeartbeats 2000000 in
theorem c_firstAlike_loop {d : Nat} (hd : 3 ≤ d) {μ : Nat → Nat → Int32} {τ : Nat → Nat → Nat} {n wd : Nat} {tl ld G : Nat → Nat} (hGA : GA τ) (hC : CE μ n wd tl ld) (hG : GG μ τ n G) {k : Nat} (hk : k < n) {Q : am_Q} (hq : Q (some (.int (nI (fal (fun j => alb G tl ld wd j k) k)))) (μ, τ)) : ∀ (m i : Nat), i + m = k → (∀ j, j < i → alb G tl ld wd j k = false) → am_G d M_X1_firstAlike Q 2 [some (.ref 83), some (.int (nI k)), some (.int (nI i))] [] (μ, τ)
  | 0, i, hm, hi => by
    have hn := hC.1
    have e : i = k := by omega
    subst e
    rw [fal_no i hi] at hq
    refine am_run 2 (pc' := 5) (ls' := [some (.ref 83), some (.int (nI i)), some (.int (nI i))]) (st' := [.int (nI 100), .int (nI i)]) (σ' := (μ, τ)) rfl ?_
    refine am_ic (ty := 8) (tn := 43) rfl (by decide) rfl rfl (fun (h_1 : nI i < nI 100) => ?_) (fun (h_1 : ¬ (nI i < nI 100)) => ?_)
    rotate_left
    · have h_1 : ¬ (i < 100) := fun z => h_1 ((nI_ltI (by omega) (by omega)).mpr z)
      omega
    have h_1 : i < 100 := (nI_ltI (by omega) (by omega)).mp h_1
    refine am_run 2 (pc' := 10) (ls' := [some (.ref 83), some (.int (nI i)), some (.int (nI i))]) (st' := [.int (nI i), .int (nI i)]) (σ' := (μ, τ)) rfl ?_
    refine am_ic (ty := 13) (tn := 43) rfl (by decide) rfl rfl (fun (h_2 : nI i < nI i) => ?_) (fun (h_2 : ¬ (nI i < nI i)) => ?_)
    · have h_2 : i < i := (nI_ltI (by omega) (by omega)).mp h_2
      omega
    have h_2 : ¬ (i < i) := fun z => h_2 ((nI_ltI (by omega) (by omega)).mpr z)
    refine am_run 1 (pc' := 44) (ls' := [some (.ref 83), some (.int (nI i)), some (.int (nI i))]) (st' := [.int (nI i)]) (σ' := (μ, τ)) rfl ?_
    refine am_reti rfl rfl ?_
    exact hq
  | m + 1, i, hm, hi => by
    have hn := hC.1
    have g1 := hG i (by omega)
    have g2 := hG k hk
    have hal : alb G tl ld wd i k = (G i == G k && alc G tl ld i k wd) := rfl
    refine am_run 2 (pc' := 5) (ls' := [some (.ref 83), some (.int (nI k)), some (.int (nI i))]) (st' := [.int (nI 100), .int (nI i)]) (σ' := (μ, τ)) rfl ?_
    refine am_ic (ty := 8) (tn := 43) rfl (by decide) rfl rfl (fun (h_1 : nI i < nI 100) => ?_) (fun (h_1 : ¬ (nI i < nI 100)) => ?_)
    rotate_left
    · have h_1 : ¬ (i < 100) := fun z => h_1 ((nI_ltI (by omega) (by omega)).mpr z)
      omega
    have h_1 : i < 100 := (nI_ltI (by omega) (by omega)).mp h_1
    refine am_run 2 (pc' := 10) (ls' := [some (.ref 83), some (.int (nI k)), some (.int (nI i))]) (st' := [.int (nI k), .int (nI i)]) (σ' := (μ, τ)) rfl ?_
    refine am_ic (ty := 13) (tn := 43) rfl (by decide) rfl rfl (fun (h_2 : nI i < nI k) => ?_) (fun (h_2 : ¬ (nI i < nI k)) => ?_)
    rotate_left
    · have h_2 : ¬ (i < k) := fun z => h_2 ((nI_ltI (by omega) (by omega)).mpr z)
      omega
    have h_2 : i < k := (nI_ltI (by omega) (by omega)).mp h_2
    refine am_run 2 (pc' := 15) (ls' := [some (.ref 83), some (.int (nI k)), some (.int (nI i))]) (st' := [.int (nI i), .ref 83]) (σ' := (μ, τ)) rfl ?_
    refine am_invv (y := 34) (b := 83) (as := [.int (nI i)]) (rest := []) rfl rfl rfl rfl rfl rfl rfl (Nat.le_of_ble_eq_true rfl) ?_
    refine c_groupOf (by omega) hGA (by omega) g1.1 ?_
    show am_G _ M_X1_firstAlike _ 18 [some (.ref 83), some (.int (nI k)), some (.int (nI i))] [.int (nI (G i))] (μ, τ)
    refine am_run 2 (pc' := 20) (ls' := [some (.ref 83), some (.int (nI k)), some (.int (nI i))]) (st' := [.int (nI k), .ref 83, .int (nI (G i))]) (σ' := (μ, τ)) rfl ?_
    refine am_invv (y := 34) (b := 83) (as := [.int (nI k)]) (rest := [.int (nI (G i))]) rfl rfl rfl rfl rfl rfl rfl (Nat.le_of_ble_eq_true rfl) ?_
    refine c_groupOf (by omega) hGA (by omega) g2.1 ?_
    show am_G _ M_X1_firstAlike _ 23 [some (.ref 83), some (.int (nI k)), some (.int (nI i))] [.int (nI (G k)), .int (nI (G i))] (μ, τ)
    refine am_ic (ty := 26) (tn := 37) rfl (by decide) rfl rfl (fun (h_3 : nI (G i) = nI (G k)) => ?_) (fun (h_3 : ¬ (nI (G i) = nI (G k))) => ?_)
    · have h_3 : G i = G k := (nI_eq (by omega) (by omega)).mp h_3
      refine am_run 3 (pc' := 29) (ls' := [some (.ref 83), some (.int (nI k)), some (.int (nI i))]) (st' := [.int (nI k), .int (nI i), .ref 83]) (σ' := (μ, τ)) rfl ?_
      refine am_invv (y := 33) (b := 83) (as := [.int (nI i), .int (nI k)]) (rest := []) rfl rfl rfl rfl rfl rfl rfl (Nat.le_of_ble_eq_true rfl) ?_
      refine c_isAlike (by omega) hGA hC hG (by omega) hk (fun ha => ?_) (fun ha => ?_)
      · show am_G _ M_X1_firstAlike _ 32 [some (.ref 83), some (.int (nI k)), some (.int (nI i))] [.int (nI 1)] (μ, τ)
        refine am_if (ty := 37) (tn := 35) rfl (by decide) rfl rfl (fun (h_4 : nI 1 = 0) => ?_) (fun (h_4 : ¬ (nI 1 = 0)) => ?_)
        · exact absurd h_4 (by decide)
        refine am_run 1 (pc' := 36) (ls' := [some (.ref 83), some (.int (nI k)), some (.int (nI i))]) (st' := [.int (nI i)]) (σ' := (μ, τ)) rfl ?_
        refine am_reti rfl rfl ?_
        rw [fal_yes (P := (fun j => alb G tl ld wd j k)) (j := i) (by show alb G tl ld wd i k = true; rw [hal]; simp [*]) hi k (by omega)] at hq
        exact hq
      · show am_G _ M_X1_firstAlike _ 32 [some (.ref 83), some (.int (nI k)), some (.int (nI i))] [.int (nI 0)] (μ, τ)
        refine am_if (ty := 37) (tn := 35) rfl (by decide) rfl rfl (fun (h_5 : nI 0 = 0) => ?_) (fun (h_5 : ¬ (nI 0 = 0)) => ?_)
        rotate_left
        · exact absurd (by decide) h_5
        refine am_run 1 (pc' := 40) (ls' := [some (.ref 83), some (.int (nI k)), some (.int (nI i + nI 1))]) (st' := []) (σ' := (μ, τ)) rfl ?_
        refine am_ls (ls' := [some (.ref 83), some (.int (nI k)), some (.int (nI (i + 1)))]) (by rw [nI_add]) ?_
        refine am_run 1 (pc' := 2) (ls' := [some (.ref 83), some (.int (nI k)), some (.int (nI (i + 1)))]) (st' := []) (σ' := (μ, τ)) rfl ?_
        refine c_firstAlike_loop hd hGA hC hG hk hq m (i + 1) (by omega) (fun j hj => ?_)
        by_cases e : j = i
        · subst e; rw [hal]; simp [*]
        · exact hi j (by omega)
    · have h_3 : ¬ (G i = G k) := fun z => h_3 ((nI_eq (by omega) (by omega)).mpr z)
      refine am_run 1 (pc' := 40) (ls' := [some (.ref 83), some (.int (nI k)), some (.int (nI i + nI 1))]) (st' := []) (σ' := (μ, τ)) rfl ?_
      refine am_ls (ls' := [some (.ref 83), some (.int (nI k)), some (.int (nI (i + 1)))]) (by rw [nI_add]) ?_
      refine am_run 1 (pc' := 2) (ls' := [some (.ref 83), some (.int (nI k)), some (.int (nI (i + 1)))]) (st' := []) (σ' := (μ, τ)) rfl ?_
      refine c_firstAlike_loop hd hGA hC hG hk hq m (i + 1) (by omega) (fun j hj => ?_)
      by_cases e : j = i
      · subst e; rw [hal]; simp [*]
      · exact hi j (by omega)
set_option maxRecDepth 10000 in
set_option maxHeartbeats 2000000 in
theorem c_firstAlike {d : Nat} (hd : 4 ≤ d) {μ : Nat → Nat → Int32} {τ : Nat → Nat → Nat} {n wd : Nat} {tl ld G : Nat → Nat} (hGA : GA τ) (hC : CE μ n wd tl ld) (hG : GG μ τ n G) {k : Nat} (hk : k < n) {Q : am_Q} (hq : Q (some (.int (nI (fal (fun j => alb G tl ld wd j k) k)))) (μ, τ)) : am_C d 32 [.ref 83, .int (nI k)] (μ, τ) Q := by
  refine am_enter' (M := M_X1_firstAlike) rfl rfl rfl (by omega) (ls := [some (.ref 83), some (.int (nI k)), none]) rfl (fun d' hd' => ?_)
  refine am_run 2 (pc' := 2) (ls' := [some (.ref 83), some (.int (nI k)), some (.int (nI 0))]) (st' := []) (σ' := (μ, τ)) rfl ?_
  exact c_firstAlike_loop (by omega) hGA hC hG hk hq k 0 (by omega) (fun _ z => absurd z (Nat.not_lt_zero _))
set_option maxRecDepth 10000 in
set_option maxHeartbeats 2000000 in
theorem c_refine_loop {d : Nat} (hd : 5 ≤ d) {μ0 : Nat → Nat → Int32} {τ : Nat → Nat → Nat} {n wd : Nat} {tl ld G : Nat → Nat} (hGA : GA τ) (hC : CE μ0 n wd tl ld) (hG : GG μ0 τ n G) {Q : am_Q} (hq : ∀ μ', (∀ c, c ≠ τ 83 3 → μ' c = μ0 c) → (∀ y, y < n → μ' (τ 83 3) y = nI ((rfn G tl ld wd n).1 y)) → Q (some (.int (nI (rfn G tl ld wd n).2))) (μ', τ)) : ∀ (m k : Nat) (μ : Nat → Nat → Int32) (v3 : Option Value), k + m = n → (∀ c, c ≠ τ 83 3 → μ c = μ0 c) → (∀ y, y < k → μ (τ 83 3) y = nI ((rfn G tl ld wd k).1 y)) → am_G d M_X1_refine Q 4 [some (.ref 83), some (.int (nI ((rfn G tl ld wd k).2))), some (.int (nI k)), v3] [] (μ, τ)
  | 0, k, μ, v3, hm, h1, h2 => by
    obtain ⟨g1, g2, g3, g4, g5⟩ := hGA.ne
    obtain ⟨c1, c2, c4, c5, c6⟩ := hC.keep (μ' := μ) (fun c a => h1 c (by omega))
    have e : k = n := by omega
    subst e
    have hb := (rfn_b G tl ld wd k).1
    refine am_run 2 (pc' := 7) (ls' := [some (.ref 83), some (.int (nI ((rfn G tl ld wd k).2))), some (.int (nI k)), v3]) (st' := [.int (nI 100), .int (nI k)]) (σ' := (μ, τ)) rfl ?_
    refine am_ic (ty := 10) (tn := 64) rfl (by decide) rfl rfl (fun (h_1 : nI k < nI 100) => ?_) (fun (h_1 : ¬ (nI k < nI 100)) => ?_)
    · have h_1 : k < 100 := (nI_ltI (by omega) (by omega)).mp h_1
      refine am_run 3 (pc' := 15) (ls' := [some (.ref 83), some (.int (nI ((rfn G tl ld wd k).2))), some (.int (nI k)), v3]) (st' := [.int ((μ, τ).1 83 4), .int (nI k)]) (σ' := (μ, τ)) rfl ?_
      refine am_top (v' := nI k) c4 ?_
      refine am_ic (ty := 18) (tn := 64) rfl (by decide) rfl rfl (fun (h_2 : nI k < nI k) => ?_) (fun (h_2 : ¬ (nI k < nI k)) => ?_)
      · have h_2 : k < k := (nI_ltI (by omega) (by omega)).mp h_2
        omega
      have h_2 : ¬ (k < k) := fun z => h_2 ((nI_ltI (by omega) (by omega)).mpr z)
      refine am_run 1 (pc' := 65) (ls' := [some (.ref 83), some (.int (nI ((rfn G tl ld wd k).2))), some (.int (nI k)), v3]) (st' := [.int (nI ((rfn G tl ld wd k).2))]) (σ' := (μ, τ)) rfl ?_
      refine am_reti rfl rfl ?_
      exact hq μ h1 h2
    · have h_1 : ¬ (k < 100) := fun z => h_1 ((nI_ltI (by omega) (by omega)).mpr z)
      refine am_run 1 (pc' := 65) (ls' := [some (.ref 83), some (.int (nI ((rfn G tl ld wd k).2))), some (.int (nI k)), v3]) (st' := [.int (nI ((rfn G tl ld wd k).2))]) (σ' := (μ, τ)) rfl ?_
      refine am_reti rfl rfl ?_
      exact hq μ h1 h2
  | m + 1, k, μ, v3, hm, h1, h2 => by
    obtain ⟨g1, g2, g3, g4, g5⟩ := hGA.ne
    obtain ⟨c1, c2, c4, c5, c6⟩ := hC.keep (μ' := μ) (fun c a => h1 c (by omega))
    have hC2 := hC.keep (μ' := μ) (fun c a => h1 c (by omega))
    have hG2 : GG μ τ n G := fun y hy => by rw [h1 _ g1]; exact hG y hy
    have hb := rfn_b G tl ld wd k
    have hfl := fal_le (fun j => alb G tl ld wd j k) k
    have hbl := hb.1
    by_cases hf : fal (fun j => alb G tl ld wd j k) k < k
    · have hb2 := hb.2 _ hf
      refine am_run 2 (pc' := 7) (ls' := [some (.ref 83), some (.int (nI ((rfn G tl ld wd k).2))), some (.int (nI k)), v3]) (st' := [.int (nI 100), .int (nI k)]) (σ' := (μ, τ)) rfl ?_
      refine am_ic (ty := 10) (tn := 64) rfl (by decide) rfl rfl (fun (h_1 : nI k < nI 100) => ?_) (fun (h_1 : ¬ (nI k < nI 100)) => ?_)
      rotate_left
      · have h_1 : ¬ (k < 100) := fun z => h_1 ((nI_ltI (by omega) (by omega)).mpr z)
        omega
      have h_1 : k < 100 := (nI_ltI (by omega) (by omega)).mp h_1
      refine am_run 3 (pc' := 15) (ls' := [some (.ref 83), some (.int (nI ((rfn G tl ld wd k).2))), some (.int (nI k)), v3]) (st' := [.int ((μ, τ).1 83 4), .int (nI k)]) (σ' := (μ, τ)) rfl ?_
      refine am_top (v' := nI n) c4 ?_
      refine am_ic (ty := 18) (tn := 64) rfl (by decide) rfl rfl (fun (h_2 : nI k < nI n) => ?_) (fun (h_2 : ¬ (nI k < nI n)) => ?_)
      rotate_left
      · have h_2 : ¬ (k < n) := fun z => h_2 ((nI_ltI (by omega) (by omega)).mpr z)
        omega
      have h_2 : k < n := (nI_ltI (by omega) (by omega)).mp h_2
      refine am_run 2 (pc' := 20) (ls' := [some (.ref 83), some (.int (nI ((rfn G tl ld wd k).2))), some (.int (nI k)), v3]) (st' := [.int (nI k), .ref 83]) (σ' := (μ, τ)) rfl ?_
      refine am_invv (y := 32) (b := 83) (as := [.int (nI k)]) (rest := []) rfl rfl rfl rfl rfl rfl rfl (Nat.le_of_ble_eq_true rfl) ?_
      refine c_firstAlike (by omega) hGA hC2 hG2 (by omega) ?_
      show am_G _ M_X1_refine _ 23 [some (.ref 83), some (.int (nI ((rfn G tl ld wd k).2))), some (.int (nI k)), v3] [.int (nI (fal (fun j => alb G tl ld wd j k) k))] (μ, τ)
      refine am_run 3 (pc' := 26) (ls' := [some (.ref 83), some (.int (nI ((rfn G tl ld wd k).2))), some (.int (nI k)), some (.int (nI (fal (fun j => alb G tl ld wd j k) k)))]) (st' := [.int (nI k), .int (nI (fal (fun j => alb G tl ld wd j k) k))]) (σ' := (μ, τ)) rfl ?_
      refine am_ic (ty := 29) (tn := 48) rfl (by decide) rfl rfl (fun (h_3 : nI (fal (fun j => alb G tl ld wd j k) k) < nI k) => ?_) (fun (h_3 : ¬ (nI (fal (fun j => alb G tl ld wd j k) k) < nI k)) => ?_)
      rotate_left
      · have h_3 : ¬ (fal (fun j => alb G tl ld wd j k) k < k) := fun z => h_3 ((nI_ltI (by omega) (by omega)).mpr z)
        omega
      have h_3 : fal (fun j => alb G tl ld wd j k) k < k := (nI_ltI (by omega) (by omega)).mp h_3
      refine am_run 1 (pc' := 30) (ls' := [some (.ref 83), some (.int (nI ((rfn G tl ld wd k).2))), some (.int (nI k)), some (.int (nI (fal (fun j => alb G tl ld wd j k) k)))]) (st' := [.int (nI (fal (fun j => alb G tl ld wd j k) k))]) (σ' := (μ, τ)) rfl ?_
      refine am_if (ty := 48) (tn := 33) rfl (by decide) rfl rfl (fun (h_4 : nI (fal (fun j => alb G tl ld wd j k) k) < 0) => ?_) (fun (h_4 : ¬ (nI (fal (fun j => alb G tl ld wd j k) k) < 0)) => ?_)
      · have h_4 : fal (fun j => alb G tl ld wd j k) k < 0 := (am_nlt0 (by omega)).mp h_4
        exact absurd h_4 (Nat.not_lt_zero _)
      have h_4 : ¬ (fal (fun j => alb G tl ld wd j k) k < 0) := fun z => h_4 ((am_nlt0 (by omega)).mpr z)
      refine am_run 6 (pc' := 43) (ls' := [some (.ref 83), some (.int (nI ((rfn G tl ld wd k).2))), some (.int (nI k)), some (.int (nI (fal (fun j => alb G tl ld wd j k) k)))]) (st' := [.int (nI (fal (fun j => alb G tl ld wd j k) k)), .ref (τ 83 3), .int (nI k), .ref (τ 83 3)]) (σ' := (μ, τ)) rfl ?_
      refine am_ialdN (n := 100) (v := nI ((rfn G tl ld wd k).1 (fal (fun j => alb G tl ld wd j k) k))) rfl hGA.a3.1 hGA.a3.2 (by omega) (h2 _ hf) (by decide) ?_
      refine am_iastN (n := 100) rfl hGA.a3.1 hGA.a3.2 (by omega) (by decide) ?_
      refine am_run 2 (pc' := 61) (ls' := [some (.ref 83), some (.int (nI ((rfn G tl ld wd k).2))), some (.int (nI k + nI 1)), some (.int (nI (fal (fun j => alb G tl ld wd j k) k)))]) (st' := []) (σ' := (am_wr (μ, τ) (τ 83 3) k (nI ((rfn G tl ld wd k).1 (fal (fun j => alb G tl ld wd j k) k))))) rfl ?_
      refine am_ls (ls' := [some (.ref 83), some (.int (nI ((rfn G tl ld wd k).2))), some (.int (nI (k + 1))), some (.int (nI (fal (fun j => alb G tl ld wd j k) k)))]) (by rw [nI_add]) ?_
      refine am_run 1 (pc' := 4) (ls' := [some (.ref 83), some (.int (nI ((rfn G tl ld wd k).2))), some (.int (nI (k + 1))), some (.int (nI (fal (fun j => alb G tl ld wd j k) k)))]) (st' := []) (σ' := (am_wr (μ, τ) (τ 83 3) k (nI ((rfn G tl ld wd k).1 (fal (fun j => alb G tl ld wd j k) k))))) rfl ?_
      have e : (rfn G tl ld wd (k + 1)) = (up1 (rfn G tl ld wd k).1 k ((rfn G tl ld wd k).1 (fal (fun j => alb G tl ld wd j k) k)), (rfn G tl ld wd k).2) := if_pos hf
      refine am_ls (ls' := [some (.ref 83), some (.int (nI ((rfn G tl ld wd (k + 1)).2))), some (.int (nI (k + 1))), some (.int (nI (fal (fun j => alb G tl ld wd j k) k)))]) (by rw [e]) ?_
      refine c_refine_loop hd hGA hC hG hq m (k + 1) (am_wr (μ, τ) (τ 83 3) k (nI ((rfn G tl ld wd k).1 (fal (fun j => alb G tl ld wd j k) k)))).1 _ (by omega) (fun c hc => by rw [am_wr_ne _ hc]; exact h1 c hc) (fun y hy => ?_)
      rw [e]
      show _ = nI (up1 (rfn G tl ld wd k).1 k _ y)
      by_cases z : y = k
      · subst z; rw [am_same, up1_s]
      · rw [am_diff _ _ _ _ _ z, up1_o _ _ z]; exact h2 y (by omega)
    · have hb2 := hb.1
      refine am_run 2 (pc' := 7) (ls' := [some (.ref 83), some (.int (nI ((rfn G tl ld wd k).2))), some (.int (nI k)), v3]) (st' := [.int (nI 100), .int (nI k)]) (σ' := (μ, τ)) rfl ?_
      refine am_ic (ty := 10) (tn := 64) rfl (by decide) rfl rfl (fun (h_1 : nI k < nI 100) => ?_) (fun (h_1 : ¬ (nI k < nI 100)) => ?_)
      rotate_left
      · have h_1 : ¬ (k < 100) := fun z => h_1 ((nI_ltI (by omega) (by omega)).mpr z)
        omega
      have h_1 : k < 100 := (nI_ltI (by omega) (by omega)).mp h_1
      refine am_run 3 (pc' := 15) (ls' := [some (.ref 83), some (.int (nI ((rfn G tl ld wd k).2))), some (.int (nI k)), v3]) (st' := [.int ((μ, τ).1 83 4), .int (nI k)]) (σ' := (μ, τ)) rfl ?_
      refine am_top (v' := nI n) c4 ?_
      refine am_ic (ty := 18) (tn := 64) rfl (by decide) rfl rfl (fun (h_2 : nI k < nI n) => ?_) (fun (h_2 : ¬ (nI k < nI n)) => ?_)
      rotate_left
      · have h_2 : ¬ (k < n) := fun z => h_2 ((nI_ltI (by omega) (by omega)).mpr z)
        omega
      have h_2 : k < n := (nI_ltI (by omega) (by omega)).mp h_2
      refine am_run 2 (pc' := 20) (ls' := [some (.ref 83), some (.int (nI ((rfn G tl ld wd k).2))), some (.int (nI k)), v3]) (st' := [.int (nI k), .ref 83]) (σ' := (μ, τ)) rfl ?_
      refine am_invv (y := 32) (b := 83) (as := [.int (nI k)]) (rest := []) rfl rfl rfl rfl rfl rfl rfl (Nat.le_of_ble_eq_true rfl) ?_
      refine c_firstAlike (by omega) hGA hC2 hG2 (by omega) ?_
      show am_G _ M_X1_refine _ 23 [some (.ref 83), some (.int (nI ((rfn G tl ld wd k).2))), some (.int (nI k)), v3] [.int (nI (fal (fun j => alb G tl ld wd j k) k))] (μ, τ)
      refine am_run 3 (pc' := 26) (ls' := [some (.ref 83), some (.int (nI ((rfn G tl ld wd k).2))), some (.int (nI k)), some (.int (nI (fal (fun j => alb G tl ld wd j k) k)))]) (st' := [.int (nI k), .int (nI (fal (fun j => alb G tl ld wd j k) k))]) (σ' := (μ, τ)) rfl ?_
      refine am_ic (ty := 29) (tn := 48) rfl (by decide) rfl rfl (fun (h_3 : nI (fal (fun j => alb G tl ld wd j k) k) < nI k) => ?_) (fun (h_3 : ¬ (nI (fal (fun j => alb G tl ld wd j k) k) < nI k)) => ?_)
      · have h_3 : fal (fun j => alb G tl ld wd j k) k < k := (nI_ltI (by omega) (by omega)).mp h_3
        omega
      have h_3 : ¬ (fal (fun j => alb G tl ld wd j k) k < k) := fun z => h_3 ((nI_ltI (by omega) (by omega)).mpr z)
      refine am_run 4 (pc' := 54) (ls' := [some (.ref 83), some (.int (nI ((rfn G tl ld wd k).2))), some (.int (nI k)), some (.int (nI (fal (fun j => alb G tl ld wd j k) k)))]) (st' := [.int (nI ((rfn G tl ld wd k).2)), .int (nI k), .ref (τ 83 3)]) (σ' := (μ, τ)) rfl ?_
      refine am_iastN (n := 100) rfl hGA.a3.1 hGA.a3.2 (by omega) (by decide) ?_
      refine am_run 1 (pc' := 58) (ls' := [some (.ref 83), some (.int (nI ((rfn G tl ld wd k).2) + nI 1)), some (.int (nI k)), some (.int (nI (fal (fun j => alb G tl ld wd j k) k)))]) (st' := []) (σ' := (am_wr (μ, τ) (τ 83 3) k (nI ((rfn G tl ld wd k).2)))) rfl ?_
      refine am_ls (ls' := [some (.ref 83), some (.int (nI ((rfn G tl ld wd k).2 + 1))), some (.int (nI k)), some (.int (nI (fal (fun j => alb G tl ld wd j k) k)))]) (by rw [nI_add]) ?_
      refine am_run 1 (pc' := 61) (ls' := [some (.ref 83), some (.int (nI ((rfn G tl ld wd k).2 + 1))), some (.int (nI k + nI 1)), some (.int (nI (fal (fun j => alb G tl ld wd j k) k)))]) (st' := []) (σ' := (am_wr (μ, τ) (τ 83 3) k (nI ((rfn G tl ld wd k).2)))) rfl ?_
      refine am_ls (ls' := [some (.ref 83), some (.int (nI ((rfn G tl ld wd k).2 + 1))), some (.int (nI (k + 1))), some (.int (nI (fal (fun j => alb G tl ld wd j k) k)))]) (by rw [nI_add]) ?_
      refine am_run 1 (pc' := 4) (ls' := [some (.ref 83), some (.int (nI ((rfn G tl ld wd k).2 + 1))), some (.int (nI (k + 1))), some (.int (nI (fal (fun j => alb G tl ld wd j k) k)))]) (st' := []) (σ' := (am_wr (μ, τ) (τ 83 3) k (nI ((rfn G tl ld wd k).2)))) rfl ?_
      have e : (rfn G tl ld wd (k + 1)) = (up1 (rfn G tl ld wd k).1 k ((rfn G tl ld wd k).2), (rfn G tl ld wd k).2 + 1) := if_neg hf
      refine am_ls (ls' := [some (.ref 83), some (.int (nI ((rfn G tl ld wd (k + 1)).2))), some (.int (nI (k + 1))), some (.int (nI (fal (fun j => alb G tl ld wd j k) k)))]) (by rw [e]) ?_
      refine c_refine_loop hd hGA hC hG hq m (k + 1) (am_wr (μ, τ) (τ 83 3) k (nI ((rfn G tl ld wd k).2))).1 _ (by omega) (fun c hc => by rw [am_wr_ne _ hc]; exact h1 c hc) (fun y hy => ?_)
      rw [e]
      show _ = nI (up1 (rfn G tl ld wd k).1 k _ y)
      by_cases z : y = k
      · subst z; rw [am_same, up1_s]
      · rw [am_diff _ _ _ _ _ z, up1_o _ _ z]; exact h2 y (by omega)
set_option maxRecDepth 10000 in
set_option maxHeartbeats 2000000 in
theorem c_refine {d : Nat} (hd : 6 ≤ d) {μ0 : Nat → Nat → Int32} {τ : Nat → Nat → Nat} {n wd : Nat} {tl ld G : Nat → Nat} (hGA : GA τ) (hC : CE μ0 n wd tl ld) (hG : GG μ0 τ n G) {Q : am_Q} (hq : ∀ μ', (∀ c, c ≠ τ 83 3 → μ' c = μ0 c) → (∀ y, y < n → μ' (τ 83 3) y = nI ((rfn G tl ld wd n).1 y)) → Q (some (.int (nI (rfn G tl ld wd n).2))) (μ', τ)) : am_C d 31 [.ref 83] (μ0, τ) Q := by
  refine am_enter' (M := M_X1_refine) rfl rfl rfl (by omega) (ls := [some (.ref 83), none, none, none]) rfl (fun d' hd' => ?_)
  refine am_run 4 (pc' := 4) (ls' := [some (.ref 83), some (.int (nI 0)), some (.int (nI 0)), none]) (st' := []) (σ' := (μ0, τ)) rfl ?_
  exact c_refine_loop (by omega) hGA hC hG hq n 0 μ0 _ (by omega) (fun _ _ => rfl) (fun _ z => absurd z (Nat.not_lt_zero _))
/-- what sorting leaves as it was -/
def KZ (σ0 : am_M) (μ : Nat → Nat → Int32) (τ : Nat → Nat → Nat) : Prop := (∀ c, c < 86 → μ c = σ0.1 c) ∧ ∀ c, c ≠ 83 → τ c = σ0.2 c
theorem KZ.KX {σ0 : am_M} {μ : Nat → Nat → Int32} {τ : Nat → Nat → Nat} (h : KZ σ0 μ τ) (hg : GA τ) : KX σ0 (μ, τ) := ⟨fun c a => h.1 c (by omega), h.2, fun _ => hg⟩
set_option maxRecDepth 10000 in
set_option maxHeartbeats 2000000 in
theorem c_classes_loop {d : Nat} (hd : 7 ≤ d) {σ0 : am_M} {n wd : Nat} {tl ld : Nat → Nat} {Q : am_Q} : ∀ (m k : Nat) (μ : Nat → Nat → Int32) (τ : Nat → Nat → Nat) (G : Nat → Nat) (had many : Nat) (v4 : Option Value), k + m = 100 → had ≤ 100 → many ≤ 100 → GA τ → CE μ n wd tl ld → GG μ τ n G → KZ σ0 μ τ → (∀ σ'', KX σ0 σ'' → Q (some (.int (nI (cls tl ld wd n m G had many)))) σ'') → am_G d M_X1_classes Q 27 [some (.ref 83), some (.int (nI had)), some (.int (nI many)), some (.int (nI k)), v4] [] (μ, τ)
  | 0, k, μ, τ, G, had, many, v4, hm, hh, hmy, hGA, hC, hG, hK, hq => by
    have e : k = 100 := by omega
    subst e
    refine am_run 2 (pc' := 30) (ls' := [some (.ref 83), some (.int (nI had)), some (.int (nI many)), some (.int (nI 100)), v4]) (st' := [.int (nI 100), .int (nI 100)]) (σ' := (μ, τ)) rfl ?_
    refine am_ic (ty := 33) (tn := 71) rfl (by decide) rfl rfl (fun (h_1 : nI 100 < nI 100) => ?_) (fun (h_1 : ¬ (nI 100 < nI 100)) => ?_)
    · exact absurd h_1 (by decide)
    refine am_run 1 (pc' := 72) (ls' := [some (.ref 83), some (.int (nI had)), some (.int (nI many)), some (.int (nI 100)), v4]) (st' := [.int (nI many)]) (σ' := (μ, τ)) rfl ?_
    refine am_reti rfl rfl ?_
    exact hq _ (hK.KX hGA)
  | m + 1, k, μ, τ, G, had, many, v4, hm, hh, hmy, hGA, hC, hG, hK, hq => by
    by_cases he : many = had
    · rw [show cls tl ld wd n (m + 1) G had many = many from if_pos he] at hq
      refine am_run 2 (pc' := 30) (ls' := [some (.ref 83), some (.int (nI had)), some (.int (nI many)), some (.int (nI k)), v4]) (st' := [.int (nI 100), .int (nI k)]) (σ' := (μ, τ)) rfl ?_
      refine am_ic (ty := 33) (tn := 71) rfl (by decide) rfl rfl (fun (h_1 : nI k < nI 100) => ?_) (fun (h_1 : ¬ (nI k < nI 100)) => ?_)
      rotate_left
      · have h_1 : ¬ (k < 100) := fun z => h_1 ((nI_ltI (by omega) (by omega)).mpr z)
        omega
      have h_1 : k < 100 := (nI_ltI (by omega) (by omega)).mp h_1
      refine am_run 2 (pc' := 35) (ls' := [some (.ref 83), some (.int (nI had)), some (.int (nI many)), some (.int (nI k)), v4]) (st' := [.int (nI had), .int (nI many)]) (σ' := (μ, τ)) rfl ?_
      refine am_ic (ty := 71) (tn := 38) rfl (by decide) rfl rfl (fun (h_2 : nI many = nI had) => ?_) (fun (h_2 : ¬ (nI many = nI had)) => ?_)
      rotate_left
      · have h_2 : ¬ (many = had) := fun z => h_2 ((nI_eq (by omega) (by omega)).mpr z)
        omega
      have h_2 : many = had := (nI_eq (by omega) (by omega)).mp h_2
      refine am_run 1 (pc' := 72) (ls' := [some (.ref 83), some (.int (nI had)), some (.int (nI many)), some (.int (nI k)), v4]) (st' := [.int (nI many)]) (σ' := (μ, τ)) rfl ?_
      refine am_reti rfl rfl ?_
      exact hq _ (hK.KX hGA)
    · rw [show cls tl ld wd n (m + 1) G had many = cls tl ld wd n m (rfn G tl ld wd n).1 many (rfn G tl ld wd n).2 from if_neg he] at hq
      have hb := rfn_b G tl ld wd n
      have hbl := hb.1
      have hn := hC.1
      refine am_run 2 (pc' := 30) (ls' := [some (.ref 83), some (.int (nI had)), some (.int (nI many)), some (.int (nI k)), v4]) (st' := [.int (nI 100), .int (nI k)]) (σ' := (μ, τ)) rfl ?_
      refine am_ic (ty := 33) (tn := 71) rfl (by decide) rfl rfl (fun (h_1 : nI k < nI 100) => ?_) (fun (h_1 : ¬ (nI k < nI 100)) => ?_)
      rotate_left
      · have h_1 : ¬ (k < 100) := fun z => h_1 ((nI_ltI (by omega) (by omega)).mpr z)
        omega
      have h_1 : k < 100 := (nI_ltI (by omega) (by omega)).mp h_1
      refine am_run 2 (pc' := 35) (ls' := [some (.ref 83), some (.int (nI had)), some (.int (nI many)), some (.int (nI k)), v4]) (st' := [.int (nI had), .int (nI many)]) (σ' := (μ, τ)) rfl ?_
      refine am_ic (ty := 71) (tn := 38) rfl (by decide) rfl rfl (fun (h_2 : nI many = nI had) => ?_) (fun (h_2 : ¬ (nI many = nI had)) => ?_)
      · have h_2 : many = had := (nI_eq (by omega) (by omega)).mp h_2
        omega
      have h_2 : ¬ (many = had) := fun z => h_2 ((nI_eq (by omega) (by omega)).mpr z)
      refine am_run 3 (pc' := 41) (ls' := [some (.ref 83), some (.int (nI many)), some (.int (nI many)), some (.int (nI k)), v4]) (st' := [.ref 83]) (σ' := (μ, τ)) rfl ?_
      refine am_invv (y := 31) (b := 83) (as := []) (rest := []) rfl rfl rfl rfl rfl rfl rfl (Nat.le_of_ble_eq_true rfl) ?_
      refine c_refine (by omega) hGA hC hG (fun μ' k1 k2 => ?_)
      show am_G _ M_X1_classes _ 44 [some (.ref 83), some (.int (nI many)), some (.int (nI many)), some (.int (nI k)), v4] [.int (nI ((rfn G tl ld wd n).2))] (μ', τ)
      refine am_run 12 (pc' := 68) (ls' := [some (.ref 83), some (.int (nI many)), some (.int (nI ((rfn G tl ld wd n).2))), some (.int (nI k + nI 1)), some (.ref (τ 83 2))]) (st' := []) (σ' := (am_wrR (am_wrR (μ', τ) 83 2 (τ 83 3)) 83 3 (τ 83 2))) rfl ?_
      refine am_ls (ls' := [some (.ref 83), some (.int (nI many)), some (.int (nI ((rfn G tl ld wd n).2))), some (.int (nI (k + 1))), some (.ref (τ 83 2))]) (by rw [nI_add]) ?_
      refine am_run 1 (pc' := 27) (ls' := [some (.ref 83), some (.int (nI many)), some (.int (nI ((rfn G tl ld wd n).2))), some (.int (nI (k + 1))), some (.ref (τ 83 2))]) (st' := []) (σ' := (am_wrR (am_wrR (μ', τ) 83 2 (τ 83 3)) 83 3 (τ 83 2))) rfl ?_
      obtain ⟨g1, g2, g3, g4, g5⟩ := hGA.ne
      refine c_classes_loop hd m (k + 1) μ' (fun c k => if c = 83 ∧ k = 3 then τ 83 2 else if c = 83 ∧ k = 2 then τ 83 3 else τ c k) (rfn G tl ld wd n).1 many (rfn G tl ld wd n).2 _ (by omega) hmy (by omega) ?_ (hC.keep (fun c a => k1 c (by omega))) (fun y hy => ⟨k2 y hy, by have := hb.2 y hy; omega⟩) ⟨fun c a => by rw [k1 c (by omega)]; exact hK.1 c a, fun c a => ?_⟩ hq
      · rcases hGA with ⟨e1, e2⟩ | ⟨e1, e2⟩
        · exact Or.inr ⟨e2, e1⟩
        · exact Or.inl ⟨e2, e1⟩
      · funext k'
        show (if c = 83 ∧ k' = 3 then _ else if c = 83 ∧ k' = 2 then _ else τ c k') = _
        rw [if_neg (fun z => a z.1), if_neg (fun z => a z.1), hK.2 c a]
set_option maxRecDepth 10000 in
set_option maxHeartbeats 2000000 in
theorem c_classes_zero {d : Nat} (hd : 7 ≤ d) {σ0 : am_M} {n wd : Nat} {tl ld : Nat → Nat} {τ : Nat → Nat → Nat} (hGA : GA τ) (hn : n ≤ 100) {Q : am_Q} (hq : ∀ σ'', KX σ0 σ'' → Q (some (.int (nI (cls tl ld wd n 100 z0 0 1)))) σ'') : ∀ (m k : Nat) (μ : Nat → Nat → Int32), k + m = 100 → CE μ n wd tl ld → KZ σ0 μ τ → (∀ y, y < k → μ (τ 83 2) y = nI 0) → am_G d M_X1_classes Q 2 [some (.ref 83), some (.int (nI k)), none, none, none] [] (μ, τ)
  | 0, k, μ, hm, hC, hK, hz => by
    refine am_run 2 (pc' := 5) (ls' := [some (.ref 83), some (.int (nI k)), none, none, none]) (st' := [.int (nI 100), .int (nI k)]) (σ' := (μ, τ)) rfl ?_
    refine am_ic (ty := 8) (tn := 21) rfl (by decide) rfl rfl (fun (h_1 : nI k < nI 100) => ?_) (fun (h_1 : ¬ (nI k < nI 100)) => ?_)
    · have h_1 : k < 100 := (nI_ltI (by omega) (by omega)).mp h_1
      omega
    have h_1 : ¬ (k < 100) := fun z => h_1 ((nI_ltI (by omega) (by omega)).mpr z)
    refine am_run 6 (pc' := 27) (ls' := [some (.ref 83), some (.int (nI 0)), some (.int (nI 1)), some (.int (nI 0)), none]) (st' := []) (σ' := (μ, τ)) rfl ?_
    exact c_classes_loop hd 100 0 μ τ z0 0 1 _ rfl (by decide) (by decide) hGA hC (fun y hy => ⟨hz y (by omega), Nat.zero_le _⟩) hK hq
  | m + 1, k, μ, hm, hC, hK, hz => by
    obtain ⟨g1, g2, g3, g4, g5⟩ := hGA.ne
    refine am_run 2 (pc' := 5) (ls' := [some (.ref 83), some (.int (nI k)), none, none, none]) (st' := [.int (nI 100), .int (nI k)]) (σ' := (μ, τ)) rfl ?_
    refine am_ic (ty := 8) (tn := 21) rfl (by decide) rfl rfl (fun (h_1 : nI k < nI 100) => ?_) (fun (h_1 : ¬ (nI k < nI 100)) => ?_)
    rotate_left
    · have h_1 : ¬ (k < 100) := fun z => h_1 ((nI_ltI (by omega) (by omega)).mpr z)
      omega
    have h_1 : k < 100 := (nI_ltI (by omega) (by omega)).mp h_1
    refine am_run 4 (pc' := 14) (ls' := [some (.ref 83), some (.int (nI k)), none, none, none]) (st' := [.int (nI 0), .int (nI k), .ref (τ 83 2)]) (σ' := (μ, τ)) rfl ?_
    refine am_iastN (n := 100) rfl hGA.a2.1 hGA.a2.2 (by omega) (by decide) ?_
    refine am_run 1 (pc' := 18) (ls' := [some (.ref 83), some (.int (nI k + nI 1)), none, none, none]) (st' := []) (σ' := (am_wr (μ, τ) (τ 83 2) k (nI 0))) rfl ?_
    refine am_ls (ls' := [some (.ref 83), some (.int (nI (k + 1))), none, none, none]) (by rw [nI_add]) ?_
    refine am_run 1 (pc' := 2) (ls' := [some (.ref 83), some (.int (nI (k + 1))), none, none, none]) (st' := []) (σ' := (am_wr (μ, τ) (τ 83 2) k (nI 0))) rfl ?_
    refine c_classes_zero hd hGA hn hq m (k + 1) (am_wr (μ, τ) (τ 83 2) k (nI 0)).1 (by omega) (hC.keep (fun c a => by rw [am_wr_ne _ (by omega)])) ⟨fun c a => by rw [am_wr_ne _ (by omega)]; exact hK.1 c a, hK.2⟩ (fun y hy => ?_)
    by_cases z : y = k
    · subst z; rw [am_same]
    · rw [am_diff _ _ _ _ _ z]; exact hz y (by omega)
set_option maxRecDepth 10000 in
set_option maxHeartbeats 2000000 in
theorem c_classes {d : Nat} (hd : 8 ≤ d) {σ : am_M} {n wd : Nat} {tl ld : Nat → Nat} (hGS : GS σ) (hC : CE σ.1 n wd tl ld) {Q : am_Q} (hq : ∀ σ'', KX σ σ'' → Q (some (.int (nI (cls tl ld wd n 100 z0 0 1)))) σ'') : am_C d 30 [.ref 83] σ Q := by
  obtain ⟨μ, τ⟩ := σ
  refine am_enter' (M := M_X1_classes) rfl rfl rfl (by omega) (ls := [some (.ref 83), none, none, none, none]) rfl (fun d' hd' => ?_)
  refine am_run 2 (pc' := 2) (ls' := [some (.ref 83), some (.int (nI 0)), none, none, none]) (st' := []) (σ' := (μ, τ)) rfl ?_
  exact c_classes_zero (by omega) hGS hC.1 hq 100 0 μ rfl hC ⟨fun _ _ => rfl, fun _ _ => rfl⟩ (fun _ z => absurd z (Nat.not_lt_zero _))

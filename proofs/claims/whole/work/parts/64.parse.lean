/-! reading a text, in numbers -/
/-- position, statements, pause points; rows: 0 token, 1 detail + 1, 2 and 3 operands + 1, 4 pauses, 5 index, 6 first, 7 last -/
abbrev PS : Type := Nat × Nat × Nat × (Nat → Nat → Nat)
abbrev RS : Type := (Nat × Nat) ⊕ (PS × Nat)
section Text
variable (tx : Nat → Nat) (L : Nat)
def skp : Nat → Nat → Nat
  | 0, q => q
  | m + 1, q => if q < L ∧ tx q = 32 then skp m (q + 1) else q
def lk (q : Nat) : Nat := skp tx L 120 q
/-- 256: the text has ended -/
def tk (q : Nat) : Nat := if q < L then tx q else 256
end Text
def isP (c : Nat) : Bool := c == 46 || c == 38
def isS (c : Nat) : Bool := c == 33 || c == 38 || c == 63 || c == 64 || c == 126 || c == 36
def isB (c : Nat) : Bool := c == 63 || c == 42 || c == 94 || c == 64 || c == 126 || c == 36
def isF (c : Nat) : Bool := c == 48 || c == 46 || c == 120 || c == 33 || c == 38
def ps_at (S : PS) (q : Nat) : PS := (q, S.2)
def ps_add (S : PS) (c q : Nat) : PS := (q + 1, S.2.1 + 1, S.2.2.1 + (if isP c = true then 1 else 0), fun a i => if i = S.2.1 then (if a = 0 then c else if a = 4 then (if isP c = true then 2 ^ S.2.2.1 else 0) else if a = 5 then q else if a = 6 then S.2.1 else if a = 7 then S.2.1 else 0) else S.2.2.2 a i)
def ps_det (S : PS) (st v : Nat) : PS := (S.1, S.2.1, S.2.2.1, fun a i => if i = st ∧ a = 1 then v + 1 else S.2.2.2 a i)
def pz (p : Nat → Nat → Nat) (x : Nat) : Nat := if x = 0 then 0 else p 4 (x - 1)
def ps_ops (S : PS) (st l r : Nat) : PS := (S.1, S.2.1, S.2.2.1, fun a i => if i = st then (if a = 2 then l else if a = 3 then r else if a = 4 then pz S.2.2.2 l ||| pz S.2.2.2 r else if a = 6 then (if l = 0 then S.2.2.2 6 st else min st (S.2.2.2 6 (l - 1))) else if a = 7 then (if r = 0 then (if l = 0 then S.2.2.2 7 st else max st (S.2.2.2 7 (l - 1))) else max (if l = 0 then S.2.2.2 7 st else max st (S.2.2.2 7 (l - 1))) (S.2.2.2 7 (r - 1))) else S.2.2.2 a i) else S.2.2.2 a i)
def p_beg (S : PS) (c lc q : Nat) : (Nat × Nat) ⊕ PS := if 60 ≤ S.2.1 ∨ (isP c = true ∧ 20 ≤ S.2.2.1) then .inl (3, q) else if c = 36 ∧ 3 ≤ lc then .inl (4, q) else .inr (ps_add S c q)
section Parse
variable (tx : Nat → Nat) (L : Nat)
def p_enc (blk : Option (Nat → Nat → PS → RS)) (op cl tr lc : Nat) (S : PS) : RS :=
  if ¬ tk tx L (lk tx L S.1) = op then .inl (1, lk tx L S.1) else
  match blk with
  | none => .inl (4, lk tx L S.1)
  | some f => match f tr lc (ps_at S (lk tx L S.1 + 1)) with
    | .inl e => .inl e
    | .inr (S1, r) => if ¬ tk tx L (lk tx L S1.1) = cl then .inl (1, lk tx L S1.1) else .inr (ps_at S1 (lk tx L S1.1 + 1), r)
def p_blk (blk : Option (Nat → Nat → PS → RS)) (c tr lc st : Nat) (S : PS) : RS :=
  match p_enc tx L blk 123 125 (if c = 94 then tr + 1 else tr) (if c = 36 then lc + 1 else lc) S with
  | .inl e => .inl e
  | .inr (S3, f) =>
    if c = 63 then
      (if tk tx L (lk tx L S3.1) = 123 then (match p_enc tx L blk 123 125 tr lc (ps_at S3 (lk tx L S3.1)) with
        | .inl e => .inl e
        | .inr (S4, g) => .inr (ps_ops S4 st (f + 1) (g + 1), st))
      else .inr (ps_ops (ps_at S3 (lk tx L S3.1)) st (f + 1) 0, st))
    else .inr (ps_ops S3 st (f + 1) 0, st)
def p_part (blk : Option (Nat → Nat → PS → RS)) (tr lc : Nat) (S : PS) : RS :=
  if tk tx L (lk tx L S.1) = 40 then p_enc tx L blk 40 41 tr lc (ps_at S (lk tx L S.1)) else
  if isF (tk tx L (lk tx L S.1)) = false ∧ isB (tk tx L (lk tx L S.1)) = false then .inl (1, lk tx L S.1) else
  match p_beg S (tk tx L (lk tx L S.1)) lc (lk tx L S.1) with
  | .inl e => .inl e
  | .inr S1 =>
    if tk tx L (lk tx L S.1) = 120 then
      (if tk tx L (lk tx L S1.1) < 48 ∨ 52 < tk tx L (lk tx L S1.1) then .inl (1, lk tx L S1.1)
      else if tr ≤ tk tx L (lk tx L S1.1) - 48 then .inl (2, lk tx L S1.1)
      else .inr (ps_at (ps_det S1 S.2.1 (tk tx L (lk tx L S1.1) - 48)) (lk tx L S1.1 + 1), S.2.1))
    else if isS (tk tx L (lk tx L S.1)) = true then
      (if tk tx L (lk tx L S1.1) < 97 ∨ 104 < tk tx L (lk tx L S1.1) then .inl (1, lk tx L S1.1)
      else if isB (tk tx L (lk tx L S.1)) = true then p_blk tx L blk (tk tx L (lk tx L S.1)) tr lc S.2.1 (ps_at (ps_det S1 S.2.1 (tk tx L (lk tx L S1.1) - 97)) (lk tx L S1.1 + 1))
      else .inr (ps_at (ps_det S1 S.2.1 (tk tx L (lk tx L S1.1) - 97)) (lk tx L S1.1 + 1), S.2.1))
    else if isB (tk tx L (lk tx L S.1)) = true then p_blk tx L blk (tk tx L (lk tx L S.1)) tr lc S.2.1 S1
    else .inr (S1, S.2.1)
/-- operands that a sign joins -/
def p_lop (sg : Nat) (nx : Nat → Nat → PS → RS) (tr lc : Nat) : Nat → PS → Nat → RS
  | 0, S, l => .inr (S, l)
  | g + 1, S, l =>
    if tk tx L (lk tx L S.1) = sg then
      (match p_beg S sg lc (lk tx L S.1) with
      | .inl e => .inl e
      | .inr S1 => match nx tr lc S1 with
        | .inl e => .inl e
        | .inr (S2, r) => p_lop sg nx tr lc g (ps_ops S2 S.2.1 (l + 1) (r + 1)) S.2.1)
    else .inr (ps_at S (lk tx L S.1), l)
def p_row (sg : Nat) (nx : Nat → Nat → PS → RS) (tr lc : Nat) (S : PS) : RS := match nx tr lc S with
  | .inl e => .inl e
  | .inr (S1, l) => p_lop tx L sg nx tr lc 120 S1 l
def p_seq (blk : Option (Nat → Nat → PS → RS)) : Nat → Nat → PS → RS := p_row tx L 59 (p_part tx L blk)
def p_par (blk : Option (Nat → Nat → PS → RS)) : Nat → Nat → PS → RS := p_row tx L 124 (p_seq tx L blk)
/-- m more brackets are allowed -/
def p_lv : Nat → Nat → Nat → PS → RS
  | 0 => p_par tx L none
  | m + 1 => p_par tx L (some (p_lv m))
end Parse
/-! the class's reader -/
def RW (μ : Nat → Nat → Int32) (t : Nat) (p : Nat → Nat → Nat) (i : Nat) : Prop := μ (t + 1) i = nI (p 0 i) ∧ μ (t + 2) i = oI (p 1 i) ∧ μ (t + 3) i = nI (p 5 i) ∧ μ (t + 4) i = oI (p 2 i) ∧ μ (t + 5) i = oI (p 3 i) ∧ μ (t + 6) i = nI (p 6 i) ∧ μ (t + 7) i = nI (p 7 i) ∧ μ (t + 8) i = nI (p 4 i) ∧ p 4 i < 1048576 ∧ p 6 i < 60 ∧ p 7 i < 60
def XC (μ : Nat → Nat → Int32) (L : Nat) (tx : Nat → Nat) : Prop := L ≤ 120 ∧ μ 42 1 = nI L ∧ ∀ i, i < L → tx i < 256 ∧ μ 43 i = nI (tx i)
def CR (μ : Nat → Nat → Int32) (t L : Nat) (S : PS) : Prop := S.1 ≤ L ∧ S.2.1 ≤ 60 ∧ S.2.2.1 ≤ 20 ∧ μ 44 2 = nI S.1 ∧ μ 44 3 = nI 0 ∧ μ t 8 = nI S.2.1 ∧ μ t 9 = nI S.2.2.1 ∧ ∀ i, i < S.2.1 → RW μ t S.2.2.2 i
def KC (μ0 μ : Nat → Nat → Int32) (t : Nat) : Prop := ∀ c, c ≠ 44 → (c < t ∨ t + 8 < c) → μ c = μ0 c
def FR (μ : Nat → Nat → Int32) (k fp : Nat) : Prop := μ 44 3 = nI k ∧ μ 44 4 = nI fp ∧ 1 ≤ k ∧ k ≤ 5
theorem KC.rf (μ : Nat → Nat → Int32) (t : Nat) : KC μ μ t := fun _ _ _ => rfl
theorem KC.tr {μ μ' μ'' : Nat → Nat → Int32} {t : Nat} (h : KC μ μ' t) (h' : KC μ' μ'' t) : KC μ μ'' t := fun c a b => (h' c a b).trans (h c a b)
theorem KC.w44 {μ0 μ : Nat → Nat → Int32} {t : Nat} {τ : Nat → Nat → Nat} (h : KC μ0 μ t) (k : Nat) (x : Int32) : KC μ0 (am_wr (μ, τ) 44 k x).1 t := fun c a b => by rw [am_wr_ne _ a]; exact h c a b
theorem KC.wt {μ0 μ : Nat → Nat → Int32} {t : Nat} {τ : Nat → Nat → Nat} (h : KC μ0 μ t) {c : Nat} (hc : t ≤ c ∧ c ≤ t + 8) (k : Nat) (x : Int32) : KC μ0 (am_wr (μ, τ) c k x).1 t := fun c' a b => by rw [am_wr_ne _ (by omega)]; exact h c' a b
theorem KC.xc {μ μ' : Nat → Nat → Int32} {t L : Nat} {tx : Nat → Nat} (hT : T3 t) (h : KC μ μ' t) (hX : XC μ L tx) : XC μ' L tx := by
  unfold XC
  unfold T3 at hT
  rw [h 42 (by decide) (by omega), h 43 (by decide) (by omega)]
  exact hX
theorem skp_le (tx : Nat → Nat) (L : Nat) : ∀ m q, q ≤ L → q ≤ skp tx L m q ∧ skp tx L m q ≤ L
  | 0, q, h => ⟨Nat.le_refl q, h⟩
  | m + 1, q, h => by
    unfold skp
    split
    · rename_i e
      have := skp_le tx L m (q + 1) (by omega)
      omega
    · exact ⟨Nat.le_refl q, h⟩
theorem lk_le {tx : Nat → Nat} {L q : Nat} (h : q ≤ L) : q ≤ lk tx L q ∧ lk tx L q ≤ L := skp_le tx L 120 q h
theorem skp_st (tx : Nat → Nat) (L : Nat) : ∀ m q, L ≤ q + m → ¬ (skp tx L m q < L ∧ tx (skp tx L m q) = 32)
  | 0, q, h => fun z => by have := z.1; unfold skp at this; omega
  | m + 1, q, h => by
    unfold skp
    split
    · exact skp_st tx L m (q + 1) (by omega)
    · assumption
theorem lk_st {tx : Nat → Nat} {L q : Nat} (hL : L ≤ 120) : ¬ (lk tx L q < L ∧ tx (lk tx L q) = 32) := skp_st tx L 120 q (by omega)
theorem lk_id {tx : Nat → Nat} {L q : Nat} (h : ¬ (q < L ∧ tx q = 32)) : lk tx L q = q := if_neg h
theorem lk_lk {tx : Nat → Nat} {L q : Nat} (hL : L ≤ 120) : lk tx L (lk tx L q) = lk tx L q := lk_id (lk_st hL)
/-- the int that a token is -/
def tI (c : Nat) : Int32 := if c = 256 then -1 else nI c
theorem tI_eq {c k : Nat} (hc : c ≤ 256) (hk : k < 256) : tI c = nI k ↔ c = k := by
  unfold tI
  split
  · rename_i e
    constructor
    · intro z; exact absurd z.symm (am_nm1 (by omega))
    · intro z; omega
  · exact nI_eq (by omega) (by omega)
theorem tI_n {c : Nat} (h : c < 256) : tI c = nI c := if_neg (by omega)
theorem tI_lt {c k : Nat} (hc : c ≤ 256) (hk : k < 256) : tI c < nI k ↔ c = 256 ∨ c < k := by
  unfold tI
  split
  · rename_i e
    constructor
    · intro _; exact Or.inl e
    · intro _
      rw [Int32.lt_iff_toInt_lt, nI_toInt (by omega), show (-1 : Int32).toInt = -1 by decide]
      omega
  · rw [nI_ltI (by omega) (by omega)]
    omega
theorem tI_gt {c k : Nat} (hc : c ≤ 256) (hk : k < 256) : nI k < tI c ↔ c < 256 ∧ k < c := by
  unfold tI
  split
  · rename_i e
    constructor
    · intro z
      rw [Int32.lt_iff_toInt_lt, nI_toInt (by omega), show (-1 : Int32).toInt = -1 by decide] at z
      omega
    · intro z; omega
  · rw [nI_ltI (by omega) (by omega)]
    omega
theorem tk_le {tx : Nat → Nat} {L : Nat} {μ : Nat → Nat → Int32} (hX : XC μ L tx) (q : Nat) : tk tx L q ≤ 256 ∧ (tk tx L q < 256 → q < L) ∧ (q < L → tk tx L q = tx q ∧ tk tx L q < 256) := by
  unfold tk
  split
  · rename_i e
    have := (hX.2.2 q e).1
    exact ⟨by omega, fun _ => e, fun _ => ⟨rfl, this⟩⟩
  · rename_i e
    exact ⟨Nat.le_refl _, fun z => absurd z (by decide), fun z => absurd z e⟩
theorem vp_of {x : Int32} {n : Nat} (hn : n < 2 ^ 31) (h1 : ¬ x < 0) (h2 : x < nI n) : vp_in x n := by
  obtain ⟨u, hu, rfl⟩ := i32_nat h1
  exact vp_in_nI ((nI_ltI hu hn).mp h2) hn
set_option maxRecDepth 10000 in
set_option maxHeartbeats 2000000 in
theorem c_byteAt {d : Nat} (hd : 1 ≤ d) {μ : Nat → Nat → Int32} {τ : Nat → Nat → Nat} {L : Nat} {tx : Nat → Nat} (hX : XC μ L tx) {q : Nat} (hq2 : q < 2 ^ 30) {Q : am_Q} (hq : Q (some (.int (tI (tk tx L q)))) (μ, τ)) : am_C d 98 [.ref 42, .int (nI q)] (μ, τ) Q := by
  obtain ⟨x1, x2, x3⟩ := id hX
  obtain ⟨k1, k2, k3⟩ := tk_le hX q
  by_cases h : q < L
  · obtain ⟨k4, k5⟩ := k3 h
    rw [tI_n k5, k4] at hq
    have x4 := (x3 q h).2
    refine am_enter' (M := M_X7_byteAt) rfl rfl rfl (by omega) (ls := [some (.ref 42), some (.int (nI q))]) rfl (fun d' hd' => ?_)
    refine am_run 1 (pc' := 1) (ls' := [some (.ref 42), some (.int (nI q))]) (st' := [.int (nI q)]) (σ' := (μ, τ)) rfl ?_
    refine am_if (ty := 30) (tn := 4) rfl (by decide) rfl rfl (fun (h_1 : nI q < 0) => ?_) (fun (h_1 : ¬ (nI q < 0)) => ?_)
    · have h_1 : q < 0 := (am_nlt0 (by omega)).mp h_1
      exact absurd h_1 (Nat.not_lt_zero _)
    have h_1 : ¬ (q < 0) := fun z => h_1 ((am_nlt0 (by omega)).mpr z)
    refine am_run 3 (pc' := 9) (ls' := [some (.ref 42), some (.int (nI q))]) (st' := [.int ((μ, τ).1 42 1), .int (nI q)]) (σ' := (μ, τ)) rfl ?_
    refine am_top (v' := nI L) x2 ?_
    refine am_ic (ty := 12) (tn := 30) rfl (by decide) rfl rfl (fun (h_2 : nI q < nI L) => ?_) (fun (h_2 : ¬ (nI q < nI L)) => ?_)
    rotate_left
    · have h_2 : ¬ (q < L) := fun z => h_2 ((nI_ltI (by omega) (by omega)).mpr z)
      omega
    have h_2 : q < L := (nI_ltI (by omega) (by omega)).mp h_2
    refine am_run 4 (pc' := 18) (ls' := [some (.ref 42), some (.int (nI q))]) (st' := [.int (nI 120), .int (nI q)]) (σ' := (μ, τ)) rfl ?_
    refine am_ic (ty := 21) (tn := 30) rfl (by decide) rfl rfl (fun (h_3 : nI q < nI 120) => ?_) (fun (h_3 : ¬ (nI q < nI 120)) => ?_)
    rotate_left
    · have h_3 : ¬ (q < 120) := fun z => h_3 ((nI_ltI (by omega) (by omega)).mpr z)
      omega
    have h_3 : q < 120 := (nI_ltI (by omega) (by omega)).mp h_3
    refine am_run 3 (pc' := 26) (ls' := [some (.ref 42), some (.int (nI q))]) (st' := [.int (nI q), .ref 43]) (σ' := (μ, τ)) rfl ?_
    refine am_ialdN (n := 120) (v := nI (tx q)) rfl rfl rfl (by omega) x4 (by decide) ?_
    refine am_run 1 (pc' := 31) (ls' := [some (.ref 42), some (.int (nI q))]) (st' := [.int (nI (tx q))]) (σ' := (μ, τ)) rfl ?_
    refine am_reti rfl rfl ?_
    exact hq
  · rw [show tk tx L q = 256 from if_neg h, show tI 256 = -1 from rfl] at hq
    refine am_enter' (M := M_X7_byteAt) rfl rfl rfl (by omega) (ls := [some (.ref 42), some (.int (nI q))]) rfl (fun d' hd' => ?_)
    refine am_run 1 (pc' := 1) (ls' := [some (.ref 42), some (.int (nI q))]) (st' := [.int (nI q)]) (σ' := (μ, τ)) rfl ?_
    refine am_if (ty := 30) (tn := 4) rfl (by decide) rfl rfl (fun (h_1 : nI q < 0) => ?_) (fun (h_1 : ¬ (nI q < 0)) => ?_)
    · have h_1 : q < 0 := (am_nlt0 (by omega)).mp h_1
      exact absurd h_1 (Nat.not_lt_zero _)
    have h_1 : ¬ (q < 0) := fun z => h_1 ((am_nlt0 (by omega)).mpr z)
    refine am_run 3 (pc' := 9) (ls' := [some (.ref 42), some (.int (nI q))]) (st' := [.int ((μ, τ).1 42 1), .int (nI q)]) (σ' := (μ, τ)) rfl ?_
    refine am_top (v' := nI L) x2 ?_
    refine am_ic (ty := 12) (tn := 30) rfl (by decide) rfl rfl (fun (h_2 : nI q < nI L) => ?_) (fun (h_2 : ¬ (nI q < nI L)) => ?_)
    · have h_2 : q < L := (nI_ltI (by omega) (by omega)).mp h_2
      omega
    have h_2 : ¬ (q < L) := fun z => h_2 ((nI_ltI (by omega) (by omega)).mpr z)
    refine am_run 1 (pc' := 31) (ls' := [some (.ref 42), some (.int (nI q))]) (st' := [.int (-1)]) (σ' := (μ, τ)) rfl ?_
    refine am_reti rfl rfl ?_
    exact hq
set_option maxRecDepth 10000 in
set_option maxHeartbeats 2000000 in
theorem c_byteAt_f {d : Nat} (hd : 1 ≤ d) {μ : Nat → Nat → Int32} {τ : Nat → Nat → Nat} {L : Nat} {tx : Nat → Nat} (hX : XC μ L tx) {y : Int32} {Q : am_Q} (hq : ∀ v, Q (some (.int v)) (μ, τ)) : am_C d 98 [.ref 42, .int y] (μ, τ) Q := by
  by_cases h : y < 0
  · skip
    refine am_enter' (M := M_X7_byteAt) rfl rfl rfl (by omega) (ls := [some (.ref 42), some (.int y)]) rfl (fun d' hd' => ?_)
    refine am_run 1 (pc' := 1) (ls' := [some (.ref 42), some (.int y)]) (st' := [.int y]) (σ' := (μ, τ)) rfl ?_
    refine am_if (ty := 30) (tn := 4) rfl (by decide) rfl rfl (fun (h_1 : y < 0) => ?_) (fun (h_1 : ¬ (y < 0)) => ?_)
    rotate_left
    · exact absurd h h_1
    refine am_run 1 (pc' := 31) (ls' := [some (.ref 42), some (.int y)]) (st' := [.int (-1)]) (σ' := (μ, τ)) rfl ?_
    refine am_reti rfl rfl ?_
    exact hq _
  · obtain ⟨q, hq31, rfl⟩ := i32_nat h
    obtain ⟨x1, x2, x3⟩ := id hX
    by_cases hL : q < L
    · skip
      refine am_enter' (M := M_X7_byteAt) rfl rfl rfl (by omega) (ls := [some (.ref 42), some (.int (nI q))]) rfl (fun d' hd' => ?_)
      refine am_run 1 (pc' := 1) (ls' := [some (.ref 42), some (.int (nI q))]) (st' := [.int (nI q)]) (σ' := (μ, τ)) rfl ?_
      refine am_if (ty := 30) (tn := 4) rfl (by decide) rfl rfl (fun (h_1 : nI q < 0) => ?_) (fun (h_1 : ¬ (nI q < 0)) => ?_)
      · have h_1 : q < 0 := (am_nlt0 (by omega)).mp h_1
        exact absurd h_1 (Nat.not_lt_zero _)
      have h_1 : ¬ (q < 0) := fun z => h_1 ((am_nlt0 (by omega)).mpr z)
      refine am_run 3 (pc' := 9) (ls' := [some (.ref 42), some (.int (nI q))]) (st' := [.int ((μ, τ).1 42 1), .int (nI q)]) (σ' := (μ, τ)) rfl ?_
      refine am_top (v' := nI L) x2 ?_
      refine am_ic (ty := 12) (tn := 30) rfl (by decide) rfl rfl (fun (h_2 : nI q < nI L) => ?_) (fun (h_2 : ¬ (nI q < nI L)) => ?_)
      rotate_left
      · have h_2 : ¬ (q < L) := fun z => h_2 ((nI_ltI (by omega) (by omega)).mpr z)
        omega
      have h_2 : q < L := (nI_ltI (by omega) (by omega)).mp h_2
      refine am_run 4 (pc' := 18) (ls' := [some (.ref 42), some (.int (nI q))]) (st' := [.int (nI 120), .int (nI q)]) (σ' := (μ, τ)) rfl ?_
      refine am_ic (ty := 21) (tn := 30) rfl (by decide) rfl rfl (fun (h_3 : nI q < nI 120) => ?_) (fun (h_3 : ¬ (nI q < nI 120)) => ?_)
      rotate_left
      · have h_3 : ¬ (q < 120) := fun z => h_3 ((nI_ltI (by omega) (by omega)).mpr z)
        omega
      have h_3 : q < 120 := (nI_ltI (by omega) (by omega)).mp h_3
      refine am_run 3 (pc' := 26) (ls' := [some (.ref 42), some (.int (nI q))]) (st' := [.int (nI q), .ref 43]) (σ' := (μ, τ)) rfl ?_
      refine am_ialdN (n := 120) (v := (μ, τ).1 43 q) rfl rfl rfl (by omega) rfl (by decide) ?_
      refine am_run 1 (pc' := 31) (ls' := [some (.ref 42), some (.int (nI q))]) (st' := [.int ((μ, τ).1 43 q)]) (σ' := (μ, τ)) rfl ?_
      refine am_reti rfl rfl ?_
      exact hq _
    · skip
      refine am_enter' (M := M_X7_byteAt) rfl rfl rfl (by omega) (ls := [some (.ref 42), some (.int (nI q))]) rfl (fun d' hd' => ?_)
      refine am_run 1 (pc' := 1) (ls' := [some (.ref 42), some (.int (nI q))]) (st' := [.int (nI q)]) (σ' := (μ, τ)) rfl ?_
      refine am_if (ty := 30) (tn := 4) rfl (by decide) rfl rfl (fun (h_1 : nI q < 0) => ?_) (fun (h_1 : ¬ (nI q < 0)) => ?_)
      · have h_1 : q < 0 := (am_nlt0 (by omega)).mp h_1
        exact absurd h_1 (Nat.not_lt_zero _)
      have h_1 : ¬ (q < 0) := fun z => h_1 ((am_nlt0 (by omega)).mpr z)
      refine am_run 3 (pc' := 9) (ls' := [some (.ref 42), some (.int (nI q))]) (st' := [.int ((μ, τ).1 42 1), .int (nI q)]) (σ' := (μ, τ)) rfl ?_
      refine am_top (v' := nI L) x2 ?_
      refine am_ic (ty := 12) (tn := 30) rfl (by decide) rfl rfl (fun (h_2 : nI q < nI L) => ?_) (fun (h_2 : ¬ (nI q < nI L)) => ?_)
      · have h_2 : q < L := (nI_ltI (by omega) (by omega)).mp h_2
        omega
      have h_2 : ¬ (q < L) := fun z => h_2 ((nI_ltI (by omega) (by omega)).mpr z)
      refine am_run 1 (pc' := 31) (ls' := [some (.ref 42), some (.int (nI q))]) (st' := [.int (-1)]) (σ' := (μ, τ)) rfl ?_
      refine am_reti rfl rfl ?_
      exact hq _
set_option maxRecDepth 10000 in
set_option maxHeartbeats 2000000 in
theorem c_look_loop {d : Nat} (hd : 1 ≤ d) {μ0 : Nat → Nat → Int32} {τ : Nat → Nat → Nat} {L : Nat} {tx : Nat → Nat} (hX0 : XC μ0 L tx) {Q : am_Q} : ∀ (m k q : Nat) (μ : Nat → Nat → Int32), k + m = 120 → q ≤ L → (∀ c, c ≠ 44 → μ c = μ0 c) → (∀ f, f ≠ 2 → μ 44 f = μ0 44 f) → μ 44 2 = nI q → (∀ μ', (∀ c, c ≠ 44 → μ' c = μ0 c) → (∀ f, f ≠ 2 → μ' 44 f = μ0 44 f) → μ' 44 2 = nI (skp tx L m q) → Q (some (.int (tI (tk tx L (skp tx L m q))))) (μ', τ)) → am_G d M_X6_look Q 2 [some (.ref 44), some (.int (nI k))] [] (μ, τ)
  | 0, k, q, μ, hm, hqL, h1, h2, h3, hq => by
    have hX : XC μ L tx := by unfold XC; rw [h1 42 (by decide), h1 43 (by decide)]; exact hX0
    have hL := hX.1
    have e : k = 120 := by omega
    subst e
    refine am_run 2 (pc' := 5) (ls' := [some (.ref 44), some (.int (nI 120))]) (st' := [.int (nI 120), .int (nI 120)]) (σ' := (μ, τ)) rfl ?_
    refine am_ic (ty := 8) (tn := 40) rfl (by decide) rfl rfl (fun (h_1 : nI 120 < nI 120) => ?_) (fun (h_1 : ¬ (nI 120 < nI 120)) => ?_)
    · exact absurd h_1 (by decide)
    refine am_run 4 (pc' := 48) (ls' := [some (.ref 44), some (.int (nI 120))]) (st' := [.int ((μ, τ).1 44 2), .ref 42]) (σ' := (μ, τ)) rfl ?_
    refine am_top (v' := nI q) h3 ?_
    refine am_invv (y := 98) (b := 42) (as := [.int (nI q)]) (rest := []) rfl rfl rfl rfl rfl rfl rfl (Nat.le_of_ble_eq_true rfl) ?_
    refine c_byteAt (by omega) (hX) (q := q) (by omega) ?_
    show am_G _ M_X6_look _ 51 [some (.ref 44), some (.int (nI 120))] [.int (tI (tk tx L (q)))] (μ, τ)
    refine am_reti rfl rfl ?_
    exact hq μ h1 h2 h3
  | m + 1, k, q, μ, hm, hqL, h1, h2, h3, hq => by
    have hX : XC μ L tx := by unfold XC; rw [h1 42 (by decide), h1 43 (by decide)]; exact hX0
    have hL := hX.1
    obtain ⟨k1, k2, k3⟩ := tk_le hX q
    by_cases hb : q < L ∧ tx q = 32
    · rw [show skp tx L (m + 1) q = skp tx L m (q + 1) from if_pos hb] at hq
      have ek : tk tx L q = 32 := (k3 hb.1).1.trans hb.2
      refine am_run 2 (pc' := 5) (ls' := [some (.ref 44), some (.int (nI k))]) (st' := [.int (nI 120), .int (nI k)]) (σ' := (μ, τ)) rfl ?_
      refine am_ic (ty := 8) (tn := 40) rfl (by decide) rfl rfl (fun (h_1 : nI k < nI 120) => ?_) (fun (h_1 : ¬ (nI k < nI 120)) => ?_)
      rotate_left
      · have h_1 : ¬ (k < 120) := fun z => h_1 ((nI_ltI (by omega) (by omega)).mpr z)
        omega
      have h_1 : k < 120 := (nI_ltI (by omega) (by omega)).mp h_1
      refine am_run 4 (pc' := 16) (ls' := [some (.ref 44), some (.int (nI k))]) (st' := [.int ((μ, τ).1 44 2), .ref 42]) (σ' := (μ, τ)) rfl ?_
      refine am_top (v' := nI q) h3 ?_
      refine am_invv (y := 98) (b := 42) (as := [.int (nI q)]) (rest := []) rfl rfl rfl rfl rfl rfl rfl (Nat.le_of_ble_eq_true rfl) ?_
      refine c_byteAt (by omega) (hX) (q := q) (by omega) ?_
      show am_G _ M_X6_look _ 19 [some (.ref 44), some (.int (nI k))] [.int (tI (tk tx L (q)))] (μ, τ)
      refine am_run 1 (pc' := 21) (ls' := [some (.ref 44), some (.int (nI k))]) (st' := [.int (nI 32), .int (tI (tk tx L (q)))]) (σ' := (μ, τ)) rfl ?_
      refine am_ic (ty := 24) (tn := 40) rfl (by decide) rfl rfl (fun (h_2 : tI (tk tx L (q)) = nI 32) => ?_) (fun (h_2 : ¬ (tI (tk tx L (q)) = nI 32)) => ?_)
      rotate_left
      · exact absurd ((tI_eq k1 (by decide)).mpr ek) h_2
      refine am_run 3 (pc' := 29) (ls' := [some (.ref 44), some (.int (nI k))]) (st' := [.int ((μ, τ).1 44 2), .ref 44]) (σ' := (μ, τ)) rfl ?_
      refine am_top (v' := nI q) h3 ?_
      refine am_run 2 (pc' := 31) (ls' := [some (.ref 44), some (.int (nI k))]) (st' := [.int (nI q + nI 1), .ref 44]) (σ' := (μ, τ)) rfl ?_
      refine am_top (v' := nI (q + 1)) (nI_add _ _) ?_
      refine am_run 2 (pc' := 37) (ls' := [some (.ref 44), some (.int (nI k + nI 1))]) (st' := []) (σ' := (am_wr (μ, τ) 44 2 (nI (q + 1)))) rfl ?_
      refine am_ls (ls' := [some (.ref 44), some (.int (nI (k + 1)))]) (by rw [nI_add]) ?_
      refine am_run 1 (pc' := 2) (ls' := [some (.ref 44), some (.int (nI (k + 1)))]) (st' := []) (σ' := (am_wr (μ, τ) 44 2 (nI (q + 1)))) rfl ?_
      exact c_look_loop hd hX0 m (k + 1) (q + 1) (am_wr (μ, τ) 44 2 (nI (q + 1))).1 (by omega) (by omega) (fun c hc => by rw [am_wr_ne _ hc]; exact h1 c hc) (fun f hf => by rw [am_diff _ _ _ _ _ hf]; exact h2 f hf) (am_same _ _ _ _) hq
    · rw [show skp tx L (m + 1) q = q from if_neg hb] at hq
      have ek : ¬ tk tx L q = 32 := fun z => by have z2 := k2 (by omega); exact hb ⟨z2, by rw [← (k3 z2).1]; exact z⟩
      refine am_run 2 (pc' := 5) (ls' := [some (.ref 44), some (.int (nI k))]) (st' := [.int (nI 120), .int (nI k)]) (σ' := (μ, τ)) rfl ?_
      refine am_ic (ty := 8) (tn := 40) rfl (by decide) rfl rfl (fun (h_1 : nI k < nI 120) => ?_) (fun (h_1 : ¬ (nI k < nI 120)) => ?_)
      rotate_left
      · have h_1 : ¬ (k < 120) := fun z => h_1 ((nI_ltI (by omega) (by omega)).mpr z)
        omega
      have h_1 : k < 120 := (nI_ltI (by omega) (by omega)).mp h_1
      refine am_run 4 (pc' := 16) (ls' := [some (.ref 44), some (.int (nI k))]) (st' := [.int ((μ, τ).1 44 2), .ref 42]) (σ' := (μ, τ)) rfl ?_
      refine am_top (v' := nI q) h3 ?_
      refine am_invv (y := 98) (b := 42) (as := [.int (nI q)]) (rest := []) rfl rfl rfl rfl rfl rfl rfl (Nat.le_of_ble_eq_true rfl) ?_
      refine c_byteAt (by omega) (hX) (q := q) (by omega) ?_
      show am_G _ M_X6_look _ 19 [some (.ref 44), some (.int (nI k))] [.int (tI (tk tx L (q)))] (μ, τ)
      refine am_run 1 (pc' := 21) (ls' := [some (.ref 44), some (.int (nI k))]) (st' := [.int (nI 32), .int (tI (tk tx L (q)))]) (σ' := (μ, τ)) rfl ?_
      refine am_ic (ty := 24) (tn := 40) rfl (by decide) rfl rfl (fun (h_2 : tI (tk tx L (q)) = nI 32) => ?_) (fun (h_2 : ¬ (tI (tk tx L (q)) = nI 32)) => ?_)
      · exact absurd ((tI_eq k1 (by decide)).mp h_2) ek
      refine am_run 4 (pc' := 48) (ls' := [some (.ref 44), some (.int (nI k))]) (st' := [.int ((μ, τ).1 44 2), .ref 42]) (σ' := (μ, τ)) rfl ?_
      refine am_top (v' := nI q) h3 ?_
      refine am_invv (y := 98) (b := 42) (as := [.int (nI q)]) (rest := []) rfl rfl rfl rfl rfl rfl rfl (Nat.le_of_ble_eq_true rfl) ?_
      refine c_byteAt (by omega) (hX) (q := q) (by omega) ?_
      show am_G _ M_X6_look _ 51 [some (.ref 44), some (.int (nI k))] [.int (tI (tk tx L (q)))] (μ, τ)
      refine am_reti rfl rfl ?_
      exact hq μ h1 h2 h3
set_option maxRecDepth 10000 in
set_option maxHeartbeats 2000000 in
theorem c_look0 {d : Nat} (hd : 2 ≤ d) {μ : Nat → Nat → Int32} {τ : Nat → Nat → Nat} {L : Nat} {tx : Nat → Nat} (hX : XC μ L tx) {q : Nat} (hqL : q ≤ L) (h3 : μ 44 2 = nI q) {Q : am_Q} (hq : ∀ μ', (∀ c, c ≠ 44 → μ' c = μ c) → (∀ f, f ≠ 2 → μ' 44 f = μ 44 f) → μ' 44 2 = nI (lk tx L q) → Q (some (.int (tI (tk tx L (lk tx L q))))) (μ', τ)) : am_C d 85 [.ref 44] (μ, τ) Q := by
  refine am_enter' (M := M_X6_look) rfl rfl rfl (by omega) (ls := [some (.ref 44), none]) rfl (fun d' hd' => ?_)
  refine am_run 2 (pc' := 2) (ls' := [some (.ref 44), some (.int (nI 0))]) (st' := []) (σ' := (μ, τ)) rfl ?_
  exact c_look_loop (by omega) hX 120 0 q μ rfl hqL (fun _ _ => rfl) (fun _ _ => rfl) h3 hq
set_option maxRecDepth 10000 in
set_option maxHeartbeats 2000000 in
theorem c_look_loop_f {d : Nat} (hd : 1 ≤ d) {μ0 : Nat → Nat → Int32} {τ : Nat → Nat → Nat} {L : Nat} {tx : Nat → Nat} (hX0 : XC μ0 L tx) {Q : am_Q} (hq : ∀ μ' v, (∀ c, c ≠ 44 → μ' c = μ0 c) → (∀ f, f ≠ 2 → μ' 44 f = μ0 44 f) → Q (some (.int v)) (μ', τ)) : ∀ (m k : Nat) (μ : Nat → Nat → Int32), k + m = 120 → (∀ c, c ≠ 44 → μ c = μ0 c) → (∀ f, f ≠ 2 → μ 44 f = μ0 44 f) → am_G d M_X6_look Q 2 [some (.ref 44), some (.int (nI k))] [] (μ, τ)
  | 0, k, μ, hm, h1, h2 => by
    have hX : XC μ L tx := by unfold XC; rw [h1 42 (by decide), h1 43 (by decide)]; exact hX0
    have hL := hX.1
    have e : k = 120 := by omega
    subst e
    refine am_run 2 (pc' := 5) (ls' := [some (.ref 44), some (.int (nI 120))]) (st' := [.int (nI 120), .int (nI 120)]) (σ' := (μ, τ)) rfl ?_
    refine am_ic (ty := 8) (tn := 40) rfl (by decide) rfl rfl (fun (h_1 : nI 120 < nI 120) => ?_) (fun (h_1 : ¬ (nI 120 < nI 120)) => ?_)
    · exact absurd h_1 (by decide)
    refine am_run 4 (pc' := 48) (ls' := [some (.ref 44), some (.int (nI 120))]) (st' := [.int ((μ, τ).1 44 2), .ref 42]) (σ' := (μ, τ)) rfl ?_
    refine am_invv (y := 98) (b := 42) (as := [.int ((μ, τ).1 44 2)]) (rest := []) rfl rfl rfl rfl rfl rfl rfl (Nat.le_of_ble_eq_true rfl) ?_
    refine c_byteAt_f (by omega) hX (fun v_2 => ?_)
    show am_G _ M_X6_look _ 51 [some (.ref 44), some (.int (nI 120))] [.int v_2] (μ, τ)
    refine am_reti rfl rfl ?_
    exact hq μ _ h1 h2
  | m + 1, k, μ, hm, h1, h2 => by
    have hX : XC μ L tx := by unfold XC; rw [h1 42 (by decide), h1 43 (by decide)]; exact hX0
    have hL := hX.1
    refine am_run 2 (pc' := 5) (ls' := [some (.ref 44), some (.int (nI k))]) (st' := [.int (nI 120), .int (nI k)]) (σ' := (μ, τ)) rfl ?_
    refine am_ic (ty := 8) (tn := 40) rfl (by decide) rfl rfl (fun (h_1 : nI k < nI 120) => ?_) (fun (h_1 : ¬ (nI k < nI 120)) => ?_)
    rotate_left
    · have h_1 : ¬ (k < 120) := fun z => h_1 ((nI_ltI (by omega) (by omega)).mpr z)
      omega
    have h_1 : k < 120 := (nI_ltI (by omega) (by omega)).mp h_1
    refine am_run 4 (pc' := 16) (ls' := [some (.ref 44), some (.int (nI k))]) (st' := [.int ((μ, τ).1 44 2), .ref 42]) (σ' := (μ, τ)) rfl ?_
    refine am_invv (y := 98) (b := 42) (as := [.int ((μ, τ).1 44 2)]) (rest := []) rfl rfl rfl rfl rfl rfl rfl (Nat.le_of_ble_eq_true rfl) ?_
    refine c_byteAt_f (by omega) hX (fun v_2 => ?_)
    show am_G _ M_X6_look _ 19 [some (.ref 44), some (.int (nI k))] [.int v_2] (μ, τ)
    refine am_run 1 (pc' := 21) (ls' := [some (.ref 44), some (.int (nI k))]) (st' := [.int (nI 32), .int v_2]) (σ' := (μ, τ)) rfl ?_
    refine am_ic (ty := 24) (tn := 40) rfl (by decide) rfl rfl (fun (h_3 : v_2 = nI 32) => ?_) (fun (h_3 : ¬ (v_2 = nI 32)) => ?_)
    · refine am_run 7 (pc' := 37) (ls' := [some (.ref 44), some (.int (nI k + nI 1))]) (st' := []) (σ' := (am_wr (μ, τ) 44 2 (((μ, τ).1 44 2) + nI 1))) rfl ?_
      refine am_ls (ls' := [some (.ref 44), some (.int (nI (k + 1)))]) (by rw [nI_add]) ?_
      refine am_run 1 (pc' := 2) (ls' := [some (.ref 44), some (.int (nI (k + 1)))]) (st' := []) (σ' := (am_wr (μ, τ) 44 2 (((μ, τ).1 44 2) + nI 1))) rfl ?_
      exact c_look_loop_f hd hX0 hq m (k + 1) (am_wr (μ, τ) 44 2 (μ 44 2 + nI 1)).1 (by omega) (fun c hc => by rw [am_wr_ne _ hc]; exact h1 c hc) (fun f hf => by rw [am_diff _ _ _ _ _ hf]; exact h2 f hf)
    · refine am_run 4 (pc' := 48) (ls' := [some (.ref 44), some (.int (nI k))]) (st' := [.int ((μ, τ).1 44 2), .ref 42]) (σ' := (μ, τ)) rfl ?_
      refine am_invv (y := 98) (b := 42) (as := [.int ((μ, τ).1 44 2)]) (rest := []) rfl rfl rfl rfl rfl rfl rfl (Nat.le_of_ble_eq_true rfl) ?_
      refine c_byteAt_f (by omega) hX (fun v_4 => ?_)
      show am_G _ M_X6_look _ 51 [some (.ref 44), some (.int (nI k))] [.int v_4] (μ, τ)
      refine am_reti rfl rfl ?_
      exact hq μ _ h1 h2
set_option maxRecDepth 10000 in
set_option maxHeartbeats 2000000 in
theorem c_look_f {d : Nat} (hd : 2 ≤ d) {μ : Nat → Nat → Int32} {τ : Nat → Nat → Nat} {t L k fp : Nat} {tx : Nat → Nat} (hX : XC μ L tx) (hF : FR μ k fp) {Q : am_Q} (hq : ∀ μ' v, KC μ μ' t → FR μ' k fp → Q (some (.int v)) (μ', τ)) : am_C d 85 [.ref 44] (μ, τ) Q := by
  refine am_enter' (M := M_X6_look) rfl rfl rfl (by omega) (ls := [some (.ref 44), none]) rfl (fun d' hd' => ?_)
  refine am_run 2 (pc' := 2) (ls' := [some (.ref 44), some (.int (nI 0))]) (st' := []) (σ' := (μ, τ)) rfl ?_
  refine c_look_loop_f (by omega) hX (fun μ' v k1 k2 => hq μ' v (fun c a _ => k1 c a) ?_) 120 0 μ rfl (fun _ _ => rfl) (fun _ _ => rfl)
  unfold FR
  rw [k2 3 (by decide), k2 4 (by decide)]
  exact hF

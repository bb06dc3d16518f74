/-! THE SMALL MACHINE. Its heap is a function (cell, place) to int and a function (cell, field) to cell for the few references that change; 88 cells: the class's objects and the reference's. am_T: 'from here the method comes to its end with Q' as a least fixed point over instructions; am_C: a call of at most d levels. Part 04 shows: what holds of am_C holds of the JVM (Met). -/
def am_up (f : Nat → Nat → Int32) (c k : Nat) (x : Int32) : Nat → Nat → Int32 := fun c' => if c' = c then upd (f c) k x else f c'
def am_wr (σ : am_M) (c k : Nat) (x : Int32) : am_M := (am_up σ.1 c k x, σ.2)
def am_wrR (σ : am_M) (c k x : Nat) : am_M := (σ.1, fun c' k' => if c' = c ∧ k' = k then x else σ.2 c' k')
def am_cp (σ : am_M) (c0 c1 sp dp n : Nat) : am_M := (fun c' => if c' = c1 then va_cpy (σ.1 c0) (σ.1 c1) sp dp n else σ.1 c', σ.2)
def am_k : Int → Int32
  | .ofNat n => nI n
  | .negSucc 0 => -1
  | .negSucc n => Int32.ofInt (.negSucc n)
def am_tg (pc : Nat) (off : Int) : Nat := ((pc : Int) + off).toNat
def am_get (σ : am_M) (c k : Nat) : Value := match am_ft (am_kind c) k with
  | 0 => .int (σ.1 c k)
  | 1 => .int (σ.1 c k)
  | 2 => .ref (am_fr c k)
  | _ => .ref (σ.2 c k)
def am_put (σ : am_M) (c k : Nat) (v : Value) : Option am_M := match am_ft (am_kind c) k, v with
  | 0, .int x => some (am_wr σ c k x)
  | 1, .int x => if x = 0 ∨ x = 1 then some (am_wr σ c k x) else none
  | 3, .ref t => some (am_wrR σ c k t)
  | _, _ => none
abbrev am_R : Type := Option (Nat × am_L × List Value × am_M)
def am_ld (ls : am_L) (i : Nat) : Option Value := (ls.getD i none)
/-- the instructions that go straight on -/
def am_s1 (w : Nat) (i : Instr) (pc : Nat) (ls : am_L) (st : List Value) (σ : am_M) : am_R :=
  match i with
  | .iconst n => some (pc + 1, ls, .int (am_k n) :: st, σ)
  | .bipush n => if -128 ≤ n ∧ n < 128 then some (pc + 2, ls, .int (am_k n) :: st, σ) else none
  | .sipush n => if -32768 ≤ n ∧ n < 32768 then some (pc + 3, ls, .int (am_k n) :: st, σ) else none
  | .ldc idx => match am_cst w idx with
    | some v => some (pc + 2, ls, .int v.1 :: st, σ)
    | none => none
  | .ldc_w idx => match am_cst w idx with
    | some v => some (pc + 3, ls, .int v.1 :: st, σ)
    | none => none
  | .iload_n n => match am_ld ls n.val with
    | some (.int x) => some (pc + 1, ls, .int x :: st, σ)
    | _ => none
  | .iload n => match am_ld ls n with
    | some (.int x) => some (pc + 2, ls, .int x :: st, σ)
    | _ => none
  | .aload_n n => match am_ld ls n.val with
    | some (.ref x) => some (pc + 1, ls, .ref x :: st, σ)
    | some .null => some (pc + 1, ls, .null :: st, σ)
    | _ => none
  | .aload n => match am_ld ls n with
    | some (.ref x) => some (pc + 2, ls, .ref x :: st, σ)
    | some .null => some (pc + 2, ls, .null :: st, σ)
    | _ => none
  | .istore_n n => match st with
    | .int x :: r => if n.val < ls.length then some (pc + 1, ls.set n.val (some (.int x)), r, σ) else none
    | _ => none
  | .istore n => match st with
    | .int x :: r => if n < ls.length then some (pc + 2, ls.set n (some (.int x)), r, σ) else none
    | _ => none
  | .astore_n n => match st with
    | .ref x :: r => if n.val < ls.length then some (pc + 1, ls.set n.val (some (.ref x)), r, σ) else none
    | .null :: r => if n.val < ls.length then some (pc + 1, ls.set n.val (some .null), r, σ) else none
    | _ => none
  | .astore n => match st with
    | .ref x :: r => if n < ls.length then some (pc + 2, ls.set n (some (.ref x)), r, σ) else none
    | .null :: r => if n < ls.length then some (pc + 2, ls.set n (some .null), r, σ) else none
    | _ => none
  | .iinc n k => match am_ld ls n with
    | some (.int x) => some (pc + 3, ls.set n (some (.int (x + am_k k))), st, σ)
    | _ => none
  | .dup => match st with
    | .int x :: r => some (pc + 1, ls, .int x :: .int x :: r, σ)
    | .ref x :: r => some (pc + 1, ls, .ref x :: .ref x :: r, σ)
    | _ => none
  | .dup2 => match st with
    | .int x :: .ref y :: r => some (pc + 1, ls, .int x :: .ref y :: .int x :: .ref y :: r, σ)
    | _ => none
  | .pop => match st with
    | .int _ :: r => some (pc + 1, ls, r, σ)
    | .ref _ :: r => some (pc + 1, ls, r, σ)
    | _ => none
  | .iadd => match st with
    | .int y :: .int x :: r => some (pc + 1, ls, .int (x + y) :: r, σ)
    | _ => none
  | .isub => match st with
    | .int y :: .int x :: r => some (pc + 1, ls, .int (x - y) :: r, σ)
    | _ => none
  | .imul => match st with
    | .int y :: .int x :: r => some (pc + 1, ls, .int (x * y) :: r, σ)
    | _ => none
  | .idiv => match st with
    | .int y :: .int x :: r => if y = 0 then none else some (pc + 1, ls, .int (x / y) :: r, σ)
    | _ => none
  | .irem => match st with
    | .int y :: .int x :: r => if y = 0 then none else some (pc + 1, ls, .int (x - x / y * y) :: r, σ)
    | _ => none
  | .ineg => match st with
    | .int x :: r => some (pc + 1, ls, .int (-x) :: r, σ)
    | _ => none
  | .iand => match st with
    | .int y :: .int x :: r => some (pc + 1, ls, .int (x &&& y) :: r, σ)
    | _ => none
  | .ior => match st with
    | .int y :: .int x :: r => some (pc + 1, ls, .int (x ||| y) :: r, σ)
    | _ => none
  | .ixor => match st with
    | .int y :: .int x :: r => some (pc + 1, ls, .int (x ^^^ y) :: r, σ)
    | _ => none
  | .ishl => match st with
    | .int y :: .int x :: r => some (pc + 1, ls, .int (x <<< (y &&& 31)) :: r, σ)
    | _ => none
  | .ishr => match st with
    | .int y :: .int x :: r => some (pc + 1, ls, .int (x >>> (y &&& 31)) :: r, σ)
    | _ => none
  | .iushr => match st with
    | .int y :: .int x :: r => some (pc + 1, ls, .int (x.toUInt32 >>> (y.toUInt32 &&& Int32.toUInt32 31)).toInt32 :: r, σ)
    | _ => none
  | .goto off => if 0 ≤ (pc : Int) + off then some (am_tg pc off, ls, st, σ) else none
  | .ifnull off => match st with
    | .ref _ :: r => some (pc + 3, ls, r, σ)
    | .null :: r => if 0 ≤ (pc : Int) + off then some (am_tg pc off, ls, r, σ) else none
    | _ => none
  | .ifnonnull off => match st with
    | .null :: r => some (pc + 3, ls, r, σ)
    | .ref _ :: r => if 0 ≤ (pc : Int) + off then some (am_tg pc off, ls, r, σ) else none
    | _ => none
  | .aconst_null => some (pc + 1, ls, .null :: st, σ)
  | .getfield idx => match st with
    | .ref c :: r => match am_fld w idx with
      | some k => if am_kind c = am_ci w then some (pc + 3, ls, am_get σ c k.1 :: r, σ) else none
      | none => none
    | _ => none
  | .putfield idx => match st with
    | v :: .ref c :: r => match am_fld w idx with
      | some k => if am_kind c = am_ci w then (match am_put σ c k.1 v with
        | some σ' => some (pc + 3, ls, r, σ')
        | none => none) else none
      | none => none
    | _ => none
  | .arraylength => match st with
    | .ref c :: r => if am_kind c = 100 ∨ am_kind c = 101 then some (pc + 1, ls, .int (nI (am_len c)) :: r, σ) else none
    | _ => none
  | _ => none
/-- the places at which a call of arraycopy stands -/
def am_ac (w idx : Nat) : Bool := w == 4 && idx == 37
/-- the call of a private method of a nest mate -/
def am_mn (w idx : Nat) : Bool := w == 2 && idx == 94
abbrev am_Q : Type := Option Value → am_M → Prop
abbrev am_X : Type := Nat → am_L → List Value → am_M → Prop
def am_cmp (c : Jvm.ClassFile.Cond) (x y : Int32) : Prop := match c with
  | .eq => x = y
  | .ne => ¬ x = y
  | .lt => x < y
  | .ge => y ≤ x
  | .gt => y < x
  | .le => x ≤ y
def am_mx (b : Bool) (x y : Int32) : Int32 := if b then (if x < y then y else x) else (if y < x then y else x)
def am_sw (X : am_X) (pc : Nat) (x : Int32) (d : Int) (ls : am_L) (st : List Value) (σ : am_M) : List (Int × Int) → Prop
  | [] => 0 ≤ (pc : Int) + d ∧ X (am_tg pc d) ls st σ
  | (a, o) :: r => (am_k a).toInt = a ∧ 0 ≤ (pc : Int) + o ∧ (x = am_k a → X (am_tg pc o) ls st σ) ∧ (¬ x = am_k a → am_sw X pc x d ls st σ r)
def am_tb (lo : Int) : List Int → List (Int × Int)
  | [] => []
  | o :: r => (lo, o) :: am_tb (lo + 1) r
def am_wp (C : Nat → List Value → am_M → am_Q → Prop) (w : Nat) (ret : Option FieldType) (Q : am_Q) (X : am_X) (i : Instr) (pc : Nat) (ls : am_L) (st : List Value) (σ : am_M) : Prop :=
  match i with
  | .iaload => ∃ (j : Int32) (c : Nat) (r : List Value), st = .int j :: .ref c :: r ∧ am_kind c = 100 ∧ vp_in j (am_len c) ∧ X (pc + 1) ls (.int (σ.1 c j.toNatClampNeg) :: r) σ
  | .iastore => ∃ (x j : Int32) (c : Nat) (r : List Value), st = .int x :: .int j :: .ref c :: r ∧ am_kind c = 100 ∧ vp_in j (am_len c) ∧ X (pc + 1) ls r (am_wr σ c j.toNatClampNeg x)
  | .aaload => ∃ (j : Int32) (c : Nat) (r : List Value), st = .int j :: .ref c :: r ∧ am_kind c = 101 ∧ vp_in j (am_len c) ∧ X (pc + 1) ls (.ref (am_fr c j.toNatClampNeg) :: r) σ
  | .if_icmp cnd off => ∃ (y x : Int32) (r : List Value), st = .int y :: .int x :: r ∧ 0 ≤ (pc : Int) + off ∧ (am_cmp cnd x y → X (am_tg pc off) ls r σ) ∧ (¬ am_cmp cnd x y → X (pc + 3) ls r σ)
  | .ifCond cnd off => ∃ (x : Int32) (r : List Value), st = .int x :: r ∧ 0 ≤ (pc : Int) + off ∧ (am_cmp cnd x 0 → X (am_tg pc off) ls r σ) ∧ (¬ am_cmp cnd x 0 → X (pc + 3) ls r σ)
  | .lookupswitch d ps => (ps.toList.zip (ps.toList.drop 1)).all (fun (a, next) => a.1 < next.1) = true ∧ ∃ (x : Int32) (r : List Value), st = .int x :: r ∧ am_sw X pc x d ls r σ ps.toList
  | .tableswitch d lo hi os => hi + 1 = lo + os.toList.length ∧ ∃ (x : Int32) (r : List Value), st = .int x :: r ∧ am_sw X pc x d ls r σ (am_tb lo os.toList)
  | .ireturn => ∃ (v : Int32) (ty : FieldType), st = [.int v] ∧ ret = some ty ∧ narrow ty (.int v) = .int v ∧ Q (some (.int v)) σ
  | .areturn => ∃ (v : Value) (n : String), st = [v] ∧ ret = some (.object n) ∧ (v = .null ∨ ∃ a, v = .ref a) ∧ Q (some v) σ
  | .return_ => st = [] ∧ ret = none ∧ Q none σ
  | .invokestatic idx => (∃ (n dp : Int32) (c1 : Nat) (sp : Int32) (c0 : Nat) (r : List Value), am_ac w idx = true ∧ st = .int n :: .int dp :: .ref c1 :: .int sp :: .ref c0 :: r ∧ am_kind c0 = 100 ∧ am_kind c1 = 100 ∧ ¬ sp < 0 ∧ ¬ dp < 0 ∧ ¬ n < 0 ∧ sp.toNatClampNeg + n.toNatClampNeg ≤ am_len c0 ∧ dp.toNatClampNeg + n.toNatClampNeg ≤ am_len c1 ∧ (r.map fun v => v.category).sum ≤ 8 ∧ X (pc + 3) ls r (am_cp σ c0 c1 sp.toNatClampNeg dp.toNatClampNeg n.toNatClampNeg)) ∨
      (∃ (b : Bool) (p : Nat) (y x : Int32) (r : List Value), am_mm w idx = some (b, p) ∧ st = .int y :: .int x :: r ∧ (r.map fun v => v.category).sum ≤ 8 ∧ X (pc + 3) ls (.int (am_mx b x y) :: r) σ) ∨
      (∃ (M : am_I) (as rest : List Value), am_mn w idx = true ∧ am_meth 11 = some M ∧ st = as.reverse ++ rest ∧ as.length = am_na M ∧ (rest.map fun v => v.category).sum ≤ 8 ∧ C 11 as σ (fun v σ' => X (pc + 3) ls (v.toList ++ rest) σ')) ∨
      ∃ (y : Nat × Nat) (M : am_I) (as rest : List Value), am_mth w idx = some y ∧ am_meth y.1 = some M ∧ am_st M = true ∧ st = as.reverse ++ rest ∧ as.length = am_na M ∧ (rest.map fun v => v.category).sum ≤ 8 ∧ C y.1 as σ (fun v σ' => X (pc + 3) ls (v.toList ++ rest) σ')
  | .invokevirtual idx => ∃ (y : Nat × Nat) (M : am_I) (b : Nat) (as rest : List Value), am_mth w idx = some y ∧ am_meth y.1 = some M ∧ am_st M = false ∧ st = as.reverse ++ .ref b :: rest ∧ as.length + 1 = am_na M ∧ am_kind b = am_ci (am_w M) ∧ (rest.map fun v => v.category).sum ≤ 8 ∧ C y.1 (.ref b :: as) σ (fun v σ' => X (pc + 3) ls (v.toList ++ rest) σ')
  | i => ∃ (pc' : Nat) (ls' : am_L) (st' : List Value) (σ' : am_M), am_s1 w i pc ls st σ = some (pc', ls', st', σ') ∧ X pc' ls' st' σ'
def am_F (C : Nat → List Value → am_M → am_Q → Prop) (M : am_I) (Q : am_Q) (X : am_X) (pc : Nat) (ls : am_L) (st : List Value) (σ : am_M) : Prop := ∃ i, am_lk (am_is M) pc = some i ∧ am_wp C (am_w M) (am_rt M) Q X i pc ls st σ
/-- from here the method comes to its end, with Q -/
def am_T (C : Nat → List Value → am_M → am_Q → Prop) (M : am_I) (Q : am_Q) (pc : Nat) (ls : am_L) (st : List Value) (σ : am_M) : Prop := ∀ X : am_X, (∀ pc ls st σ, am_F C M Q X pc ls st σ → X pc ls st σ) → X pc ls st σ
def am_en (M : am_I) (as : List Value) : am_L := as.map some ++ List.replicate (am_ml M - as.length) none
/-- a call: at most d levels deep -/
def am_C : Nat → Nat → List Value → am_M → am_Q → Prop
  | 0, _, _, _, _ => False
  | d + 1, y, as, σ, Q => ∃ M, am_meth y = some M ∧ as.length = am_na M ∧ as.all (fun v => v.category == 1) = true ∧ am_T (am_C d) M Q 0 (am_en M as) [] σ
theorem am_sw_mono {X Y : am_X} (h : ∀ pc ls st σ, X pc ls st σ → Y pc ls st σ) {pc : Nat} {x : Int32} {d : Int} {ls : am_L} {st : List Value} {σ : am_M} : ∀ {ps : List (Int × Int)}, am_sw X pc x d ls st σ ps → am_sw Y pc x d ls st σ ps
  | [], q => ⟨q.1, h _ _ _ _ q.2⟩
  | (_, _) :: _, q => ⟨q.1, q.2.1, fun e => h _ _ _ _ (q.2.2.1 e), fun e => am_sw_mono h (q.2.2.2 e)⟩
def am_mon (C : Nat → List Value → am_M → am_Q → Prop) : Prop := ∀ y as σ (Q Q' : am_Q), (∀ v σ', Q v σ' → Q' v σ') → C y as σ Q → C y as σ Q'
theorem am_wp_mono {C : Nat → List Value → am_M → am_Q → Prop} (hC : am_mon C) {w : Nat} {ret : Option FieldType} {Q Q' : am_Q} {X Y : am_X} (hQ : ∀ v σ, Q v σ → Q' v σ) (h : ∀ pc ls st σ, X pc ls st σ → Y pc ls st σ) {i : Instr} {pc : Nat} {ls : am_L} {st : List Value} {σ : am_M} (q : am_wp C w ret Q X i pc ls st σ) : am_wp C w ret Q' Y i pc ls st σ := by
  unfold am_wp at q ⊢
  split at q
  · obtain ⟨j, c, r, a1, a2, a3, a4⟩ := q; exact ⟨j, c, r, a1, a2, a3, h _ _ _ _ a4⟩
  · obtain ⟨x, j, c, r, a1, a2, a3, a4⟩ := q; exact ⟨x, j, c, r, a1, a2, a3, h _ _ _ _ a4⟩
  · obtain ⟨j, c, r, a1, a2, a3, a4⟩ := q; exact ⟨j, c, r, a1, a2, a3, h _ _ _ _ a4⟩
  · obtain ⟨y, x, r, a1, a2, a3, a4⟩ := q; exact ⟨y, x, r, a1, a2, fun e => h _ _ _ _ (a3 e), fun e => h _ _ _ _ (a4 e)⟩
  · obtain ⟨x, r, a1, a2, a3, a4⟩ := q; exact ⟨x, r, a1, a2, fun e => h _ _ _ _ (a3 e), fun e => h _ _ _ _ (a4 e)⟩
  · obtain ⟨a0, x, r, a1, a2⟩ := q; exact ⟨a0, x, r, a1, am_sw_mono h a2⟩
  · obtain ⟨a0, x, r, a1, a2⟩ := q; exact ⟨a0, x, r, a1, am_sw_mono h a2⟩
  · obtain ⟨v, ty, a1, a2, a3, a4⟩ := q; exact ⟨v, ty, a1, a2, a3, hQ _ _ a4⟩
  · obtain ⟨v, n, a1, a2, a3, a4⟩ := q; exact ⟨v, n, a1, a2, a3, hQ _ _ a4⟩
  · obtain ⟨a1, a2, a3⟩ := q; exact ⟨a1, a2, hQ _ _ a3⟩
  · rcases q with ⟨n, dp, c1, sp, c0, r, a1, a2, a3, a4, a5, a6, a7, a8, a9, a10, a11⟩ | ⟨b, p, y, x, r, a1, a2, a3, a4⟩ | ⟨M, as, rest, a1, a2, a4, a5, a6, a7⟩ | ⟨y, M, as, rest, a1, a2, a3, a4, a5, a6, a7⟩
    · exact Or.inl ⟨n, dp, c1, sp, c0, r, a1, a2, a3, a4, a5, a6, a7, a8, a9, a10, h _ _ _ _ a11⟩
    · exact Or.inr (Or.inl ⟨b, p, y, x, r, a1, a2, a3, h _ _ _ _ a4⟩)
    · exact Or.inr (Or.inr (Or.inl ⟨M, as, rest, a1, a2, a4, a5, a6, hC _ _ _ _ _ (fun v σ' z => h _ _ _ _ z) a7⟩))
    · exact Or.inr (Or.inr (Or.inr ⟨y, M, as, rest, a1, a2, a3, a4, a5, a6, hC _ _ _ _ _ (fun v σ' z => h _ _ _ _ z) a7⟩))
  · obtain ⟨y, M, b, as, rest, a1, a2, a3, a4, a5, a6, a7, a8⟩ := q; exact ⟨y, M, b, as, rest, a1, a2, a3, a4, a5, a6, a7, hC _ _ _ _ _ (fun v σ' z => h _ _ _ _ z) a8⟩
  · obtain ⟨pc', ls', st', σ', a1, a2⟩ := q; exact ⟨pc', ls', st', σ', a1, h _ _ _ _ a2⟩
theorem am_T.fold {C : Nat → List Value → am_M → am_Q → Prop} (hC : am_mon C) {M : am_I} {Q : am_Q} {pc : Nat} {ls : am_L} {st : List Value} {σ : am_M} (q : am_F C M Q (am_T C M Q) pc ls st σ) : am_T C M Q pc ls st σ := by
  intro X hX
  obtain ⟨i, a1, a2⟩ := q
  exact hX _ _ _ _ ⟨i, a1, am_wp_mono hC (fun _ _ z => z) (fun _ _ _ _ z => z X hX) a2⟩
theorem am_T.mono {C : Nat → List Value → am_M → am_Q → Prop} (hC : am_mon C) {M : am_I} {Q Q' : am_Q} (hQ : ∀ v σ, Q v σ → Q' v σ) {pc : Nat} {ls : am_L} {st : List Value} {σ : am_M} (q : am_T C M Q pc ls st σ) : am_T C M Q' pc ls st σ := by
  refine q _ ?_
  intro pc ls st σ ⟨i, a1, a2⟩
  exact am_T.fold hC ⟨i, a1, am_wp_mono hC hQ (fun _ _ _ _ z => z) a2⟩
theorem am_C_mon : ∀ d, am_mon (am_C d)
  | 0 => fun _ _ _ _ _ _ q => q
  | d + 1 => fun y as σ Q Q' h q => by
    obtain ⟨M, a1, a2, a3, a4⟩ := q
    exact ⟨M, a1, a2, a3, am_T.mono (am_C_mon d) h a4⟩

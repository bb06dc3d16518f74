/-! rows: how a method of the small machine is walked -/
abbrev am_G (d : Nat) (M : am_I) (Q : am_Q) : am_X := am_T (am_C d) M Q
def am_ex (M : am_I) : Nat → Nat → am_L → List Value → am_M → am_R
  | 0, pc, ls, st, σ => some (pc, ls, st, σ)
  | n + 1, pc, ls, st, σ => match am_lk (am_is M) pc with
    | some i => match am_s1 (am_w M) i pc ls st σ with
      | some (pc', ls', st', σ') => am_ex M n pc' ls' st' σ'
      | none => none
    | none => none
theorem am_wp_s1 {C : Nat → List Value → am_M → am_Q → Prop} {w : Nat} {ret : Option FieldType} {Q : am_Q} {X : am_X} {i : Instr} {pc pc' : Nat} {ls ls' : am_L} {st st' : List Value} {σ σ' : am_M} (h : am_s1 w i pc ls st σ = some (pc', ls', st', σ')) (k : X pc' ls' st' σ') : am_wp C w ret Q X i pc ls st σ := by
  unfold am_wp
  split
  all_goals first | (exfalso; unfold am_s1 at h; cases h; done) | exact ⟨pc', ls', st', σ', h, k⟩
section Rows
variable {d : Nat} {M : am_I} {Q : am_Q} {pc pc' : Nat} {ls ls' : am_L} {st st' : List Value} {σ σ' : am_M}
theorem am_run : ∀ (k : Nat) {pc pc' : Nat} {ls ls' : am_L} {st st' : List Value} {σ σ' : am_M}, am_ex M k pc ls st σ = some (pc', ls', st', σ') → am_G d M Q pc' ls' st' σ' → am_G d M Q pc ls st σ
  | 0, pc, pc', ls, ls', st, st', σ, σ', h, t => by
    obtain ⟨rfl, rfl, rfl, rfl⟩ : pc = pc' ∧ ls = ls' ∧ st = st' ∧ σ = σ' := by
      have := Option.some.inj h
      simp only [Prod.mk.injEq] at this
      exact this
    exact t
  | k + 1, pc, pc', ls, ls', st, st', σ, σ', h, t => by
    unfold am_ex at h
    split at h
    · rename_i i hi
      split at h
      · rename_i pc1 ls1 st1 σ1 h1
        exact am_T.fold (am_C_mon d) ⟨i, hi, am_wp_s1 h1 (am_run k h t)⟩
      · cases h
    · cases h
theorem am_enter {y : Nat} {as : List Value} (hM : am_meth y = some M) (hl : as.length = am_na M) (hc : as.all (fun v => v.category == 1) = true) (hls : am_en M as = ls) (t : am_G d M Q 0 ls [] σ) : am_C (d + 1) y as σ Q := ⟨M, hM, hl, hc, by rw [hls]; exact t⟩
theorem am_iald {j : Int32} {c : Nat} {r : List Value} {n : Nat} (hi : am_lk (am_is M) pc = some .iaload) (hk : am_kind c = 100) (hn : am_len c = n) (hin : vp_in j n) (t : am_G d M Q (pc + 1) ls (.int (σ.1 c j.toNatClampNeg) :: r) σ) : am_G d M Q pc ls (.int j :: .ref c :: r) σ :=
  am_T.fold (am_C_mon d) ⟨_, hi, j, c, r, rfl, hk, by rw [hn]; exact hin, t⟩
theorem am_iast {x j : Int32} {c : Nat} {r : List Value} {n : Nat} (hi : am_lk (am_is M) pc = some .iastore) (hk : am_kind c = 100) (hn : am_len c = n) (hin : vp_in j n) (t : am_G d M Q (pc + 1) ls r (am_wr σ c j.toNatClampNeg x)) : am_G d M Q pc ls (.int x :: .int j :: .ref c :: r) σ :=
  am_T.fold (am_C_mon d) ⟨_, hi, x, j, c, r, rfl, hk, by rw [hn]; exact hin, t⟩
theorem am_aald {j : Int32} {c : Nat} {r : List Value} {n : Nat} (hi : am_lk (am_is M) pc = some .aaload) (hk : am_kind c = 101) (hn : am_len c = n) (hin : vp_in j n) (t : am_G d M Q (pc + 1) ls (.ref (am_fr c j.toNatClampNeg) :: r) σ) : am_G d M Q pc ls (.int j :: .ref c :: r) σ :=
  am_T.fold (am_C_mon d) ⟨_, hi, j, c, r, rfl, hk, by rw [hn]; exact hin, t⟩
/-- an index that is a number -/
theorem am_ialdN {c j : Nat} {r : List Value} {n : Nat} {v : Int32} (hi : am_lk (am_is M) pc = some .iaload) (hk : am_kind c = 100) (hn : am_len c = n) (hin : j < n) (hv : σ.1 c j = v) (hs : n < 2 ^ 31 := by decide) (t : am_G d M Q (pc + 1) ls (.int v :: r) σ) : am_G d M Q pc ls (.int (nI j) :: .ref c :: r) σ :=
  am_iald hi hk hn (vp_in_nI hin hs) (by rw [nI_clamp (by omega), hv]; exact t)
theorem am_iastN {x : Int32} {c j : Nat} {r : List Value} {n : Nat} (hi : am_lk (am_is M) pc = some .iastore) (hk : am_kind c = 100) (hn : am_len c = n) (hin : j < n) (hs : n < 2 ^ 31 := by decide) (t : am_G d M Q (pc + 1) ls r (am_wr σ c j x)) : am_G d M Q pc ls (.int x :: .int (nI j) :: .ref c :: r) σ :=
  am_iast hi hk hn (vp_in_nI hin hs) (by rw [nI_clamp (by omega)]; exact t)
theorem am_if0 {cnd : Jvm.ClassFile.Cond} {off : Int} {x : Int32} {r : List Value} (hi : am_lk (am_is M) pc = some (.ifCond cnd off)) (ho : 0 ≤ (pc : Int) + off) (kt : am_cmp cnd x 0 → am_G d M Q (am_tg pc off) ls r σ) (kf : ¬ am_cmp cnd x 0 → am_G d M Q (pc + 3) ls r σ) : am_G d M Q pc ls (.int x :: r) σ :=
  am_T.fold (am_C_mon d) ⟨_, hi, x, r, rfl, ho, kt, kf⟩
theorem am_ic0 {cnd : Jvm.ClassFile.Cond} {off : Int} {x y : Int32} {r : List Value} (hi : am_lk (am_is M) pc = some (.if_icmp cnd off)) (ho : 0 ≤ (pc : Int) + off) (kt : am_cmp cnd x y → am_G d M Q (am_tg pc off) ls r σ) (kf : ¬ am_cmp cnd x y → am_G d M Q (pc + 3) ls r σ) : am_G d M Q pc ls (.int y :: .int x :: r) σ :=
  am_T.fold (am_C_mon d) ⟨_, hi, y, x, r, rfl, ho, kt, kf⟩
/-- which of the two comparisons, and whether it is the one or its opposite: x = y or x < y alone -/
def am_cb (cnd : Jvm.ClassFile.Cond) (x y : Int32) : Prop := match cnd with
  | .eq => x = y
  | .ne => x = y
  | .lt => x < y
  | .ge => x < y
  | .gt => y < x
  | .le => y < x
def am_cs (cnd : Jvm.ClassFile.Cond) : Bool := match cnd with
  | .eq => true
  | .ne => false
  | .lt => true
  | .ge => false
  | .gt => true
  | .le => false
theorem am_cmp_cb (cnd : Jvm.ClassFile.Cond) (x y : Int32) : am_cmp cnd x y ↔ (if am_cs cnd then am_cb cnd x y else ¬ am_cb cnd x y) := by
  cases cnd
  · exact Iff.rfl
  · exact Iff.rfl
  · exact Iff.rfl
  · exact Int32.not_lt.symm
  · exact Iff.rfl
  · exact Int32.not_lt.symm
theorem am_br {cnd : Jvm.ClassFile.Cond} {x y : Int32} {T F A B : Prop} (hA : (if am_cs cnd then T else F) = A) (hB : (if am_cs cnd then F else T) = B) (ky : am_cb cnd x y → A) (kn : ¬ am_cb cnd x y → B) : (am_cmp cnd x y → T) ∧ (¬ am_cmp cnd x y → F) := by
  subst hA; subst hB
  rw [am_cmp_cb]
  cases h : am_cs cnd
  · rw [h] at ky kn
    exact ⟨fun q => kn q, fun q => ky (Classical.not_not.mp q)⟩
  · rw [h] at ky kn
    exact ⟨fun q => ky q, fun q => kn q⟩
/-- if<cond>: yes (x = 0, x < 0, 0 < x), no; ty, tn: where it goes then -/
theorem am_if {cnd : Jvm.ClassFile.Cond} {off : Int} {x : Int32} {r : List Value} {ty tn : Nat} (hi : am_lk (am_is M) pc = some (.ifCond cnd off)) (ho : 0 ≤ (pc : Int) + off) (hy : (if am_cs cnd then am_tg pc off else pc + 3) = ty) (hn : (if am_cs cnd then pc + 3 else am_tg pc off) = tn) (ky : am_cb cnd x 0 → am_G d M Q ty ls r σ) (kn : ¬ am_cb cnd x 0 → am_G d M Q tn ls r σ) : am_G d M Q pc ls (.int x :: r) σ := by
  have := am_br (cnd := cnd) (x := x) (y := 0) (T := am_G d M Q (am_tg pc off) ls r σ) (F := am_G d M Q (pc + 3) ls r σ) (A := am_G d M Q ty ls r σ) (B := am_G d M Q tn ls r σ) (by rw [← hy]; cases am_cs cnd <;> rfl) (by rw [← hn]; cases am_cs cnd <;> rfl) ky kn
  exact am_if0 hi ho this.1 this.2
theorem am_ic {cnd : Jvm.ClassFile.Cond} {off : Int} {x y : Int32} {r : List Value} {ty tn : Nat} (hi : am_lk (am_is M) pc = some (.if_icmp cnd off)) (ho : 0 ≤ (pc : Int) + off) (hy : (if am_cs cnd then am_tg pc off else pc + 3) = ty) (hn : (if am_cs cnd then pc + 3 else am_tg pc off) = tn) (ky : am_cb cnd x y → am_G d M Q ty ls r σ) (kn : ¬ am_cb cnd x y → am_G d M Q tn ls r σ) : am_G d M Q pc ls (.int y :: .int x :: r) σ := by
  have := am_br (cnd := cnd) (x := x) (y := y) (T := am_G d M Q (am_tg pc off) ls r σ) (F := am_G d M Q (pc + 3) ls r σ) (A := am_G d M Q ty ls r σ) (B := am_G d M Q tn ls r σ) (by rw [← hy]; cases am_cs cnd <;> rfl) (by rw [← hn]; cases am_cs cnd <;> rfl) ky kn
  exact am_ic0 hi ho this.1 this.2
theorem am_lsw {df : Int} {ps : Array (Int × Int)} {x : Int32} {r : List Value} (hi : am_lk (am_is M) pc = some (.lookupswitch df ps)) (hp : (ps.toList.zip (ps.toList.drop 1)).all (fun (a, next) => a.1 < next.1) = true) {L : List (Int × Int)} (hL : ps.toList = L) (t : am_sw (am_G d M Q) pc x df ls r σ L) : am_G d M Q pc ls (.int x :: r) σ := by
  subst hL
  exact am_T.fold (am_C_mon d) ⟨_, hi, hp, x, r, rfl, t⟩
theorem am_tsw {df lo hi' : Int} {os : Array Int} {x : Int32} {r : List Value} (hi : am_lk (am_is M) pc = some (.tableswitch df lo hi' os)) (hp : hi' + 1 = lo + os.toList.length) {L : List (Int × Int)} (hL : am_tb lo os.toList = L) (t : am_sw (am_G d M Q) pc x df ls r σ L) : am_G d M Q pc ls (.int x :: r) σ := by
  subst hL
  exact am_T.fold (am_C_mon d) ⟨_, hi, hp, x, r, rfl, t⟩
theorem am_sw1 {X : am_X} {x k : Int32} {df a o : Int} {tgt : Nat} {L : List (Int × Int)} (hk : am_k a = k) (ht : k.toInt = a) (ho : 0 ≤ (pc : Int) + o) (hg : am_tg pc o = tgt) (ky : x = k → X tgt ls st σ) (kn : ¬ x = k → am_sw X pc x df ls st σ L) : am_sw X pc x df ls st σ ((a, o) :: L) := by
  subst hk; subst hg
  exact ⟨ht, ho, ky, kn⟩
theorem am_sw0 {X : am_X} {x : Int32} {df : Int} {tgt : Nat} (ho : 0 ≤ (pc : Int) + df) (hg : am_tg pc df = tgt) (k : X tgt ls st σ) : am_sw X pc x df ls st σ [] := by
  subst hg
  exact ⟨ho, k⟩
theorem am_reti {v : Int32} (hi : am_lk (am_is M) pc = some .ireturn) (hr : am_rt M = some .int) (hq : Q (some (.int v)) σ) : am_G d M Q pc ls [.int v] σ :=
  am_T.fold (am_C_mon d) ⟨_, hi, v, .int, rfl, hr, rfl, hq⟩
theorem am_retz {v : Int32} (hi : am_lk (am_is M) pc = some .ireturn) (hr : am_rt M = some .boolean) (hv : v = 0 ∨ v = 1) (hq : Q (some (.int v)) σ) : am_G d M Q pc ls [.int v] σ :=
  am_T.fold (am_C_mon d) ⟨_, hi, v, .boolean, rfl, hr, by rcases hv with rfl | rfl <;> rfl, hq⟩
theorem am_retv (hi : am_lk (am_is M) pc = some .return_) (hr : am_rt M = none) (hq : Q none σ) : am_G d M Q pc ls [] σ :=
  am_T.fold (am_C_mon d) ⟨_, hi, rfl, hr, hq⟩
theorem am_reta {v : Value} {n : String} (hi : am_lk (am_is M) pc = some .areturn) (hr : am_rt M = some (.object n)) (hv : v = .null ∨ ∃ a, v = .ref a) (hq : Q (some v) σ) : am_G d M Q pc ls [v] σ :=
  am_T.fold (am_C_mon d) ⟨_, hi, v, n, rfl, hr, hv, hq⟩
theorem am_mxr {idx p : Nat} {b : Bool} {x y : Int32} {r : List Value} (hi : am_lk (am_is M) pc = some (.invokestatic idx)) (hm : am_mm (am_w M) idx = some (b, p)) (h8 : (r.map fun v => v.category).sum ≤ 8) (t : am_G d M Q (pc + 3) ls (.int (am_mx b x y) :: r) σ) : am_G d M Q pc ls (.int y :: .int x :: r) σ :=
  am_T.fold (am_C_mon d) ⟨_, hi, Or.inr (Or.inl ⟨b, p, y, x, r, hm, rfl, h8, t⟩)⟩
theorem am_cps {idx : Nat} {n dp sp : Int32} {c0 c1 : Nat} {r : List Value} (hi : am_lk (am_is M) pc = some (.invokestatic idx)) (hm : am_ac (am_w M) idx = true) (hk0 : am_kind c0 = 100) (hk1 : am_kind c1 = 100) (h1 : ¬ sp < 0) (h2 : ¬ dp < 0) (h3 : ¬ n < 0) (h4 : sp.toNatClampNeg + n.toNatClampNeg ≤ am_len c0) (h5 : dp.toNatClampNeg + n.toNatClampNeg ≤ am_len c1) (h8 : (r.map fun v => v.category).sum ≤ 8) (t : am_G d M Q (pc + 3) ls r (am_cp σ c0 c1 sp.toNatClampNeg dp.toNatClampNeg n.toNatClampNeg)) : am_G d M Q pc ls (.int n :: .int dp :: .ref c1 :: .int sp :: .ref c0 :: r) σ :=
  am_T.fold (am_C_mon d) ⟨_, hi, Or.inl ⟨n, dp, c1, sp, c0, r, hm, rfl, hk0, hk1, h1, h2, h3, h4, h5, h8, t⟩⟩
theorem am_invs {idx y p : Nat} {M' : am_I} {as rest : List Value} (hi : am_lk (am_is M) pc = some (.invokestatic idx)) (hy : am_mth (am_w M) idx = some (y, p)) (hM : am_meth y = some M') (hs : am_st M' = true) (hst : st = as.reverse ++ rest) (hl : as.length = am_na M') (h8 : (rest.map fun v => v.category).sum ≤ 8) (t : am_C d y as σ (fun v σ' => am_G d M Q (pc + 3) ls (v.toList ++ rest) σ')) : am_G d M Q pc ls st σ :=
  am_T.fold (am_C_mon d) ⟨_, hi, Or.inr (Or.inr (Or.inr ⟨(y, p), M', as, rest, hy, hM, hs, hst, hl, h8, t⟩))⟩
theorem am_invn {idx : Nat} {M' : am_I} {as rest : List Value} (hi : am_lk (am_is M) pc = some (.invokestatic idx)) (hm : am_mn (am_w M) idx = true) (hM : am_meth 11 = some M') (hst : st = as.reverse ++ rest) (hl : as.length = am_na M') (h8 : (rest.map fun v => v.category).sum ≤ 8) (t : am_C d 11 as σ (fun v σ' => am_G d M Q (pc + 3) ls (v.toList ++ rest) σ')) : am_G d M Q pc ls st σ :=
  am_T.fold (am_C_mon d) ⟨_, hi, Or.inr (Or.inr (Or.inl ⟨M', as, rest, hm, hM, hst, hl, h8, t⟩))⟩
theorem am_invv {idx y p b : Nat} {M' : am_I} {as rest : List Value} (hi : am_lk (am_is M) pc = some (.invokevirtual idx)) (hy : am_mth (am_w M) idx = some (y, p)) (hM : am_meth y = some M') (hs : am_st M' = false) (hst : st = as.reverse ++ .ref b :: rest) (hl : as.length + 1 = am_na M') (hb : am_kind b = am_ci (am_w M')) (h8 : (rest.map fun v => v.category).sum ≤ 8) (t : am_C d y (.ref b :: as) σ (fun v σ' => am_G d M Q (pc + 3) ls (v.toList ++ rest) σ')) : am_G d M Q pc ls st σ :=
  am_T.fold (am_C_mon d) ⟨_, hi, (y, p), M', b, as, rest, hy, hM, hs, hst, hl, hb, h8, t⟩
end Rows
theorem am_up1 {d k : Nat} (h : k + 1 ≤ d) : ∃ d', d = d' + 1 ∧ k ≤ d' := ⟨d - 1, by omega, by omega⟩
section Rows2
variable {d : Nat} {M : am_I} {Q : am_Q} {pc pc' : Nat} {ls ls' : am_L} {st st' : List Value} {σ σ' : am_M}
theorem am_enter' {y : Nat} {as : List Value} (hM : am_meth y = some M) (hl : as.length = am_na M) (hc : as.all (fun v => v.category == 1) = true) (hd : 1 ≤ d) (hls : am_en M as = ls) (t : ∀ d', d = d' + 1 → am_G d' M Q 0 ls [] σ) : am_C d y as σ Q := by
  obtain ⟨d', rfl⟩ : ∃ d', d = d' + 1 := ⟨d - 1, by omega⟩
  exact am_enter hM hl hc hls (t d' rfl)
theorem am_top {v v' : Int32} (h : v = v') (t : am_G d M Q pc ls (.int v' :: st) σ) : am_G d M Q pc ls (.int v :: st) σ := by rw [h]; exact t
theorem am_ls (h : ls = ls') (t : am_G d M Q pc ls' st σ) : am_G d M Q pc ls st σ := by rw [h]; exact t
theorem am_stk (h : st = st') (t : am_G d M Q pc ls st' σ) : am_G d M Q pc ls st σ := by rw [h]; exact t
theorem am_mem (h : σ = σ') (t : am_G d M Q pc ls st σ') : am_G d M Q pc ls st σ := by rw [h]; exact t
end Rows2
theorem am_nmul (a b : Nat) : nI a * nI b = nI (a * b) := (Int32.ofNat_mul a b).symm
theorem am_n0 {a : Nat} (h : a < 2 ^ 31) : nI a = 0 ↔ a = 0 := by rw [← nI_0, nI_eq h (by decide)]
theorem am_nlt0 {a : Nat} (h : a < 2 ^ 31) : nI a < 0 ↔ a < 0 := by rw [← nI_0, nI_ltI h (by decide)]
theorem am_0ltn {a : Nat} (h : a < 2 ^ 31) : 0 < nI a ↔ 0 < a := by rw [← nI_0, nI_ltI (by decide) h]
theorem am_C_to {d y : Nat} {as : List Value} {σ : am_M} {Q Q' : am_Q} (h : am_C d y as σ Q) (hq : ∀ v σ', Q v σ' → Q' v σ') : am_C d y as σ Q' := am_C_mon d y as σ Q Q' hq h

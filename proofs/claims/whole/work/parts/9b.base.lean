/-! rows for the makers of the objects, and for the law's calls -/
section Base
variable {p : Program} {l : Launch} {e : Env} {R : Room} {s : State} {m : MethodId} {args : Array Value} {below : List Frame} {meth : Method} {c : Code} {H H0 : Heap} {locs : List Loc} {cells slots : Nat} {Q : State → Prop} {cc : ByteArray} {pc : Nat} {ls : Array Slot} {rest : List Value} {D : va_G} {A : Nat → Prop} {tys : List (ClassId × FieldType)} {ws : va_W} {cA cR : ClassId}
abbrev zA (cA : ClassId) (n : Nat) : va_E := .inl (cA, n, .inl (fun _ => 0))
theorem kn_newa (hx : p.tables.exec = Jvm.exec) (hb : c.code = cc) (harr : (Cond.arrayClass .int).before args s = true) (hK : va_K D vwCl tys s) (ht : tys[0]? = some (cA, .int)) (hP : va_P D vwCl ws H) (hD : va_D A ws) (hS : va_S A H0 H locs) (hA : ∀ q, H0.size ≤ q → A q) {n : Int32} {N : Nat} (hn : ¬ n < 0) (hN : n.toNatClampNeg = N) (hbytes : N * 4 ≤ 536870912) (hcells : cells + 1 ≤ R.cells) (hslots : slots + N ≤ R.slots) (hdg : decode cc pc = .ok (.newarray .int, 2)) (kk : ∀ (q : Nat) (H1 : Heap), va_P D vwCl (ws ++ [(q, zA cA N)]) H1 → va_D A (ws ++ [(q, zA cA N)]) → va_S A H0 H1 locs → W p l e R s m args below meth c H1 locs (cells + 1) (slots + N) Q (F0 m (pc + 2) ls (.ref q :: rest))) : W p l e R s m args below meth c H locs cells slots Q (F0 m pc ls (.int n :: rest)) := by
  refine va_newa (atype := .int) hx hb harr rfl hK hP hD hS hA (a0 := (N, .inl (fun _ => 0))) (fun _ => rfl) hn hN hbytes hcells hslots hdg (fun q cA' H1 hK1 hP1 hD1 hS1 => ?_)
  have h1 := (hK.2 0 _ ht).2
  have h2 := (hK1.2 tys.length (cA', .int) (by rw [List.getElem?_append_right (Nat.le_refl _), Nat.sub_self]; rfl)).2
  have h1 : s.vm.findClass ("[" ++ FieldType.int.toString) = some cA := h1
  have h2 : s.vm.findClass ("[" ++ FieldType.int.toString) = some cA' := h2
  rw [h1] at h2
  cases h2
  exact kk q H1 hP1 hD1 hS1
theorem kn_put (hx : p.tables.exec = Jvm.exec) (hb : c.code = cc) (hw : ∀ w ∈ am_ws, w.before args s = true) (hK : va_K D vwCl tys s) {h0 ci : Nat} {fs : List Value} (hP : va_P D vwCl ((h0, .inr (ci, fs)) :: ws) H) (hD : va_D A ((h0, .inr (ci, fs)) :: ws)) (hS : va_S A H0 H locs) (C : String) (T : u_T) (N : Nat) (hc : vwCl[ci]? = some (C, T, N)) (hown : s.vm.findClass C = some m.cls) (k : Nat) (hk : k < N) {index : Nat} (hlink : Cond.fieldLink C index C (T k).2.1 (T k).2.2.1 ∈ lw_tbl) (hin2 : meth.name = "<init>") (hdecl : (T k).1 = C) {ty : FieldType} {v : Value} (hd : parseFieldDescriptor (T k).2.2.1 = some ty) (hn : narrow ty v = v) (hfit : fits ty v = true) (hl : k < fs.length) (hdg : decode cc pc = .ok (.putfield index, 3)) (kk : ∀ (H1 : Heap) (locs1 : List Loc), va_P D vwCl ((h0, .inr (ci, fs.set k v)) :: ws) H1 → va_D A ((h0, .inr (ci, fs.set k v)) :: ws) → va_S A H0 H1 locs1 → W p l e R s m args below meth c H1 locs1 cells slots Q (F0 m (pc + 3) ls rest)) : W p l e R s m args below meth c H locs cells slots Q (F0 m pc ls (v :: .ref h0 :: rest)) := by
  obtain ⟨-, -, hin, ⟨ty0, hty⟩, hnm⟩ := am_cls hc
  cases hfin : (T k).2.2.2 with
  | true => exact va_putF hx hb hw hin ty0 hty hnm hown hK hP hD hS 0 rfl hc k hk (hw _ (am_in hlink rfl)) (fun x hx => by rw [← hdecl]; exact hx) hfin hin2 hdecl hd hn hfit hl hdg kk
  | false => exact va_put hx hb hw hin ty0 hty hnm hown hK hP hD hS 0 rfl hc k hk (hw _ (am_in hlink rfl)) (fun x hx => by rw [← hdecl]; exact hx) hfin hd hn hfit hl hdg kk
theorem kn_new (hx : p.tables.exec = Jvm.exec) (hb : c.code = cc) (hw : ∀ w ∈ am_ws, w.before args s = true) (hK : va_K D vwCl tys s) (hP : va_P D vwCl ws H) (hD : va_D A ws) (hS : va_S A H0 H locs) (hA : ∀ q, H0.size ≤ q → A q) {own : String} (hown : s.vm.findClass own = some m.cls) {ci index : Nat} (C : String) (T : u_T) (N : Nat) (hc : vwCl[ci]? = some (C, T, N)) (hcl : Cond.classLink own index C ∈ lw_tbl) (hinst : Cond.instantiable C N ∈ lw_tbl) (hini : Cond.initialized C ∈ lw_tbl) (ty : Nat → FieldType) (hty : ∀ k, k < N → parseFieldDescriptor (T k).2.2.1 = some (ty k)) {fs : List Value} (hfs : ∀ j, j < N → defaultValue (ty j) = vp_V fs j) (hcells : cells + 1 ≤ R.cells) (hslots : slots + N ≤ R.slots) (hdg : decode cc pc = .ok (.new index, 3)) (kk : ∀ (q : Nat) (H1 : Heap), va_P D vwCl (ws ++ [(q, .inr (ci, fs))]) H1 → va_D A (ws ++ [(q, .inr (ci, fs))]) → va_S A H0 H1 locs → W p l e R s m args below meth c H1 locs (cells + 1) (slots + N) Q (F0 m (pc + 3) ls (.ref q :: rest))) : W p l e R s m args below meth c H locs cells slots Q (F0 m pc ls rest) :=
  va_new hx hb hw (am_cls hc).2.2.1 ty hty hown (hw _ (am_in hcl rfl)) (hw _ (am_in hinst rfl)) (hw _ (am_in hini rfl)) hK hP hD hS hA hc hfs hcells hslots hdg kk
theorem kn_good {w : Cond} (h : w ∈ lw_tbl) (hg : goodWord w = true) : GoodIn am_ws (w :: am_ws) := by
  intro w' hw
  rcases List.mem_cons.mp hw with rfl | hw
  · exact ⟨am_in h hg, good_of_word hg⟩
  · exact ⟨hw, good_of_word (List.mem_filter.mp hw).2⟩
/-- what stands at a maker's start: its object alone, or with another cell -/
abbrev knP (D : va_G) (cA : ClassId) (av : List Value) (ws : va_W) (sz : Nat) : Array Value → State → Prop := va_Pc av (fun U => U.heap.size = sz ∧ va_P D vwCl ws U.heap ∧ va_K D vwCl [(cA, .int)] U ∧ va_D (fun _ => True) ws)
/-- and at its end: cells at the addresses a -/
abbrev knQ (D : va_G) (cA : ClassId) (B : (Nat → Nat) → va_W) (A : Nat → Prop) : Array Value → State → Outcome → State → Prop := va_Qv (fun _ : Nat → Nat => True) (fun a t => va_P D vwCl (B a) t.heap ∧ va_K D vwCl [(cA, .int)] t ∧ va_D A (B a)) A
theorem lw_call {M : am_I} {d y b : Nat} {as : List Value} {σ : am_M} {QQ : am_Q} {ad : Nat → Nat} {own : String} {index : Nat} (hx : p.tables.exec = Jvm.exec) (hb : c.code = cc) {nL : Nat} (hml : c.maxLocals = nL) (hown : s.vm.findClass own = some m.cls) (hw : ∀ w ∈ am_ws, w.before args s = true) (hN : va_Nw am_nw s) (hK : va_K D vwCl (am_tys cA cR) s) (hP : va_P D vwCl (am_world ad cA cR σ) H) (hD : va_D A (am_world ad cA cR σ)) (hS : va_S A s.heap H locs) (hA : ∀ q, s.heap.size ≤ q → A q) (hC : am_C d y (.ref b :: as) σ QQ) (hM : am_meth y = some M) (hst : am_st M = false) (hlen : as.length + 1 = am_na M) (hkb : am_kind b = am_ci (am_w M)) (hlink : Cond.methodLink own index (am_y M) ∈ lw_tbl) (hR1 : d + 1 ≤ R.frames) (hR2 : 8 + (am_ml M + 11) + 64 * d ≤ R.locals) (hcl : cells ≤ R.cells) (hsl : slots ≤ R.slots) (hsize : ls.size = nL) {st0 : List Value} (hst0 : st0 = (as.map (am_cv ad)).reverse ++ .ref (ad b) :: rest) (h8 : (rest.map fun v => v.category).sum ≤ 8) (hdg : decode cc pc = .ok (.invokevirtual index, 3)) (kk : ∀ v σ' H1 locs1, QQ v σ' → va_P D vwCl (am_world ad cA cR σ') H1 → va_D A (am_world ad cA cR σ') → va_S A s.heap H1 locs1 → W p l e R s m args below meth c H1 locs1 cells slots Q (F0 m (pc + 3) ls ((v.map (am_cv ad)).toList ++ rest))) : W p l e R s m args below meth c H locs cells slots Q (F0 m pc ls st0) := by
  subst hst0
  have hAA : ∀ q, am_A ad H.size q → A q := by
    intro q hq
    rcases hq with ⟨k, h1, rfl⟩ | h
    · exact hD.2 k _ (am_at h1)
    · exact hA q (Nat.le_trans hS.1 h)
  have hkn := am_know hM
  obtain ⟨hcode, hkind, hini, hsel, hcls, hpl, hmh, hvh, hpd, hml', hna, h1na, hvc, -⟩ := hkn
  rw [if_neg (by rw [hst]; decide)] at hkind hpd
  have hsel := hsel.resolve_left (by rw [hst]; decide)
  have hvc := hvc.resolve_left (by rw [hst]; decide)
  have hmet := am_sound l D ad cA cR d y M (.ref b :: as) σ _ H.size hC hM
  cases hq : vwCl[am_ci (am_w M)]? with
  | none => rw [hq] at hvc; cases hvc
  | some q =>
    rw [hq] at hvc
    have hvc : q.1 = (am_y M).cls := Option.some.inj hvc
    have h9 := (am_cls hq).1
    have hat := am_at (ad := ad) (cA := cA) (cR := cR) (σ := σ) (am_lt (c := b) (by omega))
    rw [am_cell_obj (by omega)] at hat
    have hrc := va_recv hK hP (by rw [hkb]; exact hq) hat
    rw [hvc] at hrc
    have hna1 : am_na M - 1 = as.length := by omega
    rw [hna1] at hpd
    have hr := va_runV (R := R) (H := H) (locs := locs) (cells := cells) (slots := slots) (below := below) (meth := meth) (e := e) (g := F0 m pc ls ((as.map (am_cv ad)).reverse ++ .ref (ad b) :: rest)) (As := as.map (am_cv ad)) (rest := rest) (b := ad b) (C := (am_y M).cls) (bytes := am_b M) (maxL := am_ml M) (ret := am_rt M) (n := as.length) ⟨hx, hb, hml, hown, hw⟩ hmet ⟨callB_of as.length hw (am_goodIn (am_know hM)) rfl rfl rfl (hw _ (am_in hini rfl)) (hw _ (am_in hlink rfl)) ⟨hmh, hvh, hpd⟩ ⟨hR1, hR2⟩, hw _ (am_in hkind rfl), hw _ (am_in hsel rfl)⟩ ⟨am_blind, hrc, am_preOf (as := .ref b :: as) hN hK hP hD⟩ rfl (by rw [List.length_map]) hsize rfl (lv_room h8) hdg ⟨hcl, hsl⟩
    intro T hT X
    obtain ⟨v, st₀, t, T', L, g0, X', hL, e1, e2, ⟨⟨v', σ', hv, hq, hP1, hK1, hD1⟩, hz, hk⟩, st⟩ := hr T hT X
    obtain rfl : v = v'.map (am_cv ad) := Outcome.returned.inj hv
    rw [g0] at hz hk
    obtain ⟨t2, a1, b1⟩ := kk v' σ' T'.heap (locs ++ L) hq (by rw [e1]; exact hP1) (hD1.weaken (fun k q _ h => hAA _ h))
      ⟨Nat.le_trans hS.1 (by rw [e1]; exact hz), fun q h1 h2 => by rw [e1, hk q (Nat.lt_of_lt_of_le h1 hS.1) (fun z => h2 (hAA q z))]; exact hS.2.1 q h1 h2, fun q hq => by
        rcases List.mem_append.mp hq with h | h
        · exact hS.2.2 q h
        · exact hAA _ (hL q h)⟩ T' rfl X'
    exact ⟨t2, st t2 a1, b1⟩
end Base

/-! the law -/
section Law
variable {p : Program} {l : Launch} {e : Env} {s : State} {m : MethodId} {below : List Frame} {meth : Method} {c : Code} {b L : Nat} {xs : Nat → Int32} {D : va_G} {ad : Nat → Nat} {cA cR : ClassId}
/-- what holds all the way through the law's loop -/
def LwC (p : Program) (s : State) (m : MethodId) (meth : Method) (c : Code) (b L : Nat) (xs : Nat → Int32) (D : va_G) (cA cR : ClassId) : Prop := lw_At p s m meth c b L xs ∧ va_Nw am_nw s ∧ va_K D vwCl (am_tys cA cR) s
/-- both objects stand in the world of a memory with the invariant: the law goes on to its end -/
def LwK (p : Program) (l : Launch) (e : Env) (s : State) (m : MethodId) (below : List Frame) (meth : Method) (c : Code) (b : Nat) (D : va_G) (ad : Nat → Nat) (cA cR : ClassId) (ls : Array Slot) (pc : Nat) : Prop := ∀ (σ : am_M) (H : Heap) (locs : List Loc), Inv σ → va_P D vwCl (am_world ad cA cR σ) H → va_D (fun q : Nat => s.heap.size ≤ q) (am_world ad cA cR σ) → va_S (fun q : Nat => s.heap.size ≤ q) s.heap H locs → W p l e room_1 s m #[Value.ref b] below meth c H locs 88 19291 (lw_Z below #[Value.ref b] s) (F0 m pc ls [])

set_option maxHeartbeats 4000000 in
set_option maxRecDepth 100000 in
theorem lw_c0 (h : LwC p s m meth c b L xs D cA cR) (hL : L ≤ 2560) {i : Nat} (hi : i + 5 ≤ L) {ls : Array Slot} (hl : lv_has ls 4 [(0, .ref b), (1, .ref (ad 41)), (2, .ref (ad 0)), (3, .int (nI i))]) (kk : LwK p l e s m below meth c b D ad cA cR ls 647) : LwK p l e s m below meth c b D ad cA cR ls 116 := by
  obtain ⟨⟨hx, hb, hr, hml, hown, hts, hX, hbl, hlocks, hgv⟩, hN, hK⟩ := h
  have hw : ∀ w ∈ am_ws, w.before _ s = true := fun w hw => hts w (List.mem_filter.mp hw).1
  have hA : ∀ q : Nat, s.heap.size ≤ q → (fun q : Nat => s.heap.size ≤ q) q := fun _ h => h
  have hbA : ¬ (fun q : Nat => s.heap.size ≤ q) b := Nat.not_le.mpr hbl
  have hin : ∀ k, k < 5 → vp_in (nI i + nI k) L := fun k hk => by rw [nI_add]; exact vp_in_nI (by omega) (by omega)
  intro σ H locs hI hP hD hS
  obtain ⟨a, hC⟩ := pr_write (d := 700) (by decide) hI (xs (nI i + nI 1).toNatClampNeg)
  refine lv_aload_n hx hb dL_116 rfl (lv_at hl 1 rfl) ?_
  refine lv_aload_n hx hb dL_117 rfl (lv_at hl 0 rfl) ?_
  refine lv_iload_n hx hb dL_118 rfl (lv_at hl 3 rfl) ?_
  refine lv_iconst (v := nI 1) hx hb dL_119 (by decide +kernel) ?_
  refine lv_iadd hx hb dL_120 ?_
  refine va_sld hx hb hX hbl hbA hS (hin 1 (by decide)) dL_121 ?_
  refine lw_call (M := M_X9_write) (d := 700) (y := 122) (b := 41) (as := [.int (xs (nI i + nI 1).toNatClampNeg)]) (ad := ad) (rest := []) hx hb hml hown hw hN hK hP hD hS hA hC rfl rfl rfl rfl (List.mem_of_getElem? (i := 303) (by decide +kernel)) (Nat.le_of_ble_eq_true rfl) (Nat.le_of_ble_eq_true rfl) (Nat.le_of_ble_eq_true rfl) (Nat.le_of_ble_eq_true rfl) hl.1 rfl (Nat.le_of_ble_eq_true rfl) dL_122 (fun v σ1 H locs hq hP hD hS => ?_)
  obtain ⟨rfl, hC2⟩ := hq
  refine W.eq (g2 := F0 m 125 ls [.int a]) rfl ?_
  refine lv_aload_n hx hb dL_125 rfl (lv_at hl 2 rfl) ?_
  refine lv_aload_n hx hb dL_126 rfl (lv_at hl 0 rfl) ?_
  refine lv_iload_n hx hb dL_127 rfl (lv_at hl 3 rfl) ?_
  refine lv_iconst (v := nI 1) hx hb dL_128 (by decide +kernel) ?_
  refine lv_iadd hx hb dL_129 ?_
  refine va_sld hx hb hX hbl hbA hS (hin 1 (by decide)) dL_130 ?_
  refine lw_call (M := M_X10_write) (d := 700) (y := 152) (b := 0) (as := [.int (xs (nI i + nI 1).toNatClampNeg)]) (ad := ad) (rest := [.int a]) hx hb hml hown hw hN hK hP hD hS hA hC2 rfl rfl rfl rfl (List.mem_of_getElem? (i := 1099) (by decide +kernel)) (Nat.le_of_ble_eq_true rfl) (Nat.le_of_ble_eq_true rfl) (Nat.le_of_ble_eq_true rfl) (Nat.le_of_ble_eq_true rfl) hl.1 rfl (Nat.le_of_ble_eq_true rfl) dL_131 (fun v σ2 H locs hq hP hD hS => ?_)
  obtain ⟨rfl, hI2⟩ := hq
  refine W.eq (g2 := F0 m 134 ls [.int a, .int a]) rfl ?_
  exact lv_icmp_eq (tgt := 647) hx hb dL_134 (by decide) (fun _ => kk σ2 H locs hI2 hP hD hS) (fun z => absurd rfl z)
set_option maxHeartbeats 4000000 in
set_option maxRecDepth 100000 in
theorem lw_c1 (h : LwC p s m meth c b L xs D cA cR) (hL : L ≤ 2560) {i : Nat} (hi : i + 5 ≤ L) {ls : Array Slot} (hl : lv_has ls 4 [(0, .ref b), (1, .ref (ad 41)), (2, .ref (ad 0)), (3, .int (nI i))]) (kk : LwK p l e s m below meth c b D ad cA cR ls 647) : LwK p l e s m below meth c b D ad cA cR ls 139 := by
  obtain ⟨⟨hx, hb, hr, hml, hown, hts, hX, hbl, hlocks, hgv⟩, hN, hK⟩ := h
  have hw : ∀ w ∈ am_ws, w.before _ s = true := fun w hw => hts w (List.mem_filter.mp hw).1
  have hA : ∀ q : Nat, s.heap.size ≤ q → (fun q : Nat => s.heap.size ≤ q) q := fun _ h => h
  have hbA : ¬ (fun q : Nat => s.heap.size ≤ q) b := Nat.not_le.mpr hbl
  intro σ H locs hI hP hD hS
  obtain ⟨a, hC⟩ := pr_erase (d := 700) (by decide) hI
  refine lv_aload_n hx hb dL_139 rfl (lv_at hl 1 rfl) ?_
  refine lw_call (M := M_X9_erase) (d := 700) (y := 123) (b := 41) (as := []) (ad := ad) (rest := []) hx hb hml hown hw hN hK hP hD hS hA hC rfl rfl rfl rfl (List.mem_of_getElem? (i := 317) (by decide +kernel)) (Nat.le_of_ble_eq_true rfl) (Nat.le_of_ble_eq_true rfl) (Nat.le_of_ble_eq_true rfl) (Nat.le_of_ble_eq_true rfl) hl.1 rfl (Nat.le_of_ble_eq_true rfl) dL_140 (fun v σ1 H locs hq hP hD hS => ?_)
  obtain ⟨rfl, hC2⟩ := hq
  refine W.eq (g2 := F0 m 143 ls [.int a]) rfl ?_
  refine lv_aload_n hx hb dL_143 rfl (lv_at hl 2 rfl) ?_
  refine lw_call (M := M_X10_erase) (d := 700) (y := 153) (b := 0) (as := []) (ad := ad) (rest := [.int a]) hx hb hml hown hw hN hK hP hD hS hA hC2 rfl rfl rfl rfl (List.mem_of_getElem? (i := 1108) (by decide +kernel)) (Nat.le_of_ble_eq_true rfl) (Nat.le_of_ble_eq_true rfl) (Nat.le_of_ble_eq_true rfl) (Nat.le_of_ble_eq_true rfl) hl.1 rfl (Nat.le_of_ble_eq_true rfl) dL_144 (fun v σ2 H locs hq hP hD hS => ?_)
  obtain ⟨rfl, hI2⟩ := hq
  refine W.eq (g2 := F0 m 147 ls [.int a, .int a]) rfl ?_
  exact lv_icmp_eq (tgt := 647) hx hb dL_147 (by decide) (fun _ => kk σ2 H locs hI2 hP hD hS) (fun z => absurd rfl z)
set_option maxHeartbeats 4000000 in
set_option maxRecDepth 100000 in
theorem lw_c2 (h : LwC p s m meth c b L xs D cA cR) (hL : L ≤ 2560) {i : Nat} (hi : i + 5 ≤ L) {ls : Array Slot} (hl : lv_has ls 4 [(0, .ref b), (1, .ref (ad 41)), (2, .ref (ad 0)), (3, .int (nI i))]) (kk : LwK p l e s m below meth c b D ad cA cR ls 647) : LwK p l e s m below meth c b D ad cA cR ls 152 := by
  obtain ⟨⟨hx, hb, hr, hml, hown, hts, hX, hbl, hlocks, hgv⟩, hN, hK⟩ := h
  have hw : ∀ w ∈ am_ws, w.before _ s = true := fun w hw => hts w (List.mem_filter.mp hw).1
  have hA : ∀ q : Nat, s.heap.size ≤ q → (fun q : Nat => s.heap.size ≤ q) q := fun _ h => h
  have hbA : ¬ (fun q : Nat => s.heap.size ≤ q) b := Nat.not_le.mpr hbl
  have hin : ∀ k, k < 5 → vp_in (nI i + nI k) L := fun k hk => by rw [nI_add]; exact vp_in_nI (by omega) (by omega)
  intro σ H locs hI hP hD hS
  obtain ⟨a, hC⟩ := pr_program (d := 700) (by decide) hI (xs (nI i + nI 1).toNatClampNeg)
  refine lv_aload_n hx hb dL_152 rfl (lv_at hl 1 rfl) ?_
  refine lv_aload_n hx hb dL_153 rfl (lv_at hl 0 rfl) ?_
  refine lv_iload_n hx hb dL_154 rfl (lv_at hl 3 rfl) ?_
  refine lv_iconst (v := nI 1) hx hb dL_155 (by decide +kernel) ?_
  refine lv_iadd hx hb dL_156 ?_
  refine va_sld hx hb hX hbl hbA hS (hin 1 (by decide)) dL_157 ?_
  refine lw_call (M := M_X9_program) (d := 700) (y := 124) (b := 41) (as := [.int (xs (nI i + nI 1).toNatClampNeg)]) (ad := ad) (rest := []) hx hb hml hown hw hN hK hP hD hS hA hC rfl rfl rfl rfl (List.mem_of_getElem? (i := 325) (by decide +kernel)) (Nat.le_of_ble_eq_true rfl) (Nat.le_of_ble_eq_true rfl) (Nat.le_of_ble_eq_true rfl) (Nat.le_of_ble_eq_true rfl) hl.1 rfl (Nat.le_of_ble_eq_true rfl) dL_158 (fun v σ1 H locs hq hP hD hS => ?_)
  obtain ⟨rfl, hC2⟩ := hq
  refine W.eq (g2 := F0 m 161 ls [.int a]) rfl ?_
  refine lv_aload_n hx hb dL_161 rfl (lv_at hl 2 rfl) ?_
  refine lv_aload_n hx hb dL_162 rfl (lv_at hl 0 rfl) ?_
  refine lv_iload_n hx hb dL_163 rfl (lv_at hl 3 rfl) ?_
  refine lv_iconst (v := nI 1) hx hb dL_164 (by decide +kernel) ?_
  refine lv_iadd hx hb dL_165 ?_
  refine va_sld hx hb hX hbl hbA hS (hin 1 (by decide)) dL_166 ?_
  refine lw_call (M := M_X10_program) (d := 700) (y := 182) (b := 0) (as := [.int (xs (nI i + nI 1).toNatClampNeg)]) (ad := ad) (rest := [.int a]) hx hb hml hown hw hN hK hP hD hS hA hC2 rfl rfl rfl rfl (List.mem_of_getElem? (i := 1112) (by decide +kernel)) (Nat.le_of_ble_eq_true rfl) (Nat.le_of_ble_eq_true rfl) (Nat.le_of_ble_eq_true rfl) (Nat.le_of_ble_eq_true rfl) hl.1 rfl (Nat.le_of_ble_eq_true rfl) dL_167 (fun v σ2 H locs hq hP hD hS => ?_)
  obtain ⟨rfl, hI2⟩ := hq
  refine W.eq (g2 := F0 m 170 ls [.int a, .int a]) rfl ?_
  exact lv_icmp_eq (tgt := 647) hx hb dL_170 (by decide) (fun _ => kk σ2 H locs hI2 hP hD hS) (fun z => absurd rfl z)
set_option maxHeartbeats 4000000 in
set_option maxRecDepth 100000 in
theorem lw_c3 (h : LwC p s m meth c b L xs D cA cR) (hL : L ≤ 2560) {i : Nat} (hi : i + 5 ≤ L) {ls : Array Slot} (hl : lv_has ls 4 [(0, .ref b), (1, .ref (ad 41)), (2, .ref (ad 0)), (3, .int (nI i))]) (kk : LwK p l e s m below meth c b D ad cA cR ls 647) : LwK p l e s m below meth c b D ad cA cR ls 175 := by
  obtain ⟨⟨hx, hb, hr, hml, hown, hts, hX, hbl, hlocks, hgv⟩, hN, hK⟩ := h
  have hw : ∀ w ∈ am_ws, w.before _ s = true := fun w hw => hts w (List.mem_filter.mp hw).1
  have hA : ∀ q : Nat, s.heap.size ≤ q → (fun q : Nat => s.heap.size ≤ q) q := fun _ h => h
  have hbA : ¬ (fun q : Nat => s.heap.size ≤ q) b := Nat.not_le.mpr hbl
  intro σ H locs hI hP hD hS
  obtain ⟨a, hC⟩ := pr_fault (d := 700) (by decide) hI
  refine lv_aload_n hx hb dL_175 rfl (lv_at hl 1 rfl) ?_
  refine lw_call (M := M_X9_fault) (d := 700) (y := 125) (b := 41) (as := []) (ad := ad) (rest := []) hx hb hml hown hw hN hK hP hD hS hA hC rfl rfl rfl rfl (List.mem_of_getElem? (i := 572) (by decide +kernel)) (Nat.le_of_ble_eq_true rfl) (Nat.le_of_ble_eq_true rfl) (Nat.le_of_ble_eq_true rfl) (Nat.le_of_ble_eq_true rfl) hl.1 rfl (Nat.le_of_ble_eq_true rfl) dL_176 (fun v σ1 H locs hq hP hD hS => ?_)
  obtain ⟨rfl, hC2⟩ := hq
  refine W.eq (g2 := F0 m 179 ls [.int a]) rfl ?_
  refine lv_aload_n hx hb dL_179 rfl (lv_at hl 2 rfl) ?_
  refine lw_call (M := M_X10_fault) (d := 700) (y := 183) (b := 0) (as := []) (ad := ad) (rest := [.int a]) hx hb hml hown hw hN hK hP hD hS hA hC2 rfl rfl rfl rfl (List.mem_of_getElem? (i := 1317) (by decide +kernel)) (Nat.le_of_ble_eq_true rfl) (Nat.le_of_ble_eq_true rfl) (Nat.le_of_ble_eq_true rfl) (Nat.le_of_ble_eq_true rfl) hl.1 rfl (Nat.le_of_ble_eq_true rfl) dL_180 (fun v σ2 H locs hq hP hD hS => ?_)
  obtain ⟨rfl, hI2⟩ := hq
  refine W.eq (g2 := F0 m 183 ls [.int a, .int a]) rfl ?_
  exact lv_icmp_eq (tgt := 647) hx hb dL_183 (by decide) (fun _ => kk σ2 H locs hI2 hP hD hS) (fun z => absurd rfl z)
set_option maxHeartbeats 4000000 in
set_option maxRecDepth 100000 in
theorem lw_c4 (h : LwC p s m meth c b L xs D cA cR) (hL : L ≤ 2560) {i : Nat} (hi : i + 5 ≤ L) {ls : Array Slot} (hl : lv_has ls 4 [(0, .ref b), (1, .ref (ad 41)), (2, .ref (ad 0)), (3, .int (nI i))]) (kk : LwK p l e s m below meth c b D ad cA cR ls 647) : LwK p l e s m below meth c b D ad cA cR ls 188 := by
  obtain ⟨⟨hx, hb, hr, hml, hown, hts, hX, hbl, hlocks, hgv⟩, hN, hK⟩ := h
  have hw : ∀ w ∈ am_ws, w.before _ s = true := fun w hw => hts w (List.mem_filter.mp hw).1
  have hA : ∀ q : Nat, s.heap.size ≤ q → (fun q : Nat => s.heap.size ≤ q) q := fun _ h => h
  have hbA : ¬ (fun q : Nat => s.heap.size ≤ q) b := Nat.not_le.mpr hbl
  have hin : ∀ k, k < 5 → vp_in (nI i + nI k) L := fun k hk => by rw [nI_add]; exact vp_in_nI (by omega) (by omega)
  intro σ H locs hI hP hD hS
  obtain ⟨a, hC⟩ := pr_instant (d := 700) (by decide) hI (xs (nI i + nI 1).toNatClampNeg) (xs (nI i + nI 2).toNatClampNeg)
  refine lv_aload_n hx hb dL_188 rfl (lv_at hl 1 rfl) ?_
  refine lv_aload_n hx hb dL_189 rfl (lv_at hl 0 rfl) ?_
  refine lv_iload_n hx hb dL_190 rfl (lv_at hl 3 rfl) ?_
  refine lv_iconst (v := nI 1) hx hb dL_191 (by decide +kernel) ?_
  refine lv_iadd hx hb dL_192 ?_
  refine va_sld hx hb hX hbl hbA hS (hin 1 (by decide)) dL_193 ?_
  refine lv_aload_n hx hb dL_194 rfl (lv_at hl 0 rfl) ?_
  refine lv_iload_n hx hb dL_195 rfl (lv_at hl 3 rfl) ?_
  refine lv_iconst (v := nI 2) hx hb dL_196 (by decide +kernel) ?_
  refine lv_iadd hx hb dL_197 ?_
  refine va_sld hx hb hX hbl hbA hS (hin 2 (by decide)) dL_198 ?_
  refine lw_call (M := M_X9_instant) (d := 700) (y := 126) (b := 41) (as := [.int (xs (nI i + nI 1).toNatClampNeg), .int (xs (nI i + nI 2).toNatClampNeg)]) (ad := ad) (rest := []) hx hb hml hown hw hN hK hP hD hS hA hC rfl rfl rfl rfl (List.mem_of_getElem? (i := 576) (by decide +kernel)) (Nat.le_of_ble_eq_true rfl) (Nat.le_of_ble_eq_true rfl) (Nat.le_of_ble_eq_true rfl) (Nat.le_of_ble_eq_true rfl) hl.1 rfl (Nat.le_of_ble_eq_true rfl) dL_199 (fun v σ1 H locs hq hP hD hS => ?_)
  obtain ⟨rfl, hC2⟩ := hq
  refine W.eq (g2 := F0 m 202 ls [.int a]) rfl ?_
  refine lv_aload_n hx hb dL_202 rfl (lv_at hl 2 rfl) ?_
  refine lv_aload_n hx hb dL_203 rfl (lv_at hl 0 rfl) ?_
  refine lv_iload_n hx hb dL_204 rfl (lv_at hl 3 rfl) ?_
  refine lv_iconst (v := nI 1) hx hb dL_205 (by decide +kernel) ?_
  refine lv_iadd hx hb dL_206 ?_
  refine va_sld hx hb hX hbl hbA hS (hin 1 (by decide)) dL_207 ?_
  refine lv_aload_n hx hb dL_208 rfl (lv_at hl 0 rfl) ?_
  refine lv_iload_n hx hb dL_209 rfl (lv_at hl 3 rfl) ?_
  refine lv_iconst (v := nI 2) hx hb dL_210 (by decide +kernel) ?_
  refine lv_iadd hx hb dL_211 ?_
  refine va_sld hx hb hX hbl hbA hS (hin 2 (by decide)) dL_212 ?_
  refine lw_call (M := M_X10_instant) (d := 700) (y := 230) (b := 0) (as := [.int (xs (nI i + nI 1).toNatClampNeg), .int (xs (nI i + nI 2).toNatClampNeg)]) (ad := ad) (rest := [.int a]) hx hb hml hown hw hN hK hP hD hS hA hC2 rfl rfl rfl rfl (List.mem_of_getElem? (i := 1321) (by decide +kernel)) (Nat.le_of_ble_eq_true rfl) (Nat.le_of_ble_eq_true rfl) (Nat.le_of_ble_eq_true rfl) (Nat.le_of_ble_eq_true rfl) hl.1 rfl (Nat.le_of_ble_eq_true rfl) dL_213 (fun v σ2 H locs hq hP hD hS => ?_)
  obtain ⟨rfl, hI2⟩ := hq
  refine W.eq (g2 := F0 m 216 ls [.int a, .int a]) rfl ?_
  exact lv_icmp_eq (tgt := 647) hx hb dL_216 (by decide) (fun _ => kk σ2 H locs hI2 hP hD hS) (fun z => absurd rfl z)
set_option maxHeartbeats 4000000 in
set_option maxRecDepth 100000 in
theorem lw_c5 (h : LwC p s m meth c b L xs D cA cR) (hL : L ≤ 2560) {i : Nat} (hi : i + 5 ≤ L) {ls : Array Slot} (hl : lv_has ls 4 [(0, .ref b), (1, .ref (ad 41)), (2, .ref (ad 0)), (3, .int (nI i))]) (kk : LwK p l e s m below meth c b D ad cA cR ls 647) : LwK p l e s m below meth c b D ad cA cR ls 221 := by
  obtain ⟨⟨hx, hb, hr, hml, hown, hts, hX, hbl, hlocks, hgv⟩, hN, hK⟩ := h
  have hw : ∀ w ∈ am_ws, w.before _ s = true := fun w hw => hts w (List.mem_filter.mp hw).1
  have hA : ∀ q : Nat, s.heap.size ≤ q → (fun q : Nat => s.heap.size ≤ q) q := fun _ h => h
  have hbA : ¬ (fun q : Nat => s.heap.size ≤ q) b := Nat.not_le.mpr hbl
  have hin : ∀ k, k < 5 → vp_in (nI i + nI k) L := fun k hk => by rw [nI_add]; exact vp_in_nI (by omega) (by omega)
  intro σ H locs hI hP hD hS
  obtain ⟨a, hC⟩ := pr_undo (d := 700) (by decide) hI (xs (nI i + nI 1).toNatClampNeg)
  refine lv_aload_n hx hb dL_221 rfl (lv_at hl 1 rfl) ?_
  refine lv_aload_n hx hb dL_222 rfl (lv_at hl 0 rfl) ?_
  refine lv_iload_n hx hb dL_223 rfl (lv_at hl 3 rfl) ?_
  refine lv_iconst (v := nI 1) hx hb dL_224 (by decide +kernel) ?_
  refine lv_iadd hx hb dL_225 ?_
  refine va_sld hx hb hX hbl hbA hS (hin 1 (by decide)) dL_226 ?_
  refine lw_call (M := M_X9_undo) (d := 700) (y := 127) (b := 41) (as := [.int (xs (nI i + nI 1).toNatClampNeg)]) (ad := ad) (rest := []) hx hb hml hown hw hN hK hP hD hS hA hC rfl rfl rfl rfl (List.mem_of_getElem? (i := 698) (by decide +kernel)) (Nat.le_of_ble_eq_true rfl) (Nat.le_of_ble_eq_true rfl) (Nat.le_of_ble_eq_true rfl) (Nat.le_of_ble_eq_true rfl) hl.1 rfl (Nat.le_of_ble_eq_true rfl) dL_227 (fun v σ1 H locs hq hP hD hS => ?_)
  obtain ⟨rfl, hC2⟩ := hq
  refine W.eq (g2 := F0 m 230 ls [.int a]) rfl ?_
  refine lv_aload_n hx hb dL_230 rfl (lv_at hl 2 rfl) ?_
  refine lv_aload_n hx hb dL_231 rfl (lv_at hl 0 rfl) ?_
  refine lv_iload_n hx hb dL_232 rfl (lv_at hl 3 rfl) ?_
  refine lv_iconst (v := nI 1) hx hb dL_233 (by decide +kernel) ?_
  refine lv_iadd hx hb dL_234 ?_
  refine va_sld hx hb hX hbl hbA hS (hin 1 (by decide)) dL_235 ?_
  refine lw_call (M := M_X10_undo) (d := 700) (y := 231) (b := 0) (as := [.int (xs (nI i + nI 1).toNatClampNeg)]) (ad := ad) (rest := [.int a]) hx hb hml hown hw hN hK hP hD hS hA hC2 rfl rfl rfl rfl (List.mem_of_getElem? (i := 1402) (by decide +kernel)) (Nat.le_of_ble_eq_true rfl) (Nat.le_of_ble_eq_true rfl) (Nat.le_of_ble_eq_true rfl) (Nat.le_of_ble_eq_true rfl) hl.1 rfl (Nat.le_of_ble_eq_true rfl) dL_236 (fun v σ2 H locs hq hP hD hS => ?_)
  obtain ⟨rfl, hI2⟩ := hq
  refine W.eq (g2 := F0 m 239 ls [.int a, .int a]) rfl ?_
  exact lv_icmp_eq (tgt := 647) hx hb dL_239 (by decide) (fun _ => kk σ2 H locs hI2 hP hD hS) (fun z => absurd rfl z)
set_option maxHeartbeats 4000000 in
set_option maxRecDepth 100000 in
theorem lw_c6 (h : LwC p s m meth c b L xs D cA cR) (hL : L ≤ 2560) {i : Nat} (hi : i + 5 ≤ L) {ls : Array Slot} (hl : lv_has ls 4 [(0, .ref b), (1, .ref (ad 41)), (2, .ref (ad 0)), (3, .int (nI i))]) (kk : LwK p l e s m below meth c b D ad cA cR ls 647) : LwK p l e s m below meth c b D ad cA cR ls 244 := by
  obtain ⟨⟨hx, hb, hr, hml, hown, hts, hX, hbl, hlocks, hgv⟩, hN, hK⟩ := h
  have hw : ∀ w ∈ am_ws, w.before _ s = true := fun w hw => hts w (List.mem_filter.mp hw).1
  have hA : ∀ q : Nat, s.heap.size ≤ q → (fun q : Nat => s.heap.size ≤ q) q := fun _ h => h
  have hbA : ¬ (fun q : Nat => s.heap.size ≤ q) b := Nat.not_le.mpr hbl
  have hin : ∀ k, k < 5 → vp_in (nI i + nI k) L := fun k hk => by rw [nI_add]; exact vp_in_nI (by omega) (by omega)
  intro σ H locs hI hP hD hS
  obtain ⟨a, hC⟩ := pr_restart (d := 700) (by decide) hI (xs (nI i + nI 1).toNatClampNeg)
  refine lv_aload_n hx hb dL_244 rfl (lv_at hl 1 rfl) ?_
  refine lv_aload_n hx hb dL_245 rfl (lv_at hl 0 rfl) ?_
  refine lv_iload_n hx hb dL_246 rfl (lv_at hl 3 rfl) ?_
  refine lv_iconst (v := nI 1) hx hb dL_247 (by decide +kernel) ?_
  refine lv_iadd hx hb dL_248 ?_
  refine va_sld hx hb hX hbl hbA hS (hin 1 (by decide)) dL_249 ?_
  refine lw_call (M := M_X9_restart) (d := 700) (y := 128) (b := 41) (as := [.int (xs (nI i + nI 1).toNatClampNeg)]) (ad := ad) (rest := []) hx hb hml hown hw hN hK hP hD hS hA hC rfl rfl rfl rfl (List.mem_of_getElem? (i := 710) (by decide +kernel)) (Nat.le_of_ble_eq_true rfl) (Nat.le_of_ble_eq_true rfl) (Nat.le_of_ble_eq_true rfl) (Nat.le_of_ble_eq_true rfl) hl.1 rfl (Nat.le_of_ble_eq_true rfl) dL_250 (fun v σ1 H locs hq hP hD hS => ?_)
  obtain ⟨rfl, hC2⟩ := hq
  refine W.eq (g2 := F0 m 253 ls [.int a]) rfl ?_
  refine lv_aload_n hx hb dL_253 rfl (lv_at hl 2 rfl) ?_
  refine lv_aload_n hx hb dL_254 rfl (lv_at hl 0 rfl) ?_
  refine lv_iload_n hx hb dL_255 rfl (lv_at hl 3 rfl) ?_
  refine lv_iconst (v := nI 1) hx hb dL_256 (by decide +kernel) ?_
  refine lv_iadd hx hb dL_257 ?_
  refine va_sld hx hb hX hbl hbA hS (hin 1 (by decide)) dL_258 ?_
  refine lw_call (M := M_X10_restart) (d := 700) (y := 232) (b := 0) (as := [.int (xs (nI i + nI 1).toNatClampNeg)]) (ad := ad) (rest := [.int a]) hx hb hml hown hw hN hK hP hD hS hA hC2 rfl rfl rfl rfl (List.mem_of_getElem? (i := 1406) (by decide +kernel)) (Nat.le_of_ble_eq_true rfl) (Nat.le_of_ble_eq_true rfl) (Nat.le_of_ble_eq_true rfl) (Nat.le_of_ble_eq_true rfl) hl.1 rfl (Nat.le_of_ble_eq_true rfl) dL_259 (fun v σ2 H locs hq hP hD hS => ?_)
  obtain ⟨rfl, hI2⟩ := hq
  refine W.eq (g2 := F0 m 262 ls [.int a, .int a]) rfl ?_
  exact lv_icmp_eq (tgt := 647) hx hb dL_262 (by decide) (fun _ => kk σ2 H locs hI2 hP hD hS) (fun z => absurd rfl z)
set_option maxHeartbeats 4000000 in
set_option maxRecDepth 100000 in
theorem lw_c7 (h : LwC p s m meth c b L xs D cA cR) (hL : L ≤ 2560) {i : Nat} (hi : i + 5 ≤ L) {ls : Array Slot} (hl : lv_has ls 4 [(0, .ref b), (1, .ref (ad 41)), (2, .ref (ad 0)), (3, .int (nI i))]) (kk : LwK p l e s m below meth c b D ad cA cR ls 647) : LwK p l e s m below meth c b D ad cA cR ls 267 := by
  obtain ⟨⟨hx, hb, hr, hml, hown, hts, hX, hbl, hlocks, hgv⟩, hN, hK⟩ := h
  have hw : ∀ w ∈ am_ws, w.before _ s = true := fun w hw => hts w (List.mem_filter.mp hw).1
  have hA : ∀ q : Nat, s.heap.size ≤ q → (fun q : Nat => s.heap.size ≤ q) q := fun _ h => h
  have hbA : ¬ (fun q : Nat => s.heap.size ≤ q) b := Nat.not_le.mpr hbl
  have hin : ∀ k, k < 5 → vp_in (nI i + nI k) L := fun k hk => by rw [nI_add]; exact vp_in_nI (by omega) (by omega)
  intro σ H locs hI hP hD hS
  obtain ⟨a, hC⟩ := pr_state (d := 700) (by decide) hI (xs (nI i + nI 1).toNatClampNeg)
  refine lv_aload_n hx hb dL_267 rfl (lv_at hl 1 rfl) ?_
  refine lv_aload_n hx hb dL_268 rfl (lv_at hl 0 rfl) ?_
  refine lv_iload_n hx hb dL_269 rfl (lv_at hl 3 rfl) ?_
  refine lv_iconst (v := nI 1) hx hb dL_270 (by decide +kernel) ?_
  refine lv_iadd hx hb dL_271 ?_
  refine va_sld hx hb hX hbl hbA hS (hin 1 (by decide)) dL_272 ?_
  refine lw_call (M := M_X9_state) (d := 700) (y := 129) (b := 41) (as := [.int (xs (nI i + nI 1).toNatClampNeg)]) (ad := ad) (rest := []) hx hb hml hown hw hN hK hP hD hS hA hC rfl rfl rfl rfl (List.mem_of_getElem? (i := 715) (by decide +kernel)) (Nat.le_of_ble_eq_true rfl) (Nat.le_of_ble_eq_true rfl) (Nat.le_of_ble_eq_true rfl) (Nat.le_of_ble_eq_true rfl) hl.1 rfl (Nat.le_of_ble_eq_true rfl) dL_273 (fun v σ1 H locs hq hP hD hS => ?_)
  obtain ⟨rfl, hC2⟩ := hq
  refine W.eq (g2 := F0 m 276 ls [.int a]) rfl ?_
  refine lv_aload_n hx hb dL_276 rfl (lv_at hl 2 rfl) ?_
  refine lv_aload_n hx hb dL_277 rfl (lv_at hl 0 rfl) ?_
  refine lv_iload_n hx hb dL_278 rfl (lv_at hl 3 rfl) ?_
  refine lv_iconst (v := nI 1) hx hb dL_279 (by decide +kernel) ?_
  refine lv_iadd hx hb dL_280 ?_
  refine va_sld hx hb hX hbl hbA hS (hin 1 (by decide)) dL_281 ?_
  refine lw_call (M := M_X10_state) (d := 700) (y := 233) (b := 0) (as := [.int (xs (nI i + nI 1).toNatClampNeg)]) (ad := ad) (rest := [.int a]) hx hb hml hown hw hN hK hP hD hS hA hC2 rfl rfl rfl rfl (List.mem_of_getElem? (i := 1410) (by decide +kernel)) (Nat.le_of_ble_eq_true rfl) (Nat.le_of_ble_eq_true rfl) (Nat.le_of_ble_eq_true rfl) (Nat.le_of_ble_eq_true rfl) hl.1 rfl (Nat.le_of_ble_eq_true rfl) dL_282 (fun v σ2 H locs hq hP hD hS => ?_)
  obtain ⟨rfl, hI2⟩ := hq
  refine W.eq (g2 := F0 m 285 ls [.int a, .int a]) rfl ?_
  exact lv_icmp_eq (tgt := 647) hx hb dL_285 (by decide) (fun _ => kk σ2 H locs hI2 hP hD hS) (fun z => absurd rfl z)
set_option maxHeartbeats 4000000 in
set_option maxRecDepth 100000 in
theorem lw_c8 (h : LwC p s m meth c b L xs D cA cR) (hL : L ≤ 2560) {i : Nat} (hi : i + 5 ≤ L) {ls : Array Slot} (hl : lv_has ls 4 [(0, .ref b), (1, .ref (ad 41)), (2, .ref (ad 0)), (3, .int (nI i))]) (kk : LwK p l e s m below meth c b D ad cA cR ls 647) : LwK p l e s m below meth c b D ad cA cR ls 290 := by
  obtain ⟨⟨hx, hb, hr, hml, hown, hts, hX, hbl, hlocks, hgv⟩, hN, hK⟩ := h
  have hw : ∀ w ∈ am_ws, w.before _ s = true := fun w hw => hts w (List.mem_filter.mp hw).1
  have hA : ∀ q : Nat, s.heap.size ≤ q → (fun q : Nat => s.heap.size ≤ q) q := fun _ h => h
  have hbA : ¬ (fun q : Nat => s.heap.size ≤ q) b := Nat.not_le.mpr hbl
  have hin : ∀ k, k < 5 → vp_in (nI i + nI k) L := fun k hk => by rw [nI_add]; exact vp_in_nI (by omega) (by omega)
  intro σ H locs hI hP hD hS
  obtain ⟨a, hC⟩ := pr_would (d := 700) (by decide) hI (xs (nI i + nI 1).toNatClampNeg) (xs (nI i + nI 2).toNatClampNeg) (xs (nI i + nI 3).toNatClampNeg)
  refine lv_aload_n hx hb dL_290 rfl (lv_at hl 1 rfl) ?_
  refine lv_aload_n hx hb dL_291 rfl (lv_at hl 0 rfl) ?_
  refine lv_iload_n hx hb dL_292 rfl (lv_at hl 3 rfl) ?_
  refine lv_iconst (v := nI 1) hx hb dL_293 (by decide +kernel) ?_
  refine lv_iadd hx hb dL_294 ?_
  refine va_sld hx hb hX hbl hbA hS (hin 1 (by decide)) dL_295 ?_
  refine lv_aload_n hx hb dL_296 rfl (lv_at hl 0 rfl) ?_
  refine lv_iload_n hx hb dL_297 rfl (lv_at hl 3 rfl) ?_
  refine lv_iconst (v := nI 2) hx hb dL_298 (by decide +kernel) ?_
  refine lv_iadd hx hb dL_299 ?_
  refine va_sld hx hb hX hbl hbA hS (hin 2 (by decide)) dL_300 ?_
  refine lv_aload_n hx hb dL_301 rfl (lv_at hl 0 rfl) ?_
  refine lv_iload_n hx hb dL_302 rfl (lv_at hl 3 rfl) ?_
  refine lv_iconst (v := nI 3) hx hb dL_303 (by decide +kernel) ?_
  refine lv_iadd hx hb dL_304 ?_
  refine va_sld hx hb hX hbl hbA hS (hin 3 (by decide)) dL_305 ?_
  refine lw_call (M := M_X9_would) (d := 700) (y := 130) (b := 41) (as := [.int (xs (nI i + nI 1).toNatClampNeg), .int (xs (nI i + nI 2).toNatClampNeg), .int (xs (nI i + nI 3).toNatClampNeg)]) (ad := ad) (rest := []) hx hb hml hown hw hN hK hP hD hS hA hC rfl rfl rfl rfl (List.mem_of_getElem? (i := 719) (by decide +kernel)) (Nat.le_of_ble_eq_true rfl) (Nat.le_of_ble_eq_true rfl) (Nat.le_of_ble_eq_true rfl) (Nat.le_of_ble_eq_true rfl) hl.1 rfl (Nat.le_of_ble_eq_true rfl) dL_306 (fun v σ1 H locs hq hP hD hS => ?_)
  obtain ⟨rfl, hC2⟩ := hq
  refine W.eq (g2 := F0 m 309 ls [.int a]) rfl ?_
  refine lv_aload_n hx hb dL_309 rfl (lv_at hl 2 rfl) ?_
  refine lv_aload_n hx hb dL_310 rfl (lv_at hl 0 rfl) ?_
  refine lv_iload_n hx hb dL_311 rfl (lv_at hl 3 rfl) ?_
  refine lv_iconst (v := nI 1) hx hb dL_312 (by decide +kernel) ?_
  refine lv_iadd hx hb dL_313 ?_
  refine va_sld hx hb hX hbl hbA hS (hin 1 (by decide)) dL_314 ?_
  refine lv_aload_n hx hb dL_315 rfl (lv_at hl 0 rfl) ?_
  refine lv_iload_n hx hb dL_316 rfl (lv_at hl 3 rfl) ?_
  refine lv_iconst (v := nI 2) hx hb dL_317 (by decide +kernel) ?_
  refine lv_iadd hx hb dL_318 ?_
  refine va_sld hx hb hX hbl hbA hS (hin 2 (by decide)) dL_319 ?_
  refine lv_aload_n hx hb dL_320 rfl (lv_at hl 0 rfl) ?_
  refine lv_iload_n hx hb dL_321 rfl (lv_at hl 3 rfl) ?_
  refine lv_iconst (v := nI 3) hx hb dL_322 (by decide +kernel) ?_
  refine lv_iadd hx hb dL_323 ?_
  refine va_sld hx hb hX hbl hbA hS (hin 3 (by decide)) dL_324 ?_
  refine lw_call (M := M_X10_would) (d := 700) (y := 234) (b := 0) (as := [.int (xs (nI i + nI 1).toNatClampNeg), .int (xs (nI i + nI 2).toNatClampNeg), .int (xs (nI i + nI 3).toNatClampNeg)]) (ad := ad) (rest := [.int a]) hx hb hml hown hw hN hK hP hD hS hA hC2 rfl rfl rfl rfl (List.mem_of_getElem? (i := 1414) (by decide +kernel)) (Nat.le_of_ble_eq_true rfl) (Nat.le_of_ble_eq_true rfl) (Nat.le_of_ble_eq_true rfl) (Nat.le_of_ble_eq_true rfl) hl.1 rfl (Nat.le_of_ble_eq_true rfl) dL_325 (fun v σ2 H locs hq hP hD hS => ?_)
  obtain ⟨rfl, hI2⟩ := hq
  refine W.eq (g2 := F0 m 328 ls [.int a, .int a]) rfl ?_
  exact lv_icmp_eq (tgt := 647) hx hb dL_328 (by decide) (fun _ => kk σ2 H locs hI2 hP hD hS) (fun z => absurd rfl z)
set_option maxHeartbeats 4000000 in
set_option maxRecDepth 100000 in
theorem lw_c9 (h : LwC p s m meth c b L xs D cA cR) (hL : L ≤ 2560) {i : Nat} (hi : i + 5 ≤ L) {ls : Array Slot} (hl : lv_has ls 4 [(0, .ref b), (1, .ref (ad 41)), (2, .ref (ad 0)), (3, .int (nI i))]) (kk : LwK p l e s m below meth c b D ad cA cR ls 647) : LwK p l e s m below meth c b D ad cA cR ls 333 := by
  obtain ⟨⟨hx, hb, hr, hml, hown, hts, hX, hbl, hlocks, hgv⟩, hN, hK⟩ := h
  have hw : ∀ w ∈ am_ws, w.before _ s = true := fun w hw => hts w (List.mem_filter.mp hw).1
  have hA : ∀ q : Nat, s.heap.size ≤ q → (fun q : Nat => s.heap.size ≤ q) q := fun _ h => h
  have hbA : ¬ (fun q : Nat => s.heap.size ≤ q) b := Nat.not_le.mpr hbl
  have hin : ∀ k, k < 5 → vp_in (nI i + nI k) L := fun k hk => by rw [nI_add]; exact vp_in_nI (by omega) (by omega)
  intro σ H locs hI hP hD hS
  obtain ⟨a, hC⟩ := pr_found (d := 700) (by decide) hI (xs (nI i + nI 1).toNatClampNeg) (xs (nI i + nI 2).toNatClampNeg) (xs (nI i + nI 3).toNatClampNeg) (xs (nI i + nI 4).toNatClampNeg)
  refine lv_aload_n hx hb dL_333 rfl (lv_at hl 1 rfl) ?_
  refine lv_aload_n hx hb dL_334 rfl (lv_at hl 0 rfl) ?_
  refine lv_iload_n hx hb dL_335 rfl (lv_at hl 3 rfl) ?_
  refine lv_iconst (v := nI 1) hx hb dL_336 (by decide +kernel) ?_
  refine lv_iadd hx hb dL_337 ?_
  refine va_sld hx hb hX hbl hbA hS (hin 1 (by decide)) dL_338 ?_
  refine lv_aload_n hx hb dL_339 rfl (lv_at hl 0 rfl) ?_
  refine lv_iload_n hx hb dL_340 rfl (lv_at hl 3 rfl) ?_
  refine lv_iconst (v := nI 2) hx hb dL_341 (by decide +kernel) ?_
  refine lv_iadd hx hb dL_342 ?_
  refine va_sld hx hb hX hbl hbA hS (hin 2 (by decide)) dL_343 ?_
  refine lv_aload_n hx hb dL_344 rfl (lv_at hl 0 rfl) ?_
  refine lv_iload_n hx hb dL_345 rfl (lv_at hl 3 rfl) ?_
  refine lv_iconst (v := nI 3) hx hb dL_346 (by decide +kernel) ?_
  refine lv_iadd hx hb dL_347 ?_
  refine va_sld hx hb hX hbl hbA hS (hin 3 (by decide)) dL_348 ?_
  refine lv_aload_n hx hb dL_349 rfl (lv_at hl 0 rfl) ?_
  refine lv_iload_n hx hb dL_350 rfl (lv_at hl 3 rfl) ?_
  refine lv_iconst (v := nI 4) hx hb dL_351 (by decide +kernel) ?_
  refine lv_iadd hx hb dL_352 ?_
  refine va_sld hx hb hX hbl hbA hS (hin 4 (by decide)) dL_353 ?_
  refine lw_call (M := M_X9_found) (d := 700) (y := 131) (b := 41) (as := [.int (xs (nI i + nI 1).toNatClampNeg), .int (xs (nI i + nI 2).toNatClampNeg), .int (xs (nI i + nI 3).toNatClampNeg), .int (xs (nI i + nI 4).toNatClampNeg)]) (ad := ad) (rest := []) hx hb hml hown hw hN hK hP hD hS hA hC rfl rfl rfl rfl (List.mem_of_getElem? (i := 735) (by decide +kernel)) (Nat.le_of_ble_eq_true rfl) (Nat.le_of_ble_eq_true rfl) (Nat.le_of_ble_eq_true rfl) (Nat.le_of_ble_eq_true rfl) hl.1 rfl (Nat.le_of_ble_eq_true rfl) dL_354 (fun v σ1 H locs hq hP hD hS => ?_)
  obtain ⟨rfl, hC2⟩ := hq
  refine W.eq (g2 := F0 m 357 ls [.int a]) rfl ?_
  refine lv_aload_n hx hb dL_357 rfl (lv_at hl 2 rfl) ?_
  refine lv_aload_n hx hb dL_358 rfl (lv_at hl 0 rfl) ?_
  refine lv_iload_n hx hb dL_359 rfl (lv_at hl 3 rfl) ?_
  refine lv_iconst (v := nI 1) hx hb dL_360 (by decide +kernel) ?_
  refine lv_iadd hx hb dL_361 ?_
  refine va_sld hx hb hX hbl hbA hS (hin 1 (by decide)) dL_362 ?_
  refine lv_aload_n hx hb dL_363 rfl (lv_at hl 0 rfl) ?_
  refine lv_iload_n hx hb dL_364 rfl (lv_at hl 3 rfl) ?_
  refine lv_iconst (v := nI 2) hx hb dL_365 (by decide +kernel) ?_
  refine lv_iadd hx hb dL_366 ?_
  refine va_sld hx hb hX hbl hbA hS (hin 2 (by decide)) dL_367 ?_
  refine lv_aload_n hx hb dL_368 rfl (lv_at hl 0 rfl) ?_
  refine lv_iload_n hx hb dL_369 rfl (lv_at hl 3 rfl) ?_
  refine lv_iconst (v := nI 3) hx hb dL_370 (by decide +kernel) ?_
  refine lv_iadd hx hb dL_371 ?_
  refine va_sld hx hb hX hbl hbA hS (hin 3 (by decide)) dL_372 ?_
  refine lv_aload_n hx hb dL_373 rfl (lv_at hl 0 rfl) ?_
  refine lv_iload_n hx hb dL_374 rfl (lv_at hl 3 rfl) ?_
  refine lv_iconst (v := nI 4) hx hb dL_375 (by decide +kernel) ?_
  refine lv_iadd hx hb dL_376 ?_
  refine va_sld hx hb hX hbl hbA hS (hin 4 (by decide)) dL_377 ?_
  refine lw_call (M := M_X10_found) (d := 700) (y := 235) (b := 0) (as := [.int (xs (nI i + nI 1).toNatClampNeg), .int (xs (nI i + nI 2).toNatClampNeg), .int (xs (nI i + nI 3).toNatClampNeg), .int (xs (nI i + nI 4).toNatClampNeg)]) (ad := ad) (rest := [.int a]) hx hb hml hown hw hN hK hP hD hS hA hC2 rfl rfl rfl rfl (List.mem_of_getElem? (i := 1418) (by decide +kernel)) (Nat.le_of_ble_eq_true rfl) (Nat.le_of_ble_eq_true rfl) (Nat.le_of_ble_eq_true rfl) (Nat.le_of_ble_eq_true rfl) hl.1 rfl (Nat.le_of_ble_eq_true rfl) dL_378 (fun v σ2 H locs hq hP hD hS => ?_)
  obtain ⟨rfl, hI2⟩ := hq
  refine W.eq (g2 := F0 m 381 ls [.int a, .int a]) rfl ?_
  exact lv_icmp_eq (tgt := 647) hx hb dL_381 (by decide) (fun _ => kk σ2 H locs hI2 hP hD hS) (fun z => absurd rfl z)
set_option maxHeartbeats 4000000 in
set_option maxRecDepth 100000 in
theorem lw_c10 (h : LwC p s m meth c b L xs D cA cR) (hL : L ≤ 2560) {i : Nat} (hi : i + 5 ≤ L) {ls : Array Slot} (hl : lv_has ls 4 [(0, .ref b), (1, .ref (ad 41)), (2, .ref (ad 0)), (3, .int (nI i))]) (kk : LwK p l e s m below meth c b D ad cA cR ls 647) : LwK p l e s m below meth c b D ad cA cR ls 386 := by
  obtain ⟨⟨hx, hb, hr, hml, hown, hts, hX, hbl, hlocks, hgv⟩, hN, hK⟩ := h
  have hw : ∀ w ∈ am_ws, w.before _ s = true := fun w hw => hts w (List.mem_filter.mp hw).1
  have hA : ∀ q : Nat, s.heap.size ≤ q → (fun q : Nat => s.heap.size ≤ q) q := fun _ h => h
  have hbA : ¬ (fun q : Nat => s.heap.size ≤ q) b := Nat.not_le.mpr hbl
  have hin : ∀ k, k < 5 → vp_in (nI i + nI k) L := fun k hk => by rw [nI_add]; exact vp_in_nI (by omega) (by omega)
  intro σ H locs hI hP hD hS
  obtain ⟨a, hC⟩ := pr_waits (d := 700) (by decide) hI (xs (nI i + nI 1).toNatClampNeg) (xs (nI i + nI 2).toNatClampNeg) (xs (nI i + nI 3).toNatClampNeg)
  refine lv_aload_n hx hb dL_386 rfl (lv_at hl 1 rfl) ?_
  refine lv_aload_n hx hb dL_387 rfl (lv_at hl 0 rfl) ?_
  refine lv_iload_n hx hb dL_388 rfl (lv_at hl 3 rfl) ?_
  refine lv_iconst (v := nI 1) hx hb dL_389 (by decide +kernel) ?_
  refine lv_iadd hx hb dL_390 ?_
  refine va_sld hx hb hX hbl hbA hS (hin 1 (by decide)) dL_391 ?_
  refine lv_aload_n hx hb dL_392 rfl (lv_at hl 0 rfl) ?_
  refine lv_iload_n hx hb dL_393 rfl (lv_at hl 3 rfl) ?_
  refine lv_iconst (v := nI 2) hx hb dL_394 (by decide +kernel) ?_
  refine lv_iadd hx hb dL_395 ?_
  refine va_sld hx hb hX hbl hbA hS (hin 2 (by decide)) dL_396 ?_
  refine lv_aload_n hx hb dL_397 rfl (lv_at hl 0 rfl) ?_
  refine lv_iload_n hx hb dL_398 rfl (lv_at hl 3 rfl) ?_
  refine lv_iconst (v := nI 3) hx hb dL_399 (by decide +kernel) ?_
  refine lv_iadd hx hb dL_400 ?_
  refine va_sld hx hb hX hbl hbA hS (hin 3 (by decide)) dL_401 ?_
  refine lw_call (M := M_X9_waits) (d := 700) (y := 132) (b := 41) (as := [.int (xs (nI i + nI 1).toNatClampNeg), .int (xs (nI i + nI 2).toNatClampNeg), .int (xs (nI i + nI 3).toNatClampNeg)]) (ad := ad) (rest := []) hx hb hml hown hw hN hK hP hD hS hA hC rfl rfl rfl rfl (List.mem_of_getElem? (i := 745) (by decide +kernel)) (Nat.le_of_ble_eq_true rfl) (Nat.le_of_ble_eq_true rfl) (Nat.le_of_ble_eq_true rfl) (Nat.le_of_ble_eq_true rfl) hl.1 rfl (Nat.le_of_ble_eq_true rfl) dL_402 (fun v σ1 H locs hq hP hD hS => ?_)
  obtain ⟨rfl, hC2⟩ := hq
  refine W.eq (g2 := F0 m 405 ls [.int a]) rfl ?_
  refine lv_aload_n hx hb dL_405 rfl (lv_at hl 2 rfl) ?_
  refine lv_aload_n hx hb dL_406 rfl (lv_at hl 0 rfl) ?_
  refine lv_iload_n hx hb dL_407 rfl (lv_at hl 3 rfl) ?_
  refine lv_iconst (v := nI 1) hx hb dL_408 (by decide +kernel) ?_
  refine lv_iadd hx hb dL_409 ?_
  refine va_sld hx hb hX hbl hbA hS (hin 1 (by decide)) dL_410 ?_
  refine lv_aload_n hx hb dL_411 rfl (lv_at hl 0 rfl) ?_
  refine lv_iload_n hx hb dL_412 rfl (lv_at hl 3 rfl) ?_
  refine lv_iconst (v := nI 2) hx hb dL_413 (by decide +kernel) ?_
  refine lv_iadd hx hb dL_414 ?_
  refine va_sld hx hb hX hbl hbA hS (hin 2 (by decide)) dL_415 ?_
  refine lv_aload_n hx hb dL_416 rfl (lv_at hl 0 rfl) ?_
  refine lv_iload_n hx hb dL_417 rfl (lv_at hl 3 rfl) ?_
  refine lv_iconst (v := nI 3) hx hb dL_418 (by decide +kernel) ?_
  refine lv_iadd hx hb dL_419 ?_
  refine va_sld hx hb hX hbl hbA hS (hin 3 (by decide)) dL_420 ?_
  refine lw_call (M := M_X10_waits) (d := 700) (y := 237) (b := 0) (as := [.int (xs (nI i + nI 1).toNatClampNeg), .int (xs (nI i + nI 2).toNatClampNeg), .int (xs (nI i + nI 3).toNatClampNeg)]) (ad := ad) (rest := [.int a]) hx hb hml hown hw hN hK hP hD hS hA hC2 rfl rfl rfl rfl (List.mem_of_getElem? (i := 1422) (by decide +kernel)) (Nat.le_of_ble_eq_true rfl) (Nat.le_of_ble_eq_true rfl) (Nat.le_of_ble_eq_true rfl) (Nat.le_of_ble_eq_true rfl) hl.1 rfl (Nat.le_of_ble_eq_true rfl) dL_421 (fun v σ2 H locs hq hP hD hS => ?_)
  obtain ⟨rfl, hI2⟩ := hq
  refine W.eq (g2 := F0 m 424 ls [.int a, .int a]) rfl ?_
  exact lv_icmp_eq (tgt := 647) hx hb dL_424 (by decide) (fun _ => kk σ2 H locs hI2 hP hD hS) (fun z => absurd rfl z)
set_option maxHeartbeats 4000000 in
set_option maxRecDepth 100000 in
theorem lw_c11 (h : LwC p s m meth c b L xs D cA cR) (hL : L ≤ 2560) {i : Nat} (hi : i + 5 ≤ L) {ls : Array Slot} (hl : lv_has ls 4 [(0, .ref b), (1, .ref (ad 41)), (2, .ref (ad 0)), (3, .int (nI i))]) (kk : LwK p l e s m below meth c b D ad cA cR ls 647) : LwK p l e s m below meth c b D ad cA cR ls 429 := by
  obtain ⟨⟨hx, hb, hr, hml, hown, hts, hX, hbl, hlocks, hgv⟩, hN, hK⟩ := h
  have hw : ∀ w ∈ am_ws, w.before _ s = true := fun w hw => hts w (List.mem_filter.mp hw).1
  have hA : ∀ q : Nat, s.heap.size ≤ q → (fun q : Nat => s.heap.size ≤ q) q := fun _ h => h
  have hbA : ¬ (fun q : Nat => s.heap.size ≤ q) b := Nat.not_le.mpr hbl
  have hin : ∀ k, k < 5 → vp_in (nI i + nI k) L := fun k hk => by rw [nI_add]; exact vp_in_nI (by omega) (by omega)
  intro σ H locs hI hP hD hS
  obtain ⟨a, hC⟩ := pr_ring (d := 700) (by decide) hI (xs (nI i + nI 1).toNatClampNeg) (xs (nI i + nI 2).toNatClampNeg)
  refine lv_aload_n hx hb dL_429 rfl (lv_at hl 1 rfl) ?_
  refine lv_aload_n hx hb dL_430 rfl (lv_at hl 0 rfl) ?_
  refine lv_iload_n hx hb dL_431 rfl (lv_at hl 3 rfl) ?_
  refine lv_iconst (v := nI 1) hx hb dL_432 (by decide +kernel) ?_
  refine lv_iadd hx hb dL_433 ?_
  refine va_sld hx hb hX hbl hbA hS (hin 1 (by decide)) dL_434 ?_
  refine lv_aload_n hx hb dL_435 rfl (lv_at hl 0 rfl) ?_
  refine lv_iload_n hx hb dL_436 rfl (lv_at hl 3 rfl) ?_
  refine lv_iconst (v := nI 2) hx hb dL_437 (by decide +kernel) ?_
  refine lv_iadd hx hb dL_438 ?_
  refine va_sld hx hb hX hbl hbA hS (hin 2 (by decide)) dL_439 ?_
  refine lw_call (M := M_X9_ring) (d := 700) (y := 133) (b := 41) (as := [.int (xs (nI i + nI 1).toNatClampNeg), .int (xs (nI i + nI 2).toNatClampNeg)]) (ad := ad) (rest := []) hx hb hml hown hw hN hK hP hD hS hA hC rfl rfl rfl rfl (List.mem_of_getElem? (i := 757) (by decide +kernel)) (Nat.le_of_ble_eq_true rfl) (Nat.le_of_ble_eq_true rfl) (Nat.le_of_ble_eq_true rfl) (Nat.le_of_ble_eq_true rfl) hl.1 rfl (Nat.le_of_ble_eq_true rfl) dL_440 (fun v σ1 H locs hq hP hD hS => ?_)
  obtain ⟨rfl, hC2⟩ := hq
  refine W.eq (g2 := F0 m 443 ls [.int a]) rfl ?_
  refine lv_aload_n hx hb dL_443 rfl (lv_at hl 2 rfl) ?_
  refine lv_aload_n hx hb dL_444 rfl (lv_at hl 0 rfl) ?_
  refine lv_iload_n hx hb dL_445 rfl (lv_at hl 3 rfl) ?_
  refine lv_iconst (v := nI 1) hx hb dL_446 (by decide +kernel) ?_
  refine lv_iadd hx hb dL_447 ?_
  refine va_sld hx hb hX hbl hbA hS (hin 1 (by decide)) dL_448 ?_
  refine lv_aload_n hx hb dL_449 rfl (lv_at hl 0 rfl) ?_
  refine lv_iload_n hx hb dL_450 rfl (lv_at hl 3 rfl) ?_
  refine lv_iconst (v := nI 2) hx hb dL_451 (by decide +kernel) ?_
  refine lv_iadd hx hb dL_452 ?_
  refine va_sld hx hb hX hbl hbA hS (hin 2 (by decide)) dL_453 ?_
  refine lw_call (M := M_X10_ring) (d := 700) (y := 239) (b := 0) (as := [.int (xs (nI i + nI 1).toNatClampNeg), .int (xs (nI i + nI 2).toNatClampNeg)]) (ad := ad) (rest := [.int a]) hx hb hml hown hw hN hK hP hD hS hA hC2 rfl rfl rfl rfl (List.mem_of_getElem? (i := 1430) (by decide +kernel)) (Nat.le_of_ble_eq_true rfl) (Nat.le_of_ble_eq_true rfl) (Nat.le_of_ble_eq_true rfl) (Nat.le_of_ble_eq_true rfl) hl.1 rfl (Nat.le_of_ble_eq_true rfl) dL_454 (fun v σ2 H locs hq hP hD hS => ?_)
  obtain ⟨rfl, hI2⟩ := hq
  refine W.eq (g2 := F0 m 457 ls [.int a, .int a]) rfl ?_
  exact lv_icmp_eq (tgt := 647) hx hb dL_457 (by decide) (fun _ => kk σ2 H locs hI2 hP hD hS) (fun z => absurd rfl z)
set_option maxHeartbeats 4000000 in
set_option maxRecDepth 100000 in
theorem lw_c12 (h : LwC p s m meth c b L xs D cA cR) (hL : L ≤ 2560) {i : Nat} (hi : i + 5 ≤ L) {ls : Array Slot} (hl : lv_has ls 4 [(0, .ref b), (1, .ref (ad 41)), (2, .ref (ad 0)), (3, .int (nI i))]) (kk : LwK p l e s m below meth c b D ad cA cR ls 647) : LwK p l e s m below meth c b D ad cA cR ls 462 := by
  obtain ⟨⟨hx, hb, hr, hml, hown, hts, hX, hbl, hlocks, hgv⟩, hN, hK⟩ := h
  have hw : ∀ w ∈ am_ws, w.before _ s = true := fun w hw => hts w (List.mem_filter.mp hw).1
  have hA : ∀ q : Nat, s.heap.size ≤ q → (fun q : Nat => s.heap.size ≤ q) q := fun _ h => h
  have hbA : ¬ (fun q : Nat => s.heap.size ≤ q) b := Nat.not_le.mpr hbl
  have hin : ∀ k, k < 5 → vp_in (nI i + nI k) L := fun k hk => by rw [nI_add]; exact vp_in_nI (by omega) (by omega)
  intro σ H locs hI hP hD hS
  obtain ⟨a, hC⟩ := pr_states (d := 700) (by decide) hI (xs (nI i + nI 1).toNatClampNeg) (xs (nI i + nI 2).toNatClampNeg) (xs (nI i + nI 3).toNatClampNeg)
  refine lv_aload_n hx hb dL_462 rfl (lv_at hl 1 rfl) ?_
  refine lv_aload_n hx hb dL_463 rfl (lv_at hl 0 rfl) ?_
  refine lv_iload_n hx hb dL_464 rfl (lv_at hl 3 rfl) ?_
  refine lv_iconst (v := nI 1) hx hb dL_465 (by decide +kernel) ?_
  refine lv_iadd hx hb dL_466 ?_
  refine va_sld hx hb hX hbl hbA hS (hin 1 (by decide)) dL_467 ?_
  refine lv_aload_n hx hb dL_468 rfl (lv_at hl 0 rfl) ?_
  refine lv_iload_n hx hb dL_469 rfl (lv_at hl 3 rfl) ?_
  refine lv_iconst (v := nI 2) hx hb dL_470 (by decide +kernel) ?_
  refine lv_iadd hx hb dL_471 ?_
  refine va_sld hx hb hX hbl hbA hS (hin 2 (by decide)) dL_472 ?_
  refine lv_aload_n hx hb dL_473 rfl (lv_at hl 0 rfl) ?_
  refine lv_iload_n hx hb dL_474 rfl (lv_at hl 3 rfl) ?_
  refine lv_iconst (v := nI 3) hx hb dL_475 (by decide +kernel) ?_
  refine lv_iadd hx hb dL_476 ?_
  refine va_sld hx hb hX hbl hbA hS (hin 3 (by decide)) dL_477 ?_
  refine lw_call (M := M_X9_states) (d := 700) (y := 134) (b := 41) (as := [.int (xs (nI i + nI 1).toNatClampNeg), .int (xs (nI i + nI 2).toNatClampNeg), .int (xs (nI i + nI 3).toNatClampNeg)]) (ad := ad) (rest := []) hx hb hml hown hw hN hK hP hD hS hA hC rfl rfl rfl rfl (List.mem_of_getElem? (i := 775) (by decide +kernel)) (Nat.le_of_ble_eq_true rfl) (Nat.le_of_ble_eq_true rfl) (Nat.le_of_ble_eq_true rfl) (Nat.le_of_ble_eq_true rfl) hl.1 rfl (Nat.le_of_ble_eq_true rfl) dL_478 (fun v σ1 H locs hq hP hD hS => ?_)
  obtain ⟨rfl, hC2⟩ := hq
  refine W.eq (g2 := F0 m 481 ls [.int a]) rfl ?_
  refine lv_aload_n hx hb dL_481 rfl (lv_at hl 2 rfl) ?_
  refine lv_aload_n hx hb dL_482 rfl (lv_at hl 0 rfl) ?_
  refine lv_iload_n hx hb dL_483 rfl (lv_at hl 3 rfl) ?_
  refine lv_iconst (v := nI 1) hx hb dL_484 (by decide +kernel) ?_
  refine lv_iadd hx hb dL_485 ?_
  refine va_sld hx hb hX hbl hbA hS (hin 1 (by decide)) dL_486 ?_
  refine lv_aload_n hx hb dL_487 rfl (lv_at hl 0 rfl) ?_
  refine lv_iload_n hx hb dL_488 rfl (lv_at hl 3 rfl) ?_
  refine lv_iconst (v := nI 2) hx hb dL_489 (by decide +kernel) ?_
  refine lv_iadd hx hb dL_490 ?_
  refine va_sld hx hb hX hbl hbA hS (hin 2 (by decide)) dL_491 ?_
  refine lv_aload_n hx hb dL_492 rfl (lv_at hl 0 rfl) ?_
  refine lv_iload_n hx hb dL_493 rfl (lv_at hl 3 rfl) ?_
  refine lv_iconst (v := nI 3) hx hb dL_494 (by decide +kernel) ?_
  refine lv_iadd hx hb dL_495 ?_
  refine va_sld hx hb hX hbl hbA hS (hin 3 (by decide)) dL_496 ?_
  refine lw_call (M := M_X10_states) (d := 700) (y := 246) (b := 0) (as := [.int (xs (nI i + nI 1).toNatClampNeg), .int (xs (nI i + nI 2).toNatClampNeg), .int (xs (nI i + nI 3).toNatClampNeg)]) (ad := ad) (rest := [.int a]) hx hb hml hown hw hN hK hP hD hS hA hC2 rfl rfl rfl rfl (List.mem_of_getElem? (i := 1437) (by decide +kernel)) (Nat.le_of_ble_eq_true rfl) (Nat.le_of_ble_eq_true rfl) (Nat.le_of_ble_eq_true rfl) (Nat.le_of_ble_eq_true rfl) hl.1 rfl (Nat.le_of_ble_eq_true rfl) dL_497 (fun v σ2 H locs hq hP hD hS => ?_)
  obtain ⟨rfl, hI2⟩ := hq
  refine W.eq (g2 := F0 m 500 ls [.int a, .int a]) rfl ?_
  exact lv_icmp_eq (tgt := 647) hx hb dL_500 (by decide) (fun _ => kk σ2 H locs hI2 hP hD hS) (fun z => absurd rfl z)
set_option maxHeartbeats 4000000 in
set_option maxRecDepth 100000 in
theorem lw_c13 (h : LwC p s m meth c b L xs D cA cR) (hL : L ≤ 2560) {i : Nat} (hi : i + 5 ≤ L) {ls : Array Slot} (hl : lv_has ls 4 [(0, .ref b), (1, .ref (ad 41)), (2, .ref (ad 0)), (3, .int (nI i))]) (kk : LwK p l e s m below meth c b D ad cA cR ls 647) : LwK p l e s m below meth c b D ad cA cR ls 505 := by
  obtain ⟨⟨hx, hb, hr, hml, hown, hts, hX, hbl, hlocks, hgv⟩, hN, hK⟩ := h
  have hw : ∀ w ∈ am_ws, w.before _ s = true := fun w hw => hts w (List.mem_filter.mp hw).1
  have hA : ∀ q : Nat, s.heap.size ≤ q → (fun q : Nat => s.heap.size ≤ q) q := fun _ h => h
  have hbA : ¬ (fun q : Nat => s.heap.size ≤ q) b := Nat.not_le.mpr hbl
  have hin : ∀ k, k < 5 → vp_in (nI i + nI k) L := fun k hk => by rw [nI_add]; exact vp_in_nI (by omega) (by omega)
  intro σ H locs hI hP hD hS
  obtain ⟨a, hC⟩ := pr_soon (d := 700) (by decide) hI (xs (nI i + nI 1).toNatClampNeg) (xs (nI i + nI 2).toNatClampNeg) (xs (nI i + nI 3).toNatClampNeg)
  refine lv_aload_n hx hb dL_505 rfl (lv_at hl 1 rfl) ?_
  refine lv_aload_n hx hb dL_506 rfl (lv_at hl 0 rfl) ?_
  refine lv_iload_n hx hb dL_507 rfl (lv_at hl 3 rfl) ?_
  refine lv_iconst (v := nI 1) hx hb dL_508 (by decide +kernel) ?_
  refine lv_iadd hx hb dL_509 ?_
  refine va_sld hx hb hX hbl hbA hS (hin 1 (by decide)) dL_510 ?_
  refine lv_aload_n hx hb dL_511 rfl (lv_at hl 0 rfl) ?_
  refine lv_iload_n hx hb dL_512 rfl (lv_at hl 3 rfl) ?_
  refine lv_iconst (v := nI 2) hx hb dL_513 (by decide +kernel) ?_
  refine lv_iadd hx hb dL_514 ?_
  refine va_sld hx hb hX hbl hbA hS (hin 2 (by decide)) dL_515 ?_
  refine lv_aload_n hx hb dL_516 rfl (lv_at hl 0 rfl) ?_
  refine lv_iload_n hx hb dL_517 rfl (lv_at hl 3 rfl) ?_
  refine lv_iconst (v := nI 3) hx hb dL_518 (by decide +kernel) ?_
  refine lv_iadd hx hb dL_519 ?_
  refine va_sld hx hb hX hbl hbA hS (hin 3 (by decide)) dL_520 ?_
  refine lw_call (M := M_X9_soon) (d := 700) (y := 135) (b := 41) (as := [.int (xs (nI i + nI 1).toNatClampNeg), .int (xs (nI i + nI 2).toNatClampNeg), .int (xs (nI i + nI 3).toNatClampNeg)]) (ad := ad) (rest := []) hx hb hml hown hw hN hK hP hD hS hA hC rfl rfl rfl rfl (List.mem_of_getElem? (i := 857) (by decide +kernel)) (Nat.le_of_ble_eq_true rfl) (Nat.le_of_ble_eq_true rfl) (Nat.le_of_ble_eq_true rfl) (Nat.le_of_ble_eq_true rfl) hl.1 rfl (Nat.le_of_ble_eq_true rfl) dL_521 (fun v σ1 H locs hq hP hD hS => ?_)
  obtain ⟨rfl, hC2⟩ := hq
  refine W.eq (g2 := F0 m 524 ls [.int a]) rfl ?_
  refine lv_aload_n hx hb dL_524 rfl (lv_at hl 2 rfl) ?_
  refine lv_aload_n hx hb dL_525 rfl (lv_at hl 0 rfl) ?_
  refine lv_iload_n hx hb dL_526 rfl (lv_at hl 3 rfl) ?_
  refine lv_iconst (v := nI 1) hx hb dL_527 (by decide +kernel) ?_
  refine lv_iadd hx hb dL_528 ?_
  refine va_sld hx hb hX hbl hbA hS (hin 1 (by decide)) dL_529 ?_
  refine lv_aload_n hx hb dL_530 rfl (lv_at hl 0 rfl) ?_
  refine lv_iload_n hx hb dL_531 rfl (lv_at hl 3 rfl) ?_
  refine lv_iconst (v := nI 2) hx hb dL_532 (by decide +kernel) ?_
  refine lv_iadd hx hb dL_533 ?_
  refine va_sld hx hb hX hbl hbA hS (hin 2 (by decide)) dL_534 ?_
  refine lv_aload_n hx hb dL_535 rfl (lv_at hl 0 rfl) ?_
  refine lv_iload_n hx hb dL_536 rfl (lv_at hl 3 rfl) ?_
  refine lv_iconst (v := nI 3) hx hb dL_537 (by decide +kernel) ?_
  refine lv_iadd hx hb dL_538 ?_
  refine va_sld hx hb hX hbl hbA hS (hin 3 (by decide)) dL_539 ?_
  refine lw_call (M := M_X10_soon) (d := 700) (y := 248) (b := 0) (as := [.int (xs (nI i + nI 1).toNatClampNeg), .int (xs (nI i + nI 2).toNatClampNeg), .int (xs (nI i + nI 3).toNatClampNeg)]) (ad := ad) (rest := [.int a]) hx hb hml hown hw hN hK hP hD hS hA hC2 rfl rfl rfl rfl (List.mem_of_getElem? (i := 1466) (by decide +kernel)) (Nat.le_of_ble_eq_true rfl) (Nat.le_of_ble_eq_true rfl) (Nat.le_of_ble_eq_true rfl) (Nat.le_of_ble_eq_true rfl) hl.1 rfl (Nat.le_of_ble_eq_true rfl) dL_540 (fun v σ2 H locs hq hP hD hS => ?_)
  obtain ⟨rfl, hI2⟩ := hq
  refine W.eq (g2 := F0 m 543 ls [.int a, .int a]) rfl ?_
  exact lv_icmp_eq (tgt := 647) hx hb dL_543 (by decide) (fun _ => kk σ2 H locs hI2 hP hD hS) (fun z => absurd rfl z)
set_option maxHeartbeats 4000000 in
set_option maxRecDepth 100000 in
theorem lw_c14 (h : LwC p s m meth c b L xs D cA cR) (hL : L ≤ 2560) {i : Nat} (hi : i + 5 ≤ L) {ls : Array Slot} (hl : lv_has ls 4 [(0, .ref b), (1, .ref (ad 41)), (2, .ref (ad 0)), (3, .int (nI i))]) (kk : LwK p l e s m below meth c b D ad cA cR ls 647) : LwK p l e s m below meth c b D ad cA cR ls 548 := by
  obtain ⟨⟨hx, hb, hr, hml, hown, hts, hX, hbl, hlocks, hgv⟩, hN, hK⟩ := h
  have hw : ∀ w ∈ am_ws, w.before _ s = true := fun w hw => hts w (List.mem_filter.mp hw).1
  have hA : ∀ q : Nat, s.heap.size ≤ q → (fun q : Nat => s.heap.size ≤ q) q := fun _ h => h
  have hbA : ¬ (fun q : Nat => s.heap.size ≤ q) b := Nat.not_le.mpr hbl
  have hin : ∀ k, k < 5 → vp_in (nI i + nI k) L := fun k hk => by rw [nI_add]; exact vp_in_nI (by omega) (by omega)
  intro σ H locs hI hP hD hS
  obtain ⟨a, hC⟩ := pr_part (d := 700) (by decide) hI (xs (nI i + nI 1).toNatClampNeg)
  refine lv_aload_n hx hb dL_548 rfl (lv_at hl 1 rfl) ?_
  refine lv_aload_n hx hb dL_549 rfl (lv_at hl 0 rfl) ?_
  refine lv_iload_n hx hb dL_550 rfl (lv_at hl 3 rfl) ?_
  refine lv_iconst (v := nI 1) hx hb dL_551 (by decide +kernel) ?_
  refine lv_iadd hx hb dL_552 ?_
  refine va_sld hx hb hX hbl hbA hS (hin 1 (by decide)) dL_553 ?_
  refine lw_call (M := M_X9_part) (d := 700) (y := 136) (b := 41) (as := [.int (xs (nI i + nI 1).toNatClampNeg)]) (ad := ad) (rest := []) hx hb hml hown hw hN hK hP hD hS hA hC rfl rfl rfl rfl (List.mem_of_getElem? (i := 874) (by decide +kernel)) (Nat.le_of_ble_eq_true rfl) (Nat.le_of_ble_eq_true rfl) (Nat.le_of_ble_eq_true rfl) (Nat.le_of_ble_eq_true rfl) hl.1 rfl (Nat.le_of_ble_eq_true rfl) dL_554 (fun v σ1 H locs hq hP hD hS => ?_)
  obtain ⟨rfl, hC2⟩ := hq
  refine W.eq (g2 := F0 m 557 ls [.int a]) rfl ?_
  refine lv_aload_n hx hb dL_557 rfl (lv_at hl 2 rfl) ?_
  refine lv_aload_n hx hb dL_558 rfl (lv_at hl 0 rfl) ?_
  refine lv_iload_n hx hb dL_559 rfl (lv_at hl 3 rfl) ?_
  refine lv_iconst (v := nI 1) hx hb dL_560 (by decide +kernel) ?_
  refine lv_iadd hx hb dL_561 ?_
  refine va_sld hx hb hX hbl hbA hS (hin 1 (by decide)) dL_562 ?_
  refine lw_call (M := M_X10_part) (d := 700) (y := 250) (b := 0) (as := [.int (xs (nI i + nI 1).toNatClampNeg)]) (ad := ad) (rest := [.int a]) hx hb hml hown hw hN hK hP hD hS hA hC2 rfl rfl rfl rfl (List.mem_of_getElem? (i := 1474) (by decide +kernel)) (Nat.le_of_ble_eq_true rfl) (Nat.le_of_ble_eq_true rfl) (Nat.le_of_ble_eq_true rfl) (Nat.le_of_ble_eq_true rfl) hl.1 rfl (Nat.le_of_ble_eq_true rfl) dL_563 (fun v σ2 H locs hq hP hD hS => ?_)
  obtain ⟨rfl, hI2⟩ := hq
  refine W.eq (g2 := F0 m 566 ls [.int a, .int a]) rfl ?_
  exact lv_icmp_eq (tgt := 647) hx hb dL_566 (by decide) (fun _ => kk σ2 H locs hI2 hP hD hS) (fun z => absurd rfl z)
set_option maxHeartbeats 4000000 in
set_option maxRecDepth 100000 in
theorem lw_c15 (h : LwC p s m meth c b L xs D cA cR) (hL : L ≤ 2560) {i : Nat} (hi : i + 5 ≤ L) {ls : Array Slot} (hl : lv_has ls 4 [(0, .ref b), (1, .ref (ad 41)), (2, .ref (ad 0)), (3, .int (nI i))]) (kk : LwK p l e s m below meth c b D ad cA cR ls 647) : LwK p l e s m below meth c b D ad cA cR ls 571 := by
  obtain ⟨⟨hx, hb, hr, hml, hown, hts, hX, hbl, hlocks, hgv⟩, hN, hK⟩ := h
  have hw : ∀ w ∈ am_ws, w.before _ s = true := fun w hw => hts w (List.mem_filter.mp hw).1
  have hA : ∀ q : Nat, s.heap.size ≤ q → (fun q : Nat => s.heap.size ≤ q) q := fun _ h => h
  have hbA : ¬ (fun q : Nat => s.heap.size ≤ q) b := Nat.not_le.mpr hbl
  have hin : ∀ k, k < 5 → vp_in (nI i + nI k) L := fun k hk => by rw [nI_add]; exact vp_in_nI (by omega) (by omega)
  intro σ H locs hI hP hD hS
  obtain ⟨a, hC⟩ := pr_node (d := 700) (by decide) hI (xs (nI i + nI 1).toNatClampNeg) (xs (nI i + nI 2).toNatClampNeg) (xs (nI i + nI 3).toNatClampNeg)
  refine lv_aload_n hx hb dL_571 rfl (lv_at hl 1 rfl) ?_
  refine lv_aload_n hx hb dL_572 rfl (lv_at hl 0 rfl) ?_
  refine lv_iload_n hx hb dL_573 rfl (lv_at hl 3 rfl) ?_
  refine lv_iconst (v := nI 1) hx hb dL_574 (by decide +kernel) ?_
  refine lv_iadd hx hb dL_575 ?_
  refine va_sld hx hb hX hbl hbA hS (hin 1 (by decide)) dL_576 ?_
  refine lv_aload_n hx hb dL_577 rfl (lv_at hl 0 rfl) ?_
  refine lv_iload_n hx hb dL_578 rfl (lv_at hl 3 rfl) ?_
  refine lv_iconst (v := nI 2) hx hb dL_579 (by decide +kernel) ?_
  refine lv_iadd hx hb dL_580 ?_
  refine va_sld hx hb hX hbl hbA hS (hin 2 (by decide)) dL_581 ?_
  refine lv_aload_n hx hb dL_582 rfl (lv_at hl 0 rfl) ?_
  refine lv_iload_n hx hb dL_583 rfl (lv_at hl 3 rfl) ?_
  refine lv_iconst (v := nI 3) hx hb dL_584 (by decide +kernel) ?_
  refine lv_iadd hx hb dL_585 ?_
  refine va_sld hx hb hX hbl hbA hS (hin 3 (by decide)) dL_586 ?_
  refine lw_call (M := M_X9_node) (d := 700) (y := 137) (b := 41) (as := [.int (xs (nI i + nI 1).toNatClampNeg), .int (xs (nI i + nI 2).toNatClampNeg), .int (xs (nI i + nI 3).toNatClampNeg)]) (ad := ad) (rest := []) hx hb hml hown hw hN hK hP hD hS hA hC rfl rfl rfl rfl (List.mem_of_getElem? (i := 890) (by decide +kernel)) (Nat.le_of_ble_eq_true rfl) (Nat.le_of_ble_eq_true rfl) (Nat.le_of_ble_eq_true rfl) (Nat.le_of_ble_eq_true rfl) hl.1 rfl (Nat.le_of_ble_eq_true rfl) dL_587 (fun v σ1 H locs hq hP hD hS => ?_)
  obtain ⟨rfl, hC2⟩ := hq
  refine W.eq (g2 := F0 m 590 ls [.int a]) rfl ?_
  refine lv_aload_n hx hb dL_590 rfl (lv_at hl 2 rfl) ?_
  refine lv_aload_n hx hb dL_591 rfl (lv_at hl 0 rfl) ?_
  refine lv_iload_n hx hb dL_592 rfl (lv_at hl 3 rfl) ?_
  refine lv_iconst (v := nI 1) hx hb dL_593 (by decide +kernel) ?_
  refine lv_iadd hx hb dL_594 ?_
  refine va_sld hx hb hX hbl hbA hS (hin 1 (by decide)) dL_595 ?_
  refine lv_aload_n hx hb dL_596 rfl (lv_at hl 0 rfl) ?_
  refine lv_iload_n hx hb dL_597 rfl (lv_at hl 3 rfl) ?_
  refine lv_iconst (v := nI 2) hx hb dL_598 (by decide +kernel) ?_
  refine lv_iadd hx hb dL_599 ?_
  refine va_sld hx hb hX hbl hbA hS (hin 2 (by decide)) dL_600 ?_
  refine lv_aload_n hx hb dL_601 rfl (lv_at hl 0 rfl) ?_
  refine lv_iload_n hx hb dL_602 rfl (lv_at hl 3 rfl) ?_
  refine lv_iconst (v := nI 3) hx hb dL_603 (by decide +kernel) ?_
  refine lv_iadd hx hb dL_604 ?_
  refine va_sld hx hb hX hbl hbA hS (hin 3 (by decide)) dL_605 ?_
  refine lw_call (M := M_X10_node) (d := 700) (y := 252) (b := 0) (as := [.int (xs (nI i + nI 1).toNatClampNeg), .int (xs (nI i + nI 2).toNatClampNeg), .int (xs (nI i + nI 3).toNatClampNeg)]) (ad := ad) (rest := [.int a]) hx hb hml hown hw hN hK hP hD hS hA hC2 rfl rfl rfl rfl (List.mem_of_getElem? (i := 1482) (by decide +kernel)) (Nat.le_of_ble_eq_true rfl) (Nat.le_of_ble_eq_true rfl) (Nat.le_of_ble_eq_true rfl) (Nat.le_of_ble_eq_true rfl) hl.1 rfl (Nat.le_of_ble_eq_true rfl) dL_606 (fun v σ2 H locs hq hP hD hS => ?_)
  obtain ⟨rfl, hI2⟩ := hq
  refine W.eq (g2 := F0 m 609 ls [.int a, .int a]) rfl ?_
  exact lv_icmp_eq (tgt := 647) hx hb dL_609 (by decide) (fun _ => kk σ2 H locs hI2 hP hD hS) (fun z => absurd rfl z)
set_option maxHeartbeats 4000000 in
set_option maxRecDepth 100000 in
theorem lw_c16 (h : LwC p s m meth c b L xs D cA cR) (hL : L ≤ 2560) {i : Nat} (hi : i + 5 ≤ L) {ls : Array Slot} (hl : lv_has ls 4 [(0, .ref b), (1, .ref (ad 41)), (2, .ref (ad 0)), (3, .int (nI i))]) (kk : LwK p l e s m below meth c b D ad cA cR ls 647) : LwK p l e s m below meth c b D ad cA cR ls 614 := by
  obtain ⟨⟨hx, hb, hr, hml, hown, hts, hX, hbl, hlocks, hgv⟩, hN, hK⟩ := h
  have hw : ∀ w ∈ am_ws, w.before _ s = true := fun w hw => hts w (List.mem_filter.mp hw).1
  have hA : ∀ q : Nat, s.heap.size ≤ q → (fun q : Nat => s.heap.size ≤ q) q := fun _ h => h
  have hbA : ¬ (fun q : Nat => s.heap.size ≤ q) b := Nat.not_le.mpr hbl
  have hin : ∀ k, k < 5 → vp_in (nI i + nI k) L := fun k hk => by rw [nI_add]; exact vp_in_nI (by omega) (by omega)
  intro σ H locs hI hP hD hS
  obtain ⟨a, hC⟩ := pr_count (d := 700) (by decide) hI (xs (nI i + nI 1).toNatClampNeg) (xs (nI i + nI 2).toNatClampNeg)
  refine lv_aload_n hx hb dL_614 rfl (lv_at hl 1 rfl) ?_
  refine lv_aload_n hx hb dL_615 rfl (lv_at hl 0 rfl) ?_
  refine lv_iload_n hx hb dL_616 rfl (lv_at hl 3 rfl) ?_
  refine lv_iconst (v := nI 1) hx hb dL_617 (by decide +kernel) ?_
  refine lv_iadd hx hb dL_618 ?_
  refine va_sld hx hb hX hbl hbA hS (hin 1 (by decide)) dL_619 ?_
  refine lv_aload_n hx hb dL_620 rfl (lv_at hl 0 rfl) ?_
  refine lv_iload_n hx hb dL_621 rfl (lv_at hl 3 rfl) ?_
  refine lv_iconst (v := nI 2) hx hb dL_622 (by decide +kernel) ?_
  refine lv_iadd hx hb dL_623 ?_
  refine va_sld hx hb hX hbl hbA hS (hin 2 (by decide)) dL_624 ?_
  refine lw_call (M := M_X9_count) (d := 700) (y := 138) (b := 41) (as := [.int (xs (nI i + nI 1).toNatClampNeg), .int (xs (nI i + nI 2).toNatClampNeg)]) (ad := ad) (rest := []) hx hb hml hown hw hN hK hP hD hS hA hC rfl rfl rfl rfl (List.mem_of_getElem? (i := 907) (by decide +kernel)) (Nat.le_of_ble_eq_true rfl) (Nat.le_of_ble_eq_true rfl) (Nat.le_of_ble_eq_true rfl) (Nat.le_of_ble_eq_true rfl) hl.1 rfl (Nat.le_of_ble_eq_true rfl) dL_625 (fun v σ1 H locs hq hP hD hS => ?_)
  obtain ⟨rfl, hC2⟩ := hq
  refine W.eq (g2 := F0 m 628 ls [.int a]) rfl ?_
  refine lv_aload_n hx hb dL_628 rfl (lv_at hl 2 rfl) ?_
  refine lv_aload_n hx hb dL_629 rfl (lv_at hl 0 rfl) ?_
  refine lv_iload_n hx hb dL_630 rfl (lv_at hl 3 rfl) ?_
  refine lv_iconst (v := nI 1) hx hb dL_631 (by decide +kernel) ?_
  refine lv_iadd hx hb dL_632 ?_
  refine va_sld hx hb hX hbl hbA hS (hin 1 (by decide)) dL_633 ?_
  refine lv_aload_n hx hb dL_634 rfl (lv_at hl 0 rfl) ?_
  refine lv_iload_n hx hb dL_635 rfl (lv_at hl 3 rfl) ?_
  refine lv_iconst (v := nI 2) hx hb dL_636 (by decide +kernel) ?_
  refine lv_iadd hx hb dL_637 ?_
  refine va_sld hx hb hX hbl hbA hS (hin 2 (by decide)) dL_638 ?_
  refine lw_call (M := M_X10_count) (d := 700) (y := 253) (b := 0) (as := [.int (xs (nI i + nI 1).toNatClampNeg), .int (xs (nI i + nI 2).toNatClampNeg)]) (ad := ad) (rest := [.int a]) hx hb hml hown hw hN hK hP hD hS hA hC2 rfl rfl rfl rfl (List.mem_of_getElem? (i := 1490) (by decide +kernel)) (Nat.le_of_ble_eq_true rfl) (Nat.le_of_ble_eq_true rfl) (Nat.le_of_ble_eq_true rfl) (Nat.le_of_ble_eq_true rfl) hl.1 rfl (Nat.le_of_ble_eq_true rfl) dL_639 (fun v σ2 H locs hq hP hD hS => ?_)
  obtain ⟨rfl, hI2⟩ := hq
  refine W.eq (g2 := F0 m 642 ls [.int a, .int a]) rfl ?_
  exact lv_icmp_eq (tgt := 647) hx hb dL_642 (by decide) (fun _ => kk σ2 H locs hI2 hP hD hS) (fun z => absurd rfl z)
end Law

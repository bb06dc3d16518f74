/-! the makers of the small objects -/
theorem dX8_init_0 : decode cX8_init 0 = .ok (.aload_n 0, 1) := by decide +kernel
theorem dX8_init_1 : decode cX8_init 1 = .ok (.invokespecial 3, 3) := by decide +kernel
theorem dX8_init_4 : decode cX8_init 4 = .ok (.aload_n 0, 1) := by decide +kernel
theorem dX8_init_5 : decode cX8_init 5 = .ok (.bipush 60, 2) := by decide +kernel
theorem dX8_init_7 : decode cX8_init 7 = .ok (.newarray .int, 2) := by decide +kernel
theorem dX8_init_9 : decode cX8_init 9 = .ok (.putfield 9, 3) := by decide +kernel
theorem dX8_init_12 : decode cX8_init 12 = .ok (.aload_n 0, 1) := by decide +kernel
theorem dX8_init_13 : decode cX8_init 13 = .ok (.bipush 60, 2) := by decide +kernel
theorem dX8_init_15 : decode cX8_init 15 = .ok (.newarray .int, 2) := by decide +kernel
theorem dX8_init_17 : decode cX8_init 17 = .ok (.putfield 15, 3) := by decide +kernel
theorem dX8_init_20 : decode cX8_init 20 = .ok (.aload_n 0, 1) := by decide +kernel
theorem dX8_init_21 : decode cX8_init 21 = .ok (.bipush 60, 2) := by decide +kernel
theorem dX8_init_23 : decode cX8_init 23 = .ok (.newarray .int, 2) := by decide +kernel
theorem dX8_init_25 : decode cX8_init 25 = .ok (.putfield 18, 3) := by decide +kernel
theorem dX8_init_28 : decode cX8_init 28 = .ok (.aload_n 0, 1) := by decide +kernel
theorem dX8_init_29 : decode cX8_init 29 = .ok (.bipush 60, 2) := by decide +kernel
theorem dX8_init_31 : decode cX8_init 31 = .ok (.newarray .int, 2) := by decide +kernel
theorem dX8_init_33 : decode cX8_init 33 = .ok (.putfield 21, 3) := by decide +kernel
theorem dX8_init_36 : decode cX8_init 36 = .ok (.aload_n 0, 1) := by decide +kernel
theorem dX8_init_37 : decode cX8_init 37 = .ok (.bipush 60, 2) := by decide +kernel
theorem dX8_init_39 : decode cX8_init 39 = .ok (.newarray .int, 2) := by decide +kernel
theorem dX8_init_41 : decode cX8_init 41 = .ok (.putfield 24, 3) := by decide +kernel
theorem dX8_init_44 : decode cX8_init 44 = .ok (.aload_n 0, 1) := by decide +kernel
theorem dX8_init_45 : decode cX8_init 45 = .ok (.bipush 60, 2) := by decide +kernel
theorem dX8_init_47 : decode cX8_init 47 = .ok (.newarray .int, 2) := by decide +kernel
theorem dX8_init_49 : decode cX8_init 49 = .ok (.putfield 27, 3) := by decide +kernel
theorem dX8_init_52 : decode cX8_init 52 = .ok (.aload_n 0, 1) := by decide +kernel
theorem dX8_init_53 : decode cX8_init 53 = .ok (.bipush 60, 2) := by decide +kernel
theorem dX8_init_55 : decode cX8_init 55 = .ok (.newarray .int, 2) := by decide +kernel
theorem dX8_init_57 : decode cX8_init 57 = .ok (.putfield 30, 3) := by decide +kernel
theorem dX8_init_60 : decode cX8_init 60 = .ok (.aload_n 0, 1) := by decide +kernel
theorem dX8_init_61 : decode cX8_init 61 = .ok (.bipush 60, 2) := by decide +kernel
theorem dX8_init_63 : decode cX8_init 63 = .ok (.newarray .int, 2) := by decide +kernel
theorem dX8_init_65 : decode cX8_init 65 = .ok (.putfield 33, 3) := by decide +kernel
theorem dX8_init_68 : decode cX8_init 68 = .ok (.aload_n 0, 1) := by decide +kernel
theorem dX8_init_69 : decode cX8_init 69 = .ok (.iconst 0, 1) := by decide +kernel
theorem dX8_init_70 : decode cX8_init 70 = .ok (.putfield 36, 3) := by decide +kernel
theorem dX8_init_73 : decode cX8_init 73 = .ok (.aload_n 0, 1) := by decide +kernel
theorem dX8_init_74 : decode cX8_init 74 = .ok (.iconst 0, 1) := by decide +kernel
theorem dX8_init_75 : decode cX8_init 75 = .ok (.putfield 40, 3) := by decide +kernel
theorem dX8_init_78 : decode cX8_init 78 = .ok (.aload_n 0, 1) := by decide +kernel
theorem dX8_init_79 : decode cX8_init 79 = .ok (.iconst (-1), 1) := by decide +kernel
theorem dX8_init_80 : decode cX8_init 80 = .ok (.putfield 43, 3) := by decide +kernel
theorem dX8_init_83 : decode cX8_init 83 = .ok (.return_, 1) := by decide +kernel
set_option maxHeartbeats 4000000 in
set_option maxRecDepth 100000 in
theorem c_X8_init (l : Launch) (D : va_G) (cA : ClassId) (h0 sz : Nat) : Met l yX8_init (Cond.code yX8_init cX8_init 1 none :: am_ws) { frames := 1, cells := 8, slots := 480, locals := 20 } (knP D cA [.ref h0] [(h0, .inr (6, [.null, .null, .null, .null, .null, .null, .null, .null, .int 0, .int 0, .int 0]))] sz) (knQ D cA (fun a => [(h0, .inr (6, [.ref (a 0), .ref (a 1), .ref (a 2), .ref (a 3), .ref (a 4), .ref (a 5), .ref (a 6), .ref (a 7), .int (nI 0), .int (nI 0), .int (-1)])), ((a 0), zA cA 60), ((a 1), zA cA 60), ((a 2), zA cA 60), ((a 3), zA cA 60), ((a 4), zA cA 60), ((a 5), zA cA 60), ((a 6), zA cA 60), ((a 7), zA cA 60)]) (va_A [(h0, .inr (6, [.null, .null, .null, .null, .null, .null, .null, .null, .int 0, .int 0, .int 0]))] sz)) 8 480 (va_A [(h0, .inr (6, [.null, .null, .null, .null, .null, .null, .null, .null, .int 0, .int 0, .int 0]))] sz) := by
  refine Met.ofW (cc := cX8_init) (maxL := 1) (ret := none) (by decide) rfl ?_
  intro p e s m args below meth c s₁ B hml hv
  obtain ⟨rfl, hsz, hP, hK, hD0⟩ := hv
  have hx := B.exec
  have hb := B.bytes
  have hr := B.returns
  have hts := atoms_spec (ws := (Cond.code yX8_init cX8_init 1 none :: am_ws)) B.pre
  have hw : ∀ w ∈ am_ws, w.before _ s = true := fun w h => hts w (List.mem_cons_of_mem _ h)
  have hown : s.vm.findClass RX8 = some m.cls := findClass_of_methodNamed B.named
  have hin : meth.name = "<init>" := (name_of_methodNamed B.named B.method).1
  subst hsz
  have hD := hD0.self (sz := s.heap.size)
  generalize hAe : va_A [(h0, .inr (6, [.null, .null, .null, .null, .null, .null, .null, .null, .int 0, .int 0, .int 0]))] s.heap.size = A at hD ⊢
  have hA : ∀ q : Nat, s.heap.size ≤ q → A q := fun q h => by rw [← hAe]; exact Or.inr h
  have hS : va_S A s.heap s.heap [] := va_S.rf
  have hP : va_P D vwCl [(h0, .inr (6, [.null, .null, .null, .null, .null, .null, .null, .null, .int 0, .int 0, .int 0]))] s.heap := hP
  have hl := lv_entry ([.ref h0]) (n := 1) (Nat.le_of_ble_eq_true rfl)
  rw [lg_entry_eq]
  generalize (lg_sl ([.ref h0]) ++ List.replicate (1 - (lg_sl ([.ref h0])).length) Slot.unset).toArray = ls at hl ⊢
  have hl : lv_has ls 1 [(0, .ref h0)] := hl
  refine lv_aload_n hx hb dX8_init_0 rfl (lv_at hl 0 rfl) ?_
  refine W.objInit hx hb hown (hw _ (am_in (List.mem_of_getElem? (i := 129) (by decide +kernel)) rfl)) (hw _ (am_in (List.mem_of_getElem? (i := 102) (by decide +kernel)) rfl)) (hw _ (am_in (List.mem_of_getElem? (i := 103) (by decide +kernel)) rfl)) rfl (by rw [hml]; exact hl.1) rfl dX8_init_1 (Nat.le_of_ble_eq_true rfl) (Nat.le_of_ble_eq_true rfl) ?_
  refine W.eq (g2 := F0 m 4 ls []) rfl ?_
  refine lv_aload_n hx hb dX8_init_4 rfl (lv_at hl 0 rfl) ?_
  refine lv_bipush (v := nI 60) hx hb dX8_init_5 (by decide +kernel) ?_
  refine kn_newa (N := 60) hx hb (hw _ (am_in (List.mem_of_getElem? (i := 117) (by decide +kernel)) rfl)) hK rfl hP hD hS hA (by decide) (by decide +kernel) (Nat.le_of_ble_eq_true rfl) (Nat.le_of_ble_eq_true rfl) (Nat.le_of_ble_eq_true rfl) dX8_init_7 (fun q7 H hP hD hS => ?_)
  refine kn_put (v := .ref q7) (ty := (.array .int)) hx hb hw hK hP hD hS RX8 TX8 11 rfl hown 0 (Nat.le_of_ble_eq_true rfl) (List.mem_of_getElem? (i := 130) (by decide +kernel)) hin rfl (by decide +kernel) rfl rfl (Nat.le_of_ble_eq_true rfl) dX8_init_9 (fun H locs hP hD hS => ?_)
  refine lv_aload_n hx hb dX8_init_12 rfl (lv_at hl 0 rfl) ?_
  refine lv_bipush (v := nI 60) hx hb dX8_init_13 (by decide +kernel) ?_
  refine kn_newa (N := 60) hx hb (hw _ (am_in (List.mem_of_getElem? (i := 117) (by decide +kernel)) rfl)) hK rfl hP hD hS hA (by decide) (by decide +kernel) (Nat.le_of_ble_eq_true rfl) (Nat.le_of_ble_eq_true rfl) (Nat.le_of_ble_eq_true rfl) dX8_init_15 (fun q15 H hP hD hS => ?_)
  refine kn_put (v := .ref q15) (ty := (.array .int)) hx hb hw hK hP hD hS RX8 TX8 11 rfl hown 1 (Nat.le_of_ble_eq_true rfl) (List.mem_of_getElem? (i := 131) (by decide +kernel)) hin rfl (by decide +kernel) rfl rfl (Nat.le_of_ble_eq_true rfl) dX8_init_17 (fun H locs hP hD hS => ?_)
  refine lv_aload_n hx hb dX8_init_20 rfl (lv_at hl 0 rfl) ?_
  refine lv_bipush (v := nI 60) hx hb dX8_init_21 (by decide +kernel) ?_
  refine kn_newa (N := 60) hx hb (hw _ (am_in (List.mem_of_getElem? (i := 117) (by decide +kernel)) rfl)) hK rfl hP hD hS hA (by decide) (by decide +kernel) (Nat.le_of_ble_eq_true rfl) (Nat.le_of_ble_eq_true rfl) (Nat.le_of_ble_eq_true rfl) dX8_init_23 (fun q23 H hP hD hS => ?_)
  refine kn_put (v := .ref q23) (ty := (.array .int)) hx hb hw hK hP hD hS RX8 TX8 11 rfl hown 2 (Nat.le_of_ble_eq_true rfl) (List.mem_of_getElem? (i := 132) (by decide +kernel)) hin rfl (by decide +kernel) rfl rfl (Nat.le_of_ble_eq_true rfl) dX8_init_25 (fun H locs hP hD hS => ?_)
  refine lv_aload_n hx hb dX8_init_28 rfl (lv_at hl 0 rfl) ?_
  refine lv_bipush (v := nI 60) hx hb dX8_init_29 (by decide +kernel) ?_
  refine kn_newa (N := 60) hx hb (hw _ (am_in (List.mem_of_getElem? (i := 117) (by decide +kernel)) rfl)) hK rfl hP hD hS hA (by decide) (by decide +kernel) (Nat.le_of_ble_eq_true rfl) (Nat.le_of_ble_eq_true rfl) (Nat.le_of_ble_eq_true rfl) dX8_init_31 (fun q31 H hP hD hS => ?_)
  refine kn_put (v := .ref q31) (ty := (.array .int)) hx hb hw hK hP hD hS RX8 TX8 11 rfl hown 3 (Nat.le_of_ble_eq_true rfl) (List.mem_of_getElem? (i := 133) (by decide +kernel)) hin rfl (by decide +kernel) rfl rfl (Nat.le_of_ble_eq_true rfl) dX8_init_33 (fun H locs hP hD hS => ?_)
  refine lv_aload_n hx hb dX8_init_36 rfl (lv_at hl 0 rfl) ?_
  refine lv_bipush (v := nI 60) hx hb dX8_init_37 (by decide +kernel) ?_
  refine kn_newa (N := 60) hx hb (hw _ (am_in (List.mem_of_getElem? (i := 117) (by decide +kernel)) rfl)) hK rfl hP hD hS hA (by decide) (by decide +kernel) (Nat.le_of_ble_eq_true rfl) (Nat.le_of_ble_eq_true rfl) (Nat.le_of_ble_eq_true rfl) dX8_init_39 (fun q39 H hP hD hS => ?_)
  refine kn_put (v := .ref q39) (ty := (.array .int)) hx hb hw hK hP hD hS RX8 TX8 11 rfl hown 4 (Nat.le_of_ble_eq_true rfl) (List.mem_of_getElem? (i := 134) (by decide +kernel)) hin rfl (by decide +kernel) rfl rfl (Nat.le_of_ble_eq_true rfl) dX8_init_41 (fun H locs hP hD hS => ?_)
  refine lv_aload_n hx hb dX8_init_44 rfl (lv_at hl 0 rfl) ?_
  refine lv_bipush (v := nI 60) hx hb dX8_init_45 (by decide +kernel) ?_
  refine kn_newa (N := 60) hx hb (hw _ (am_in (List.mem_of_getElem? (i := 117) (by decide +kernel)) rfl)) hK rfl hP hD hS hA (by decide) (by decide +kernel) (Nat.le_of_ble_eq_true rfl) (Nat.le_of_ble_eq_true rfl) (Nat.le_of_ble_eq_true rfl) dX8_init_47 (fun q47 H hP hD hS => ?_)
  refine kn_put (v := .ref q47) (ty := (.array .int)) hx hb hw hK hP hD hS RX8 TX8 11 rfl hown 5 (Nat.le_of_ble_eq_true rfl) (List.mem_of_getElem? (i := 135) (by decide +kernel)) hin rfl (by decide +kernel) rfl rfl (Nat.le_of_ble_eq_true rfl) dX8_init_49 (fun H locs hP hD hS => ?_)
  refine lv_aload_n hx hb dX8_init_52 rfl (lv_at hl 0 rfl) ?_
  refine lv_bipush (v := nI 60) hx hb dX8_init_53 (by decide +kernel) ?_
  refine kn_newa (N := 60) hx hb (hw _ (am_in (List.mem_of_getElem? (i := 117) (by decide +kernel)) rfl)) hK rfl hP hD hS hA (by decide) (by decide +kernel) (Nat.le_of_ble_eq_true rfl) (Nat.le_of_ble_eq_true rfl) (Nat.le_of_ble_eq_true rfl) dX8_init_55 (fun q55 H hP hD hS => ?_)
  refine kn_put (v := .ref q55) (ty := (.array .int)) hx hb hw hK hP hD hS RX8 TX8 11 rfl hown 6 (Nat.le_of_ble_eq_true rfl) (List.mem_of_getElem? (i := 136) (by decide +kernel)) hin rfl (by decide +kernel) rfl rfl (Nat.le_of_ble_eq_true rfl) dX8_init_57 (fun H locs hP hD hS => ?_)
  refine lv_aload_n hx hb dX8_init_60 rfl (lv_at hl 0 rfl) ?_
  refine lv_bipush (v := nI 60) hx hb dX8_init_61 (by decide +kernel) ?_
  refine kn_newa (N := 60) hx hb (hw _ (am_in (List.mem_of_getElem? (i := 117) (by decide +kernel)) rfl)) hK rfl hP hD hS hA (by decide) (by decide +kernel) (Nat.le_of_ble_eq_true rfl) (Nat.le_of_ble_eq_true rfl) (Nat.le_of_ble_eq_true rfl) dX8_init_63 (fun q63 H hP hD hS => ?_)
  refine kn_put (v := .ref q63) (ty := (.array .int)) hx hb hw hK hP hD hS RX8 TX8 11 rfl hown 7 (Nat.le_of_ble_eq_true rfl) (List.mem_of_getElem? (i := 137) (by decide +kernel)) hin rfl (by decide +kernel) rfl rfl (Nat.le_of_ble_eq_true rfl) dX8_init_65 (fun H locs hP hD hS => ?_)
  refine lv_aload_n hx hb dX8_init_68 rfl (lv_at hl 0 rfl) ?_
  refine lv_iconst (v := nI 0) hx hb dX8_init_69 (by decide +kernel) ?_
  refine kn_put (v := .int (nI 0)) (ty := (.int)) hx hb hw hK hP hD hS RX8 TX8 11 rfl hown 8 (Nat.le_of_ble_eq_true rfl) (List.mem_of_getElem? (i := 138) (by decide +kernel)) hin rfl (by decide +kernel) rfl rfl (Nat.le_of_ble_eq_true rfl) dX8_init_70 (fun H locs hP hD hS => ?_)
  refine lv_aload_n hx hb dX8_init_73 rfl (lv_at hl 0 rfl) ?_
  refine lv_iconst (v := nI 0) hx hb dX8_init_74 (by decide +kernel) ?_
  refine kn_put (v := .int (nI 0)) (ty := (.int)) hx hb hw hK hP hD hS RX8 TX8 11 rfl hown 9 (Nat.le_of_ble_eq_true rfl) (List.mem_of_getElem? (i := 139) (by decide +kernel)) hin rfl (by decide +kernel) rfl rfl (Nat.le_of_ble_eq_true rfl) dX8_init_75 (fun H locs hP hD hS => ?_)
  refine lv_aload_n hx hb dX8_init_78 rfl (lv_at hl 0 rfl) ?_
  refine lv_iconst (v := -1) hx hb dX8_init_79 (by decide +kernel) ?_
  refine kn_put (v := .int (-1)) (ty := (.int)) hx hb hw hK hP hD hS RX8 TX8 11 rfl hown 10 (Nat.le_of_ble_eq_true rfl) (List.mem_of_getElem? (i := 140) (by decide +kernel)) hin rfl (by decide +kernel) rfl rfl (Nat.le_of_ble_eq_true rfl) dX8_init_80 (fun H locs hP hD hS => ?_)
  have hP9 : va_P D vwCl [(h0, .inr (6, [.ref ((fun k => [q7, q15, q23, q31, q39, q47, q55, q63].getD k 0) 0), .ref ((fun k => [q7, q15, q23, q31, q39, q47, q55, q63].getD k 0) 1), .ref ((fun k => [q7, q15, q23, q31, q39, q47, q55, q63].getD k 0) 2), .ref ((fun k => [q7, q15, q23, q31, q39, q47, q55, q63].getD k 0) 3), .ref ((fun k => [q7, q15, q23, q31, q39, q47, q55, q63].getD k 0) 4), .ref ((fun k => [q7, q15, q23, q31, q39, q47, q55, q63].getD k 0) 5), .ref ((fun k => [q7, q15, q23, q31, q39, q47, q55, q63].getD k 0) 6), .ref ((fun k => [q7, q15, q23, q31, q39, q47, q55, q63].getD k 0) 7), .int (nI 0), .int (nI 0), .int (-1)])), (((fun k => [q7, q15, q23, q31, q39, q47, q55, q63].getD k 0) 0), zA cA 60), (((fun k => [q7, q15, q23, q31, q39, q47, q55, q63].getD k 0) 1), zA cA 60), (((fun k => [q7, q15, q23, q31, q39, q47, q55, q63].getD k 0) 2), zA cA 60), (((fun k => [q7, q15, q23, q31, q39, q47, q55, q63].getD k 0) 3), zA cA 60), (((fun k => [q7, q15, q23, q31, q39, q47, q55, q63].getD k 0) 4), zA cA 60), (((fun k => [q7, q15, q23, q31, q39, q47, q55, q63].getD k 0) 5), zA cA 60), (((fun k => [q7, q15, q23, q31, q39, q47, q55, q63].getD k 0) 6), zA cA 60), (((fun k => [q7, q15, q23, q31, q39, q47, q55, q63].getD k 0) 7), zA cA 60)] H := hP
  have hD9 : va_D A [(h0, .inr (6, [.ref ((fun k => [q7, q15, q23, q31, q39, q47, q55, q63].getD k 0) 0), .ref ((fun k => [q7, q15, q23, q31, q39, q47, q55, q63].getD k 0) 1), .ref ((fun k => [q7, q15, q23, q31, q39, q47, q55, q63].getD k 0) 2), .ref ((fun k => [q7, q15, q23, q31, q39, q47, q55, q63].getD k 0) 3), .ref ((fun k => [q7, q15, q23, q31, q39, q47, q55, q63].getD k 0) 4), .ref ((fun k => [q7, q15, q23, q31, q39, q47, q55, q63].getD k 0) 5), .ref ((fun k => [q7, q15, q23, q31, q39, q47, q55, q63].getD k 0) 6), .ref ((fun k => [q7, q15, q23, q31, q39, q47, q55, q63].getD k 0) 7), .int (nI 0), .int (nI 0), .int (-1)])), (((fun k => [q7, q15, q23, q31, q39, q47, q55, q63].getD k 0) 0), zA cA 60), (((fun k => [q7, q15, q23, q31, q39, q47, q55, q63].getD k 0) 1), zA cA 60), (((fun k => [q7, q15, q23, q31, q39, q47, q55, q63].getD k 0) 2), zA cA 60), (((fun k => [q7, q15, q23, q31, q39, q47, q55, q63].getD k 0) 3), zA cA 60), (((fun k => [q7, q15, q23, q31, q39, q47, q55, q63].getD k 0) 4), zA cA 60), (((fun k => [q7, q15, q23, q31, q39, q47, q55, q63].getD k 0) 5), zA cA 60), (((fun k => [q7, q15, q23, q31, q39, q47, q55, q63].getD k 0) 6), zA cA 60), (((fun k => [q7, q15, q23, q31, q39, q47, q55, q63].getD k 0) 7), zA cA 60)] := hD
  refine W.widen (k := 8) (n := 480) (Nat.le_of_ble_eq_true rfl) (Nat.le_of_ble_eq_true rfl) ?_
  exact W.vret hx hb hr (fun t ht hW => ⟨⟨(fun k => [q7, q15, q23, q31, q39, q47, q55, q63].getD k 0), rfl, trivial, by rw [ht]; exact hP9, va_K.moved hW.alike hK, hD9⟩, hS.F ht⟩) hS.2.2 dX8_init_83
theorem dX7_init_0 : decode cX7_init 0 = .ok (.aload_n 0, 1) := by decide +kernel
theorem dX7_init_1 : decode cX7_init 1 = .ok (.invokespecial 3, 3) := by decide +kernel
theorem dX7_init_4 : decode cX7_init 4 = .ok (.aload_n 0, 1) := by decide +kernel
theorem dX7_init_5 : decode cX7_init 5 = .ok (.bipush 120, 2) := by decide +kernel
theorem dX7_init_7 : decode cX7_init 7 = .ok (.newarray .int, 2) := by decide +kernel
theorem dX7_init_9 : decode cX7_init 9 = .ok (.putfield 9, 3) := by decide +kernel
theorem dX7_init_12 : decode cX7_init 12 = .ok (.aload_n 0, 1) := by decide +kernel
theorem dX7_init_13 : decode cX7_init 13 = .ok (.iconst 0, 1) := by decide +kernel
theorem dX7_init_14 : decode cX7_init 14 = .ok (.putfield 15, 3) := by decide +kernel
theorem dX7_init_17 : decode cX7_init 17 = .ok (.return_, 1) := by decide +kernel
set_option maxHeartbeats 4000000 in
set_option maxRecDepth 100000 in
theorem c_X7_init (l : Launch) (D : va_G) (cA : ClassId) (h0 sz : Nat) : Met l yX7_init (Cond.code yX7_init cX7_init 1 none :: am_ws) { frames := 1, cells := 1, slots := 120, locals := 20 } (knP D cA [.ref h0] [(h0, .inr (5, [.null, .int 0]))] sz) (knQ D cA (fun a => [(h0, .inr (5, [.ref (a 0), .int (nI 0)])), ((a 0), zA cA 120)]) (va_A [(h0, .inr (5, [.null, .int 0]))] sz)) 1 120 (va_A [(h0, .inr (5, [.null, .int 0]))] sz) := by
  refine Met.ofW (cc := cX7_init) (maxL := 1) (ret := none) (by decide) rfl ?_
  intro p e s m args below meth c s₁ B hml hv
  obtain ⟨rfl, hsz, hP, hK, hD0⟩ := hv
  have hx := B.exec
  have hb := B.bytes
  have hr := B.returns
  have hts := atoms_spec (ws := (Cond.code yX7_init cX7_init 1 none :: am_ws)) B.pre
  have hw : ∀ w ∈ am_ws, w.before _ s = true := fun w h => hts w (List.mem_cons_of_mem _ h)
  have hown : s.vm.findClass RX7 = some m.cls := findClass_of_methodNamed B.named
  have hin : meth.name = "<init>" := (name_of_methodNamed B.named B.method).1
  subst hsz
  have hD := hD0.self (sz := s.heap.size)
  generalize hAe : va_A [(h0, .inr (5, [.null, .int 0]))] s.heap.size = A at hD ⊢
  have hA : ∀ q : Nat, s.heap.size ≤ q → A q := fun q h => by rw [← hAe]; exact Or.inr h
  have hS : va_S A s.heap s.heap [] := va_S.rf
  have hP : va_P D vwCl [(h0, .inr (5, [.null, .int 0]))] s.heap := hP
  have hl := lv_entry ([.ref h0]) (n := 1) (Nat.le_of_ble_eq_true rfl)
  rw [lg_entry_eq]
  generalize (lg_sl ([.ref h0]) ++ List.replicate (1 - (lg_sl ([.ref h0])).length) Slot.unset).toArray = ls at hl ⊢
  have hl : lv_has ls 1 [(0, .ref h0)] := hl
  refine lv_aload_n hx hb dX7_init_0 rfl (lv_at hl 0 rfl) ?_
  refine W.objInit hx hb hown (hw _ (am_in (List.mem_of_getElem? (i := 109) (by decide +kernel)) rfl)) (hw _ (am_in (List.mem_of_getElem? (i := 102) (by decide +kernel)) rfl)) (hw _ (am_in (List.mem_of_getElem? (i := 103) (by decide +kernel)) rfl)) rfl (by rw [hml]; exact hl.1) rfl dX7_init_1 (Nat.le_of_ble_eq_true rfl) (Nat.le_of_ble_eq_true rfl) ?_
  refine W.eq (g2 := F0 m 4 ls []) rfl ?_
  refine lv_aload_n hx hb dX7_init_4 rfl (lv_at hl 0 rfl) ?_
  refine lv_bipush (v := nI 120) hx hb dX7_init_5 (by decide +kernel) ?_
  refine kn_newa (N := 120) hx hb (hw _ (am_in (List.mem_of_getElem? (i := 117) (by decide +kernel)) rfl)) hK rfl hP hD hS hA (by decide) (by decide +kernel) (Nat.le_of_ble_eq_true rfl) (Nat.le_of_ble_eq_true rfl) (Nat.le_of_ble_eq_true rfl) dX7_init_7 (fun q7 H hP hD hS => ?_)
  refine kn_put (v := .ref q7) (ty := (.array .int)) hx hb hw hK hP hD hS RX7 TX7 2 rfl hown 0 (Nat.le_of_ble_eq_true rfl) (List.mem_of_getElem? (i := 110) (by decide +kernel)) hin rfl (by decide +kernel) rfl rfl (Nat.le_of_ble_eq_true rfl) dX7_init_9 (fun H locs hP hD hS => ?_)
  refine lv_aload_n hx hb dX7_init_12 rfl (lv_at hl 0 rfl) ?_
  refine lv_iconst (v := nI 0) hx hb dX7_init_13 (by decide +kernel) ?_
  refine kn_put (v := .int (nI 0)) (ty := (.int)) hx hb hw hK hP hD hS RX7 TX7 2 rfl hown 1 (Nat.le_of_ble_eq_true rfl) (List.mem_of_getElem? (i := 111) (by decide +kernel)) hin rfl (by decide +kernel) rfl rfl (Nat.le_of_ble_eq_true rfl) dX7_init_14 (fun H locs hP hD hS => ?_)
  have hP9 : va_P D vwCl [(h0, .inr (5, [.ref ((fun k => [q7].getD k 0) 0), .int (nI 0)])), (((fun k => [q7].getD k 0) 0), zA cA 120)] H := hP
  have hD9 : va_D A [(h0, .inr (5, [.ref ((fun k => [q7].getD k 0) 0), .int (nI 0)])), (((fun k => [q7].getD k 0) 0), zA cA 120)] := hD
  refine W.widen (k := 1) (n := 120) (Nat.le_of_ble_eq_true rfl) (Nat.le_of_ble_eq_true rfl) ?_
  exact W.vret hx hb hr (fun t ht hW => ⟨⟨(fun k => [q7].getD k 0), rfl, trivial, by rw [ht]; exact hP9, va_K.moved hW.alike hK, hD9⟩, hS.F ht⟩) hS.2.2 dX7_init_17
theorem dX3_init_0 : decode cX3_init 0 = .ok (.aload_n 0, 1) := by decide +kernel
theorem dX3_init_1 : decode cX3_init 1 = .ok (.invokespecial 3, 3) := by decide +kernel
theorem dX3_init_4 : decode cX3_init 4 = .ok (.aload_n 0, 1) := by decide +kernel
theorem dX3_init_5 : decode cX3_init 5 = .ok (.iconst 0, 1) := by decide +kernel
theorem dX3_init_6 : decode cX3_init 6 = .ok (.putfield 9, 3) := by decide +kernel
theorem dX3_init_9 : decode cX3_init 9 = .ok (.aload_n 0, 1) := by decide +kernel
theorem dX3_init_10 : decode cX3_init 10 = .ok (.iconst 0, 1) := by decide +kernel
theorem dX3_init_11 : decode cX3_init 11 = .ok (.putfield 15, 3) := by decide +kernel
theorem dX3_init_14 : decode cX3_init 14 = .ok (.aload_n 0, 1) := by decide +kernel
theorem dX3_init_15 : decode cX3_init 15 = .ok (.iconst 0, 1) := by decide +kernel
theorem dX3_init_16 : decode cX3_init 16 = .ok (.putfield 18, 3) := by decide +kernel
theorem dX3_init_19 : decode cX3_init 19 = .ok (.aload_n 0, 1) := by decide +kernel
theorem dX3_init_20 : decode cX3_init 20 = .ok (.iconst 0, 1) := by decide +kernel
theorem dX3_init_21 : decode cX3_init 21 = .ok (.putfield 21, 3) := by decide +kernel
theorem dX3_init_24 : decode cX3_init 24 = .ok (.aload_n 0, 1) := by decide +kernel
theorem dX3_init_25 : decode cX3_init 25 = .ok (.iconst 0, 1) := by decide +kernel
theorem dX3_init_26 : decode cX3_init 26 = .ok (.putfield 24, 3) := by decide +kernel
theorem dX3_init_29 : decode cX3_init 29 = .ok (.return_, 1) := by decide +kernel
set_option maxHeartbeats 4000000 in
set_option maxRecDepth 100000 in
theorem c_X3_init (l : Launch) (D : va_G) (cA : ClassId) (h0 sz : Nat) : Met l yX3_init (Cond.code yX3_init cX3_init 1 none :: am_ws) { frames := 1, cells := 0, slots := 0, locals := 20 } (knP D cA [.ref h0] [(h0, .inr (1, [.int 0, .int 0, .int 0, .int 0, .int 0]))] sz) (knQ D cA (fun a => [(h0, .inr (1, [.int (nI 0), .int (nI 0), .int (nI 0), .int (nI 0), .int (nI 0)]))]) (va_A [(h0, .inr (1, [.int 0, .int 0, .int 0, .int 0, .int 0]))] sz)) 0 0 (va_A [(h0, .inr (1, [.int 0, .int 0, .int 0, .int 0, .int 0]))] sz) := by
  refine Met.ofW (cc := cX3_init) (maxL := 1) (ret := none) (by decide) rfl ?_
  intro p e s m args below meth c s₁ B hml hv
  obtain ⟨rfl, hsz, hP, hK, hD0⟩ := hv
  have hx := B.exec
  have hb := B.bytes
  have hr := B.returns
  have hts := atoms_spec (ws := (Cond.code yX3_init cX3_init 1 none :: am_ws)) B.pre
  have hw : ∀ w ∈ am_ws, w.before _ s = true := fun w h => hts w (List.mem_cons_of_mem _ h)
  have hown : s.vm.findClass RX3 = some m.cls := findClass_of_methodNamed B.named
  have hin : meth.name = "<init>" := (name_of_methodNamed B.named B.method).1
  subst hsz
  have hD := hD0.self (sz := s.heap.size)
  generalize hAe : va_A [(h0, .inr (1, [.int 0, .int 0, .int 0, .int 0, .int 0]))] s.heap.size = A at hD ⊢
  have hA : ∀ q : Nat, s.heap.size ≤ q → A q := fun q h => by rw [← hAe]; exact Or.inr h
  have hS : va_S A s.heap s.heap [] := va_S.rf
  have hP : va_P D vwCl [(h0, .inr (1, [.int 0, .int 0, .int 0, .int 0, .int 0]))] s.heap := hP
  have hl := lv_entry ([.ref h0]) (n := 1) (Nat.le_of_ble_eq_true rfl)
  rw [lg_entry_eq]
  generalize (lg_sl ([.ref h0]) ++ List.replicate (1 - (lg_sl ([.ref h0])).length) Slot.unset).toArray = ls at hl ⊢
  have hl : lv_has ls 1 [(0, .ref h0)] := hl
  refine lv_aload_n hx hb dX3_init_0 rfl (lv_at hl 0 rfl) ?_
  refine W.objInit hx hb hown (hw _ (am_in (List.mem_of_getElem? (i := 211) (by decide +kernel)) rfl)) (hw _ (am_in (List.mem_of_getElem? (i := 102) (by decide +kernel)) rfl)) (hw _ (am_in (List.mem_of_getElem? (i := 103) (by decide +kernel)) rfl)) rfl (by rw [hml]; exact hl.1) rfl dX3_init_1 (Nat.le_of_ble_eq_true rfl) (Nat.le_of_ble_eq_true rfl) ?_
  refine W.eq (g2 := F0 m 4 ls []) rfl ?_
  refine lv_aload_n hx hb dX3_init_4 rfl (lv_at hl 0 rfl) ?_
  refine lv_iconst (v := nI 0) hx hb dX3_init_5 (by decide +kernel) ?_
  refine kn_put (v := .int (nI 0)) (ty := (.int)) hx hb hw hK hP hD hS RX3 TX3 5 rfl hown 0 (Nat.le_of_ble_eq_true rfl) (List.mem_of_getElem? (i := 212) (by decide +kernel)) hin rfl (by decide +kernel) rfl rfl (Nat.le_of_ble_eq_true rfl) dX3_init_6 (fun H locs hP hD hS => ?_)
  refine lv_aload_n hx hb dX3_init_9 rfl (lv_at hl 0 rfl) ?_
  refine lv_iconst (v := nI 0) hx hb dX3_init_10 (by decide +kernel) ?_
  refine kn_put (v := .int (nI 0)) (ty := (.int)) hx hb hw hK hP hD hS RX3 TX3 5 rfl hown 1 (Nat.le_of_ble_eq_true rfl) (List.mem_of_getElem? (i := 213) (by decide +kernel)) hin rfl (by decide +kernel) rfl rfl (Nat.le_of_ble_eq_true rfl) dX3_init_11 (fun H locs hP hD hS => ?_)
  refine lv_aload_n hx hb dX3_init_14 rfl (lv_at hl 0 rfl) ?_
  refine lv_iconst (v := nI 0) hx hb dX3_init_15 (by decide +kernel) ?_
  refine kn_put (v := .int (nI 0)) (ty := (.int)) hx hb hw hK hP hD hS RX3 TX3 5 rfl hown 2 (Nat.le_of_ble_eq_true rfl) (List.mem_of_getElem? (i := 214) (by decide +kernel)) hin rfl (by decide +kernel) rfl rfl (Nat.le_of_ble_eq_true rfl) dX3_init_16 (fun H locs hP hD hS => ?_)
  refine lv_aload_n hx hb dX3_init_19 rfl (lv_at hl 0 rfl) ?_
  refine lv_iconst (v := nI 0) hx hb dX3_init_20 (by decide +kernel) ?_
  refine kn_put (v := .int (nI 0)) (ty := (.int)) hx hb hw hK hP hD hS RX3 TX3 5 rfl hown 3 (Nat.le_of_ble_eq_true rfl) (List.mem_of_getElem? (i := 215) (by decide +kernel)) hin rfl (by decide +kernel) rfl rfl (Nat.le_of_ble_eq_true rfl) dX3_init_21 (fun H locs hP hD hS => ?_)
  refine lv_aload_n hx hb dX3_init_24 rfl (lv_at hl 0 rfl) ?_
  refine lv_iconst (v := nI 0) hx hb dX3_init_25 (by decide +kernel) ?_
  refine kn_put (v := .int (nI 0)) (ty := (.int)) hx hb hw hK hP hD hS RX3 TX3 5 rfl hown 4 (Nat.le_of_ble_eq_true rfl) (List.mem_of_getElem? (i := 216) (by decide +kernel)) hin rfl (by decide +kernel) rfl rfl (Nat.le_of_ble_eq_true rfl) dX3_init_26 (fun H locs hP hD hS => ?_)
  have hP9 : va_P D vwCl [(h0, .inr (1, [.int (nI 0), .int (nI 0), .int (nI 0), .int (nI 0), .int (nI 0)]))] H := hP
  have hD9 : va_D A [(h0, .inr (1, [.int (nI 0), .int (nI 0), .int (nI 0), .int (nI 0), .int (nI 0)]))] := hD
  refine W.widen (k := 0) (n := 0) (Nat.le_of_ble_eq_true rfl) (Nat.le_of_ble_eq_true rfl) ?_
  exact W.vret hx hb hr (fun t ht hW => ⟨⟨(fun k => [].getD k 0), rfl, trivial, by rw [ht]; exact hP9, va_K.moved hW.alike hK, hD9⟩, hS.F ht⟩) hS.2.2 dX3_init_29
theorem dX5_init_0 : decode cX5_init 0 = .ok (.aload_n 0, 1) := by decide +kernel
theorem dX5_init_1 : decode cX5_init 1 = .ok (.invokespecial 3, 3) := by decide +kernel
theorem dX5_init_4 : decode cX5_init 4 = .ok (.aload_n 0, 1) := by decide +kernel
theorem dX5_init_5 : decode cX5_init 5 = .ok (.sipush 200, 3) := by decide +kernel
theorem dX5_init_8 : decode cX5_init 8 = .ok (.newarray .int, 2) := by decide +kernel
theorem dX5_init_10 : decode cX5_init 10 = .ok (.putfield 9, 3) := by decide +kernel
theorem dX5_init_13 : decode cX5_init 13 = .ok (.aload_n 0, 1) := by decide +kernel
theorem dX5_init_14 : decode cX5_init 14 = .ok (.sipush 200, 3) := by decide +kernel
theorem dX5_init_17 : decode cX5_init 17 = .ok (.newarray .int, 2) := by decide +kernel
theorem dX5_init_19 : decode cX5_init 19 = .ok (.putfield 15, 3) := by decide +kernel
theorem dX5_init_22 : decode cX5_init 22 = .ok (.aload_n 0, 1) := by decide +kernel
theorem dX5_init_23 : decode cX5_init 23 = .ok (.sipush 200, 3) := by decide +kernel
theorem dX5_init_26 : decode cX5_init 26 = .ok (.newarray .int, 2) := by decide +kernel
theorem dX5_init_28 : decode cX5_init 28 = .ok (.putfield 18, 3) := by decide +kernel
theorem dX5_init_31 : decode cX5_init 31 = .ok (.aload_n 0, 1) := by decide +kernel
theorem dX5_init_32 : decode cX5_init 32 = .ok (.iconst 0, 1) := by decide +kernel
theorem dX5_init_33 : decode cX5_init 33 = .ok (.putfield 21, 3) := by decide +kernel
theorem dX5_init_36 : decode cX5_init 36 = .ok (.aload_n 0, 1) := by decide +kernel
theorem dX5_init_37 : decode cX5_init 37 = .ok (.sipush 200, 3) := by decide +kernel
theorem dX5_init_40 : decode cX5_init 40 = .ok (.putfield 25, 3) := by decide +kernel
theorem dX5_init_43 : decode cX5_init 43 = .ok (.return_, 1) := by decide +kernel
set_option maxHeartbeats 4000000 in
set_option maxRecDepth 100000 in
theorem c_X5_init (l : Launch) (D : va_G) (cA : ClassId) (h0 sz : Nat) : Met l yX5_init (Cond.code yX5_init cX5_init 1 none :: am_ws) { frames := 1, cells := 3, slots := 600, locals := 20 } (knP D cA [.ref h0] [(h0, .inr (3, [.null, .null, .null, .int 0, .int 0]))] sz) (knQ D cA (fun a => [(h0, .inr (3, [.ref (a 0), .ref (a 1), .ref (a 2), .int (nI 0), .int (nI 200)])), ((a 0), zA cA 200), ((a 1), zA cA 200), ((a 2), zA cA 200)]) (va_A [(h0, .inr (3, [.null, .null, .null, .int 0, .int 0]))] sz)) 3 600 (va_A [(h0, .inr (3, [.null, .null, .null, .int 0, .int 0]))] sz) := by
  refine Met.ofW (cc := cX5_init) (maxL := 1) (ret := none) (by decide) rfl ?_
  intro p e s m args below meth c s₁ B hml hv
  obtain ⟨rfl, hsz, hP, hK, hD0⟩ := hv
  have hx := B.exec
  have hb := B.bytes
  have hr := B.returns
  have hts := atoms_spec (ws := (Cond.code yX5_init cX5_init 1 none :: am_ws)) B.pre
  have hw : ∀ w ∈ am_ws, w.before _ s = true := fun w h => hts w (List.mem_cons_of_mem _ h)
  have hown : s.vm.findClass RX5 = some m.cls := findClass_of_methodNamed B.named
  have hin : meth.name = "<init>" := (name_of_methodNamed B.named B.method).1
  subst hsz
  have hD := hD0.self (sz := s.heap.size)
  generalize hAe : va_A [(h0, .inr (3, [.null, .null, .null, .int 0, .int 0]))] s.heap.size = A at hD ⊢
  have hA : ∀ q : Nat, s.heap.size ≤ q → A q := fun q h => by rw [← hAe]; exact Or.inr h
  have hS : va_S A s.heap s.heap [] := va_S.rf
  have hP : va_P D vwCl [(h0, .inr (3, [.null, .null, .null, .int 0, .int 0]))] s.heap := hP
  have hl := lv_entry ([.ref h0]) (n := 1) (Nat.le_of_ble_eq_true rfl)
  rw [lg_entry_eq]
  generalize (lg_sl ([.ref h0]) ++ List.replicate (1 - (lg_sl ([.ref h0])).length) Slot.unset).toArray = ls at hl ⊢
  have hl : lv_has ls 1 [(0, .ref h0)] := hl
  refine lv_aload_n hx hb dX5_init_0 rfl (lv_at hl 0 rfl) ?_
  refine W.objInit hx hb hown (hw _ (am_in (List.mem_of_getElem? (i := 233) (by decide +kernel)) rfl)) (hw _ (am_in (List.mem_of_getElem? (i := 102) (by decide +kernel)) rfl)) (hw _ (am_in (List.mem_of_getElem? (i := 103) (by decide +kernel)) rfl)) rfl (by rw [hml]; exact hl.1) rfl dX5_init_1 (Nat.le_of_ble_eq_true rfl) (Nat.le_of_ble_eq_true rfl) ?_
  refine W.eq (g2 := F0 m 4 ls []) rfl ?_
  refine lv_aload_n hx hb dX5_init_4 rfl (lv_at hl 0 rfl) ?_
  refine lv_sipush (v := nI 200) hx hb dX5_init_5 (by decide +kernel) ?_
  refine kn_newa (N := 200) hx hb (hw _ (am_in (List.mem_of_getElem? (i := 117) (by decide +kernel)) rfl)) hK rfl hP hD hS hA (by decide) (by decide +kernel) (Nat.le_of_ble_eq_true rfl) (Nat.le_of_ble_eq_true rfl) (Nat.le_of_ble_eq_true rfl) dX5_init_8 (fun q8 H hP hD hS => ?_)
  refine kn_put (v := .ref q8) (ty := (.array .int)) hx hb hw hK hP hD hS RX5 TX5 5 rfl hown 0 (Nat.le_of_ble_eq_true rfl) (List.mem_of_getElem? (i := 234) (by decide +kernel)) hin rfl (by decide +kernel) rfl rfl (Nat.le_of_ble_eq_true rfl) dX5_init_10 (fun H locs hP hD hS => ?_)
  refine lv_aload_n hx hb dX5_init_13 rfl (lv_at hl 0 rfl) ?_
  refine lv_sipush (v := nI 200) hx hb dX5_init_14 (by decide +kernel) ?_
  refine kn_newa (N := 200) hx hb (hw _ (am_in (List.mem_of_getElem? (i := 117) (by decide +kernel)) rfl)) hK rfl hP hD hS hA (by decide) (by decide +kernel) (Nat.le_of_ble_eq_true rfl) (Nat.le_of_ble_eq_true rfl) (Nat.le_of_ble_eq_true rfl) dX5_init_17 (fun q17 H hP hD hS => ?_)
  refine kn_put (v := .ref q17) (ty := (.array .int)) hx hb hw hK hP hD hS RX5 TX5 5 rfl hown 1 (Nat.le_of_ble_eq_true rfl) (List.mem_of_getElem? (i := 235) (by decide +kernel)) hin rfl (by decide +kernel) rfl rfl (Nat.le_of_ble_eq_true rfl) dX5_init_19 (fun H locs hP hD hS => ?_)
  refine lv_aload_n hx hb dX5_init_22 rfl (lv_at hl 0 rfl) ?_
  refine lv_sipush (v := nI 200) hx hb dX5_init_23 (by decide +kernel) ?_
  refine kn_newa (N := 200) hx hb (hw _ (am_in (List.mem_of_getElem? (i := 117) (by decide +kernel)) rfl)) hK rfl hP hD hS hA (by decide) (by decide +kernel) (Nat.le_of_ble_eq_true rfl) (Nat.le_of_ble_eq_true rfl) (Nat.le_of_ble_eq_true rfl) dX5_init_26 (fun q26 H hP hD hS => ?_)
  refine kn_put (v := .ref q26) (ty := (.array .int)) hx hb hw hK hP hD hS RX5 TX5 5 rfl hown 2 (Nat.le_of_ble_eq_true rfl) (List.mem_of_getElem? (i := 236) (by decide +kernel)) hin rfl (by decide +kernel) rfl rfl (Nat.le_of_ble_eq_true rfl) dX5_init_28 (fun H locs hP hD hS => ?_)
  refine lv_aload_n hx hb dX5_init_31 rfl (lv_at hl 0 rfl) ?_
  refine lv_iconst (v := nI 0) hx hb dX5_init_32 (by decide +kernel) ?_
  refine kn_put (v := .int (nI 0)) (ty := (.int)) hx hb hw hK hP hD hS RX5 TX5 5 rfl hown 3 (Nat.le_of_ble_eq_true rfl) (List.mem_of_getElem? (i := 237) (by decide +kernel)) hin rfl (by decide +kernel) rfl rfl (Nat.le_of_ble_eq_true rfl) dX5_init_33 (fun H locs hP hD hS => ?_)
  refine lv_aload_n hx hb dX5_init_36 rfl (lv_at hl 0 rfl) ?_
  refine lv_sipush (v := nI 200) hx hb dX5_init_37 (by decide +kernel) ?_
  refine kn_put (v := .int (nI 200)) (ty := (.int)) hx hb hw hK hP hD hS RX5 TX5 5 rfl hown 4 (Nat.le_of_ble_eq_true rfl) (List.mem_of_getElem? (i := 238) (by decide +kernel)) hin rfl (by decide +kernel) rfl rfl (Nat.le_of_ble_eq_true rfl) dX5_init_40 (fun H locs hP hD hS => ?_)
  have hP9 : va_P D vwCl [(h0, .inr (3, [.ref ((fun k => [q8, q17, q26].getD k 0) 0), .ref ((fun k => [q8, q17, q26].getD k 0) 1), .ref ((fun k => [q8, q17, q26].getD k 0) 2), .int (nI 0), .int (nI 200)])), (((fun k => [q8, q17, q26].getD k 0) 0), zA cA 200), (((fun k => [q8, q17, q26].getD k 0) 1), zA cA 200), (((fun k => [q8, q17, q26].getD k 0) 2), zA cA 200)] H := hP
  have hD9 : va_D A [(h0, .inr (3, [.ref ((fun k => [q8, q17, q26].getD k 0) 0), .ref ((fun k => [q8, q17, q26].getD k 0) 1), .ref ((fun k => [q8, q17, q26].getD k 0) 2), .int (nI 0), .int (nI 200)])), (((fun k => [q8, q17, q26].getD k 0) 0), zA cA 200), (((fun k => [q8, q17, q26].getD k 0) 1), zA cA 200), (((fun k => [q8, q17, q26].getD k 0) 2), zA cA 200)] := hD
  refine W.widen (k := 3) (n := 600) (Nat.le_of_ble_eq_true rfl) (Nat.le_of_ble_eq_true rfl) ?_
  exact W.vret hx hb hr (fun t ht hW => ⟨⟨(fun k => [q8, q17, q26].getD k 0), rfl, trivial, by rw [ht]; exact hP9, va_K.moved hW.alike hK, hD9⟩, hS.F ht⟩) hS.2.2 dX5_init_43
theorem dX1_init_0 : decode cX1_init 0 = .ok (.aload_n 0, 1) := by decide +kernel
theorem dX1_init_1 : decode cX1_init 1 = .ok (.invokespecial 3, 3) := by decide +kernel
theorem dX1_init_4 : decode cX1_init 4 = .ok (.aload_n 0, 1) := by decide +kernel
theorem dX1_init_5 : decode cX1_init 5 = .ok (.sipush 800, 3) := by decide +kernel
theorem dX1_init_8 : decode cX1_init 8 = .ok (.newarray .int, 2) := by decide +kernel
theorem dX1_init_10 : decode cX1_init 10 = .ok (.putfield 9, 3) := by decide +kernel
theorem dX1_init_13 : decode cX1_init 13 = .ok (.aload_n 0, 1) := by decide +kernel
theorem dX1_init_14 : decode cX1_init 14 = .ok (.sipush 800, 3) := by decide +kernel
theorem dX1_init_17 : decode cX1_init 17 = .ok (.newarray .int, 2) := by decide +kernel
theorem dX1_init_19 : decode cX1_init 19 = .ok (.putfield 15, 3) := by decide +kernel
theorem dX1_init_22 : decode cX1_init 22 = .ok (.aload_n 0, 1) := by decide +kernel
theorem dX1_init_23 : decode cX1_init 23 = .ok (.bipush 100, 2) := by decide +kernel
theorem dX1_init_25 : decode cX1_init 25 = .ok (.newarray .int, 2) := by decide +kernel
theorem dX1_init_27 : decode cX1_init 27 = .ok (.putfield 18, 3) := by decide +kernel
theorem dX1_init_30 : decode cX1_init 30 = .ok (.aload_n 0, 1) := by decide +kernel
theorem dX1_init_31 : decode cX1_init 31 = .ok (.bipush 100, 2) := by decide +kernel
theorem dX1_init_33 : decode cX1_init 33 = .ok (.newarray .int, 2) := by decide +kernel
theorem dX1_init_35 : decode cX1_init 35 = .ok (.putfield 21, 3) := by decide +kernel
theorem dX1_init_38 : decode cX1_init 38 = .ok (.aload_n 0, 1) := by decide +kernel
theorem dX1_init_39 : decode cX1_init 39 = .ok (.iconst 0, 1) := by decide +kernel
theorem dX1_init_40 : decode cX1_init 40 = .ok (.putfield 24, 3) := by decide +kernel
theorem dX1_init_43 : decode cX1_init 43 = .ok (.aload_n 0, 1) := by decide +kernel
theorem dX1_init_44 : decode cX1_init 44 = .ok (.iconst 0, 1) := by decide +kernel
theorem dX1_init_45 : decode cX1_init 45 = .ok (.putfield 28, 3) := by decide +kernel
theorem dX1_init_48 : decode cX1_init 48 = .ok (.aload_n 0, 1) := by decide +kernel
theorem dX1_init_49 : decode cX1_init 49 = .ok (.iconst 0, 1) := by decide +kernel
theorem dX1_init_50 : decode cX1_init 50 = .ok (.putfield 31, 3) := by decide +kernel
theorem dX1_init_53 : decode cX1_init 53 = .ok (.return_, 1) := by decide +kernel
set_option maxHeartbeats 4000000 in
set_option maxRecDepth 100000 in
theorem c_X1_init (l : Launch) (D : va_G) (cA : ClassId) (h0 sz : Nat) : Met l yX1_init (Cond.code yX1_init cX1_init 1 none :: am_ws) { frames := 1, cells := 4, slots := 1800, locals := 20 } (knP D cA [.ref h0] [(h0, .inr (0, [.null, .null, .null, .null, .int 0, .int 0, .int 0]))] sz) (knQ D cA (fun a => [(h0, .inr (0, [.ref (a 0), .ref (a 1), .ref (a 2), .ref (a 3), .int (nI 0), .int (nI 0), .int (nI 0)])), ((a 0), zA cA 800), ((a 1), zA cA 800), ((a 2), zA cA 100), ((a 3), zA cA 100)]) (va_A [(h0, .inr (0, [.null, .null, .null, .null, .int 0, .int 0, .int 0]))] sz)) 4 1800 (va_A [(h0, .inr (0, [.null, .null, .null, .null, .int 0, .int 0, .int 0]))] sz) := by
  refine Met.ofW (cc := cX1_init) (maxL := 1) (ret := none) (by decide) rfl ?_
  intro p e s m args below meth c s₁ B hml hv
  obtain ⟨rfl, hsz, hP, hK, hD0⟩ := hv
  have hx := B.exec
  have hb := B.bytes
  have hr := B.returns
  have hts := atoms_spec (ws := (Cond.code yX1_init cX1_init 1 none :: am_ws)) B.pre
  have hw : ∀ w ∈ am_ws, w.before _ s = true := fun w h => hts w (List.mem_cons_of_mem _ h)
  have hown : s.vm.findClass RX1 = some m.cls := findClass_of_methodNamed B.named
  have hin : meth.name = "<init>" := (name_of_methodNamed B.named B.method).1
  subst hsz
  have hD := hD0.self (sz := s.heap.size)
  generalize hAe : va_A [(h0, .inr (0, [.null, .null, .null, .null, .int 0, .int 0, .int 0]))] s.heap.size = A at hD ⊢
  have hA : ∀ q : Nat, s.heap.size ≤ q → A q := fun q h => by rw [← hAe]; exact Or.inr h
  have hS : va_S A s.heap s.heap [] := va_S.rf
  have hP : va_P D vwCl [(h0, .inr (0, [.null, .null, .null, .null, .int 0, .int 0, .int 0]))] s.heap := hP
  have hl := lv_entry ([.ref h0]) (n := 1) (Nat.le_of_ble_eq_true rfl)
  rw [lg_entry_eq]
  generalize (lg_sl ([.ref h0]) ++ List.replicate (1 - (lg_sl ([.ref h0])).length) Slot.unset).toArray = ls at hl ⊢
  have hl : lv_has ls 1 [(0, .ref h0)] := hl
  refine lv_aload_n hx hb dX1_init_0 rfl (lv_at hl 0 rfl) ?_
  refine W.objInit hx hb hown (hw _ (am_in (List.mem_of_getElem? (i := 255) (by decide +kernel)) rfl)) (hw _ (am_in (List.mem_of_getElem? (i := 102) (by decide +kernel)) rfl)) (hw _ (am_in (List.mem_of_getElem? (i := 103) (by decide +kernel)) rfl)) rfl (by rw [hml]; exact hl.1) rfl dX1_init_1 (Nat.le_of_ble_eq_true rfl) (Nat.le_of_ble_eq_true rfl) ?_
  refine W.eq (g2 := F0 m 4 ls []) rfl ?_
  refine lv_aload_n hx hb dX1_init_4 rfl (lv_at hl 0 rfl) ?_
  refine lv_sipush (v := nI 800) hx hb dX1_init_5 (by decide +kernel) ?_
  refine kn_newa (N := 800) hx hb (hw _ (am_in (List.mem_of_getElem? (i := 117) (by decide +kernel)) rfl)) hK rfl hP hD hS hA (by decide) (by decide +kernel) (Nat.le_of_ble_eq_true rfl) (Nat.le_of_ble_eq_true rfl) (Nat.le_of_ble_eq_true rfl) dX1_init_8 (fun q8 H hP hD hS => ?_)
  refine kn_put (v := .ref q8) (ty := (.array .int)) hx hb hw hK hP hD hS RX1 TX1 7 rfl hown 0 (Nat.le_of_ble_eq_true rfl) (List.mem_of_getElem? (i := 256) (by decide +kernel)) hin rfl (by decide +kernel) rfl rfl (Nat.le_of_ble_eq_true rfl) dX1_init_10 (fun H locs hP hD hS => ?_)
  refine lv_aload_n hx hb dX1_init_13 rfl (lv_at hl 0 rfl) ?_
  refine lv_sipush (v := nI 800) hx hb dX1_init_14 (by decide +kernel) ?_
  refine kn_newa (N := 800) hx hb (hw _ (am_in (List.mem_of_getElem? (i := 117) (by decide +kernel)) rfl)) hK rfl hP hD hS hA (by decide) (by decide +kernel) (Nat.le_of_ble_eq_true rfl) (Nat.le_of_ble_eq_true rfl) (Nat.le_of_ble_eq_true rfl) dX1_init_17 (fun q17 H hP hD hS => ?_)
  refine kn_put (v := .ref q17) (ty := (.array .int)) hx hb hw hK hP hD hS RX1 TX1 7 rfl hown 1 (Nat.le_of_ble_eq_true rfl) (List.mem_of_getElem? (i := 257) (by decide +kernel)) hin rfl (by decide +kernel) rfl rfl (Nat.le_of_ble_eq_true rfl) dX1_init_19 (fun H locs hP hD hS => ?_)
  refine lv_aload_n hx hb dX1_init_22 rfl (lv_at hl 0 rfl) ?_
  refine lv_bipush (v := nI 100) hx hb dX1_init_23 (by decide +kernel) ?_
  refine kn_newa (N := 100) hx hb (hw _ (am_in (List.mem_of_getElem? (i := 117) (by decide +kernel)) rfl)) hK rfl hP hD hS hA (by decide) (by decide +kernel) (Nat.le_of_ble_eq_true rfl) (Nat.le_of_ble_eq_true rfl) (Nat.le_of_ble_eq_true rfl) dX1_init_25 (fun q25 H hP hD hS => ?_)
  refine kn_put (v := .ref q25) (ty := (.array .int)) hx hb hw hK hP hD hS RX1 TX1 7 rfl hown 2 (Nat.le_of_ble_eq_true rfl) (List.mem_of_getElem? (i := 258) (by decide +kernel)) hin rfl (by decide +kernel) rfl rfl (Nat.le_of_ble_eq_true rfl) dX1_init_27 (fun H locs hP hD hS => ?_)
  refine lv_aload_n hx hb dX1_init_30 rfl (lv_at hl 0 rfl) ?_
  refine lv_bipush (v := nI 100) hx hb dX1_init_31 (by decide +kernel) ?_
  refine kn_newa (N := 100) hx hb (hw _ (am_in (List.mem_of_getElem? (i := 117) (by decide +kernel)) rfl)) hK rfl hP hD hS hA (by decide) (by decide +kernel) (Nat.le_of_ble_eq_true rfl) (Nat.le_of_ble_eq_true rfl) (Nat.le_of_ble_eq_true rfl) dX1_init_33 (fun q33 H hP hD hS => ?_)
  refine kn_put (v := .ref q33) (ty := (.array .int)) hx hb hw hK hP hD hS RX1 TX1 7 rfl hown 3 (Nat.le_of_ble_eq_true rfl) (List.mem_of_getElem? (i := 259) (by decide +kernel)) hin rfl (by decide +kernel) rfl rfl (Nat.le_of_ble_eq_true rfl) dX1_init_35 (fun H locs hP hD hS => ?_)
  refine lv_aload_n hx hb dX1_init_38 rfl (lv_at hl 0 rfl) ?_
  refine lv_iconst (v := nI 0) hx hb dX1_init_39 (by decide +kernel) ?_
  refine kn_put (v := .int (nI 0)) (ty := (.int)) hx hb hw hK hP hD hS RX1 TX1 7 rfl hown 4 (Nat.le_of_ble_eq_true rfl) (List.mem_of_getElem? (i := 260) (by decide +kernel)) hin rfl (by decide +kernel) rfl rfl (Nat.le_of_ble_eq_true rfl) dX1_init_40 (fun H locs hP hD hS => ?_)
  refine lv_aload_n hx hb dX1_init_43 rfl (lv_at hl 0 rfl) ?_
  refine lv_iconst (v := nI 0) hx hb dX1_init_44 (by decide +kernel) ?_
  refine kn_put (v := .int (nI 0)) (ty := (.int)) hx hb hw hK hP hD hS RX1 TX1 7 rfl hown 5 (Nat.le_of_ble_eq_true rfl) (List.mem_of_getElem? (i := 261) (by decide +kernel)) hin rfl (by decide +kernel) rfl rfl (Nat.le_of_ble_eq_true rfl) dX1_init_45 (fun H locs hP hD hS => ?_)
  refine lv_aload_n hx hb dX1_init_48 rfl (lv_at hl 0 rfl) ?_
  refine lv_iconst (v := nI 0) hx hb dX1_init_49 (by decide +kernel) ?_
  refine kn_put (v := .int (nI 0)) (ty := (.int)) hx hb hw hK hP hD hS RX1 TX1 7 rfl hown 6 (Nat.le_of_ble_eq_true rfl) (List.mem_of_getElem? (i := 262) (by decide +kernel)) hin rfl (by decide +kernel) rfl rfl (Nat.le_of_ble_eq_true rfl) dX1_init_50 (fun H locs hP hD hS => ?_)
  have hP9 : va_P D vwCl [(h0, .inr (0, [.ref ((fun k => [q8, q17, q25, q33].getD k 0) 0), .ref ((fun k => [q8, q17, q25, q33].getD k 0) 1), .ref ((fun k => [q8, q17, q25, q33].getD k 0) 2), .ref ((fun k => [q8, q17, q25, q33].getD k 0) 3), .int (nI 0), .int (nI 0), .int (nI 0)])), (((fun k => [q8, q17, q25, q33].getD k 0) 0), zA cA 800), (((fun k => [q8, q17, q25, q33].getD k 0) 1), zA cA 800), (((fun k => [q8, q17, q25, q33].getD k 0) 2), zA cA 100), (((fun k => [q8, q17, q25, q33].getD k 0) 3), zA cA 100)] H := hP
  have hD9 : va_D A [(h0, .inr (0, [.ref ((fun k => [q8, q17, q25, q33].getD k 0) 0), .ref ((fun k => [q8, q17, q25, q33].getD k 0) 1), .ref ((fun k => [q8, q17, q25, q33].getD k 0) 2), .ref ((fun k => [q8, q17, q25, q33].getD k 0) 3), .int (nI 0), .int (nI 0), .int (nI 0)])), (((fun k => [q8, q17, q25, q33].getD k 0) 0), zA cA 800), (((fun k => [q8, q17, q25, q33].getD k 0) 1), zA cA 800), (((fun k => [q8, q17, q25, q33].getD k 0) 2), zA cA 100), (((fun k => [q8, q17, q25, q33].getD k 0) 3), zA cA 100)] := hD
  refine W.widen (k := 4) (n := 1800) (Nat.le_of_ble_eq_true rfl) (Nat.le_of_ble_eq_true rfl) ?_
  exact W.vret hx hb hr (fun t ht hW => ⟨⟨(fun k => [q8, q17, q25, q33].getD k 0), rfl, trivial, by rw [ht]; exact hP9, va_K.moved hW.alike hK, hD9⟩, hS.F ht⟩) hS.2.2 dX1_init_53
theorem dX4_init_0 : decode cX4_init 0 = .ok (.aload_n 0, 1) := by decide +kernel
theorem dX4_init_1 : decode cX4_init 1 = .ok (.invokespecial 3, 3) := by decide +kernel
theorem dX4_init_4 : decode cX4_init 4 = .ok (.aload_n 0, 1) := by decide +kernel
theorem dX4_init_5 : decode cX4_init 5 = .ok (.bipush 20, 2) := by decide +kernel
theorem dX4_init_7 : decode cX4_init 7 = .ok (.newarray .int, 2) := by decide +kernel
theorem dX4_init_9 : decode cX4_init 9 = .ok (.putfield 9, 3) := by decide +kernel
theorem dX4_init_12 : decode cX4_init 12 = .ok (.aload_n 0, 1) := by decide +kernel
theorem dX4_init_13 : decode cX4_init 13 = .ok (.new 15, 3) := by decide +kernel
theorem dX4_init_16 : decode cX4_init 16 = .ok (.dup, 1) := by decide +kernel
theorem dX4_init_17 : decode cX4_init 17 = .ok (.invokespecial 17, 3) := by decide +kernel
theorem dX4_init_20 : decode cX4_init 20 = .ok (.putfield 18, 3) := by decide +kernel
theorem dX4_init_23 : decode cX4_init 23 = .ok (.aload_n 0, 1) := by decide +kernel
theorem dX4_init_24 : decode cX4_init 24 = .ok (.iconst 0, 1) := by decide +kernel
theorem dX4_init_25 : decode cX4_init 25 = .ok (.putfield 22, 3) := by decide +kernel
theorem dX4_init_28 : decode cX4_init 28 = .ok (.aload_n 0, 1) := by decide +kernel
theorem dX4_init_29 : decode cX4_init 29 = .ok (.ldc 26, 2) := by decide +kernel
theorem dX4_init_31 : decode cX4_init 31 = .ok (.putfield 27, 3) := by decide +kernel
theorem dX4_init_34 : decode cX4_init 34 = .ok (.aload_n 0, 1) := by decide +kernel
theorem dX4_init_35 : decode cX4_init 35 = .ok (.iconst 0, 1) := by decide +kernel
theorem dX4_init_36 : decode cX4_init 36 = .ok (.putfield 31, 3) := by decide +kernel
theorem dX4_init_39 : decode cX4_init 39 = .ok (.return_, 1) := by decide +kernel
set_option maxHeartbeats 4000000 in
set_option maxRecDepth 100000 in
theorem c_X4_init (l : Launch) (D : va_G) (cA : ClassId) (h0 sz : Nat) : Met l yX4_init (Cond.code yX4_init cX4_init 1 none :: am_ws) { frames := 2, cells := 10, slots := 511, locals := 40 } (knP D cA [.ref h0] [(h0, .inr (2, [.null, .null, .int 0, .int 0, .int 0]))] sz) (knQ D cA (fun a => [(h0, .inr (2, [.ref (a 0), .ref (a 1), .int (nI 0), .int (nI 1048576), .int (nI 0)])), ((a 0), zA cA 20), ((a 1), .inr (6, [.ref (a 2), .ref (a 3), .ref (a 4), .ref (a 5), .ref (a 6), .ref (a 7), .ref (a 8), .ref (a 9), .int (nI 0), .int (nI 0), .int (-1)])), ((a 2), zA cA 60), ((a 3), zA cA 60), ((a 4), zA cA 60), ((a 5), zA cA 60), ((a 6), zA cA 60), ((a 7), zA cA 60), ((a 8), zA cA 60), ((a 9), zA cA 60)]) (va_A [(h0, .inr (2, [.null, .null, .int 0, .int 0, .int 0]))] sz)) 10 511 (va_A [(h0, .inr (2, [.null, .null, .int 0, .int 0, .int 0]))] sz) := by
  refine Met.ofW (cc := cX4_init) (maxL := 1) (ret := none) (by decide) rfl ?_
  intro p e s m args below meth c s₁ B hml hv
  obtain ⟨rfl, hsz, hP, hK, hD0⟩ := hv
  have hx := B.exec
  have hb := B.bytes
  have hr := B.returns
  have hts := atoms_spec (ws := (Cond.code yX4_init cX4_init 1 none :: am_ws)) B.pre
  have hw : ∀ w ∈ am_ws, w.before _ s = true := fun w h => hts w (List.mem_cons_of_mem _ h)
  have hown : s.vm.findClass RX4 = some m.cls := findClass_of_methodNamed B.named
  have hin : meth.name = "<init>" := (name_of_methodNamed B.named B.method).1
  subst hsz
  have hD := hD0.self (sz := s.heap.size)
  generalize hAe : va_A [(h0, .inr (2, [.null, .null, .int 0, .int 0, .int 0]))] s.heap.size = A at hD ⊢
  have hA : ∀ q : Nat, s.heap.size ≤ q → A q := fun q h => by rw [← hAe]; exact Or.inr h
  have hS : va_S A s.heap s.heap [] := va_S.rf
  have hP : va_P D vwCl [(h0, .inr (2, [.null, .null, .int 0, .int 0, .int 0]))] s.heap := hP
  have hl := lv_entry ([.ref h0]) (n := 1) (Nat.le_of_ble_eq_true rfl)
  rw [lg_entry_eq]
  generalize (lg_sl ([.ref h0]) ++ List.replicate (1 - (lg_sl ([.ref h0])).length) Slot.unset).toArray = ls at hl ⊢
  have hl : lv_has ls 1 [(0, .ref h0)] := hl
  refine lv_aload_n hx hb dX4_init_0 rfl (lv_at hl 0 rfl) ?_
  refine W.objInit hx hb hown (hw _ (am_in (List.mem_of_getElem? (i := 186) (by decide +kernel)) rfl)) (hw _ (am_in (List.mem_of_getElem? (i := 102) (by decide +kernel)) rfl)) (hw _ (am_in (List.mem_of_getElem? (i := 103) (by decide +kernel)) rfl)) rfl (by rw [hml]; exact hl.1) rfl dX4_init_1 (Nat.le_of_ble_eq_true rfl) (Nat.le_of_ble_eq_true rfl) ?_
  refine W.eq (g2 := F0 m 4 ls []) rfl ?_
  refine lv_aload_n hx hb dX4_init_4 rfl (lv_at hl 0 rfl) ?_
  refine lv_bipush (v := nI 20) hx hb dX4_init_5 (by decide +kernel) ?_
  refine kn_newa (N := 20) hx hb (hw _ (am_in (List.mem_of_getElem? (i := 117) (by decide +kernel)) rfl)) hK rfl hP hD hS hA (by decide) (by decide +kernel) (Nat.le_of_ble_eq_true rfl) (Nat.le_of_ble_eq_true rfl) (Nat.le_of_ble_eq_true rfl) dX4_init_7 (fun q7 H hP hD hS => ?_)
  refine kn_put (v := .ref q7) (ty := (.array .int)) hx hb hw hK hP hD hS RX4 TX4 5 rfl hown 0 (Nat.le_of_ble_eq_true rfl) (List.mem_of_getElem? (i := 190) (by decide +kernel)) hin rfl (by decide +kernel) rfl rfl (Nat.le_of_ble_eq_true rfl) dX4_init_9 (fun H locs hP hD hS => ?_)
  refine lv_aload_n hx hb dX4_init_12 rfl (lv_at hl 0 rfl) ?_
  refine kn_new (ci := 6) (fs := [.null, .null, .null, .null, .null, .null, .null, .null, .int 0, .int 0, .int 0]) hx hb hw hK hP hD hS hA hown RX8 TX8 11 rfl (List.mem_of_getElem? (i := 187) (by decide +kernel)) (List.mem_of_getElem? (i := 125) (by decide +kernel)) (List.mem_of_getElem? (i := 85) (by decide +kernel)) (fun k => match k with | 0 => .array .int | 1 => .array .int | 2 => .array .int | 3 => .array .int | 4 => .array .int | 5 => .array .int | 6 => .array .int | 7 => .array .int | 8 => .int | 9 => .int | _ => .int) (by decide +kernel) (by decide +kernel) (Nat.le_of_ble_eq_true rfl) (Nat.le_of_ble_eq_true rfl) dX4_init_13 (fun q13 H hP hD hS => ?_)
  have hP : va_P D vwCl [(h0, .inr (2, [.ref q7, .null, .int 0, .int 0, .int 0])), (q7, zA cA 20), (q13, .inr (6, [.null, .null, .null, .null, .null, .null, .null, .null, .int 0, .int 0, .int 0]))] H := hP
  have hD : va_D A [(h0, .inr (2, [.ref q7, .null, .int 0, .int 0, .int 0])), (q7, zA cA 20), (q13, .inr (6, [.null, .null, .null, .null, .null, .null, .null, .null, .int 0, .int 0, .int 0]))] := hD
  refine lv_dup hx hb dX4_init_16 rfl ?_
  have hPc := hP.sub (ws' := [(q13, .inr (6, [.null, .null, .null, .null, .null, .null, .null, .null, .int 0, .int 0, .int 0]))]) [2] rfl
  have hDc := hD.sub (ws' := [(q13, .inr (6, [.null, .null, .null, .null, .null, .null, .null, .null, .int 0, .int 0, .int 0]))]) [2] (by decide) rfl
  have hKc := hK.sub (tys' := [(cA, .int)]) [0] rfl
  have hFc := va_free (wc := [(q13, .inr (6, [.null, .null, .null, .null, .null, .null, .null, .null, .int 0, .int 0, .int 0]))]) hD hS hA [2] rfl
  refine va_callv (va_runI (As := []) (rest := [.ref q13, .ref h0]) ⟨hx, hb, hml, hown, hw⟩ (c_X8_init l D cA q13 H.size) (cwI 0 hw (kn_good (List.mem_of_getElem? (i := 128) (by decide +kernel)) rfl) rfl rfl rfl (hw _ (am_in (List.mem_of_getElem? (i := 85) (by decide +kernel)) rfl)) (hw _ (am_in (List.mem_of_getElem? (i := 188) (by decide +kernel)) rfl)) (hw _ (am_in (List.mem_of_getElem? (i := 127) (by decide +kernel)) rfl)) rfl (by decide +kernel) ⟨Nat.le_of_ble_eq_true rfl, Nat.le_of_ble_eq_true rfl⟩) ⟨fun a U g mk q => by obtain ⟨q0, q1, qP, qK, qD⟩ := q; exact ⟨q0, q1, qP, va_K.moved (u := U) (U := U.calling g mk a) (Vm.Alike.refl U.vm) qK, qD⟩, fun U hU hW => ⟨rfl, by rw [hU], by rw [hU]; exact hPc, va_K.moved hW.alike hKc, hDc.weaken (fun _ _ _ _ => trivial)⟩⟩ rfl rfl hl.1 rfl (lv_room (Nat.le_of_ble_eq_true rfl)) dX4_init_17 ⟨Nat.le_of_ble_eq_true rfl, Nat.le_of_ble_eq_true rfl⟩) hS (fun q _ h => hFc q h) hFc (fun u1 t H1 locs ht hvm _ hB hz1 hk1 hS => ?_)
  obtain ⟨hP1, hK1, hD1⟩ := hB
  rw [ht] at hP1
  obtain ⟨hP, hD⟩ := va_join (wr := [(h0, .inr (2, [.ref q7, .null, .int 0, .int 0, .int 0])), (q7, zA cA 20)]) (w1 := [(q13, .inr (6, [.ref (u1 0), .ref (u1 1), .ref (u1 2), .ref (u1 3), .ref (u1 4), .ref (u1 5), .ref (u1 6), .ref (u1 7), .int (nI 0), .int (nI 0), .int (-1)])), ((u1 0), zA cA 60), ((u1 1), zA cA 60), ((u1 2), zA cA 60), ((u1 3), zA cA 60), ((u1 4), zA cA 60), ((u1 5), zA cA 60), ((u1 6), zA cA 60), ((u1 7), zA cA 60)]) hP hD [2] [0, 1] rfl rfl (by decide) (by decide) hk1 hFc hP1 hD1
  generalize H1 = H at hP hS ⊢
  have hP : va_P D vwCl [(h0, .inr (2, [.ref q7, .null, .int 0, .int 0, .int 0])), (q7, zA cA 20), (q13, .inr (6, [.ref (u1 0), .ref (u1 1), .ref (u1 2), .ref (u1 3), .ref (u1 4), .ref (u1 5), .ref (u1 6), .ref (u1 7), .int (nI 0), .int (nI 0), .int (-1)])), ((u1 0), zA cA 60), ((u1 1), zA cA 60), ((u1 2), zA cA 60), ((u1 3), zA cA 60), ((u1 4), zA cA 60), ((u1 5), zA cA 60), ((u1 6), zA cA 60), ((u1 7), zA cA 60)] H := hP
  have hD : va_D A [(h0, .inr (2, [.ref q7, .null, .int 0, .int 0, .int 0])), (q7, zA cA 20), (q13, .inr (6, [.ref (u1 0), .ref (u1 1), .ref (u1 2), .ref (u1 3), .ref (u1 4), .ref (u1 5), .ref (u1 6), .ref (u1 7), .int (nI 0), .int (nI 0), .int (-1)])), ((u1 0), zA cA 60), ((u1 1), zA cA 60), ((u1 2), zA cA 60), ((u1 3), zA cA 60), ((u1 4), zA cA 60), ((u1 5), zA cA 60), ((u1 6), zA cA 60), ((u1 7), zA cA 60)] := hD
  refine kn_put (v := .ref q13) (ty := (.object "SettledInstants$Tree")) hx hb hw hK hP hD hS RX4 TX4 5 rfl hown 1 (Nat.le_of_ble_eq_true rfl) (List.mem_of_getElem? (i := 191) (by decide +kernel)) hin rfl (by decide +kernel) rfl rfl (Nat.le_of_ble_eq_true rfl) dX4_init_20 (fun H locs hP hD hS => ?_)
  refine lv_aload_n hx hb dX4_init_23 rfl (lv_at hl 0 rfl) ?_
  refine lv_iconst (v := nI 0) hx hb dX4_init_24 (by decide +kernel) ?_
  refine kn_put (v := .int (nI 0)) (ty := (.boolean)) hx hb hw hK hP hD hS RX4 TX4 5 rfl hown 2 (Nat.le_of_ble_eq_true rfl) (List.mem_of_getElem? (i := 192) (by decide +kernel)) hin rfl (by decide +kernel) rfl rfl (Nat.le_of_ble_eq_true rfl) dX4_init_25 (fun H locs hP hD hS => ?_)
  refine lv_aload_n hx hb dX4_init_28 rfl (lv_at hl 0 rfl) ?_
  refine lv_ldc (v := nI 1048576) hx hb hown (hw _ (am_in (List.mem_of_getElem? (i := 189) (by decide +kernel)) rfl)) dX4_init_29 ?_
  refine kn_put (v := .int (nI 1048576)) (ty := (.int)) hx hb hw hK hP hD hS RX4 TX4 5 rfl hown 3 (Nat.le_of_ble_eq_true rfl) (List.mem_of_getElem? (i := 193) (by decide +kernel)) hin rfl (by decide +kernel) rfl rfl (Nat.le_of_ble_eq_true rfl) dX4_init_31 (fun H locs hP hD hS => ?_)
  refine lv_aload_n hx hb dX4_init_34 rfl (lv_at hl 0 rfl) ?_
  refine lv_iconst (v := nI 0) hx hb dX4_init_35 (by decide +kernel) ?_
  refine kn_put (v := .int (nI 0)) (ty := (.int)) hx hb hw hK hP hD hS RX4 TX4 5 rfl hown 4 (Nat.le_of_ble_eq_true rfl) (List.mem_of_getElem? (i := 194) (by decide +kernel)) hin rfl (by decide +kernel) rfl rfl (Nat.le_of_ble_eq_true rfl) dX4_init_36 (fun H locs hP hD hS => ?_)
  have hP9 : va_P D vwCl [(h0, .inr (2, [.ref ((fun k => [q7, q13, (u1 0), (u1 1), (u1 2), (u1 3), (u1 4), (u1 5), (u1 6), (u1 7)].getD k 0) 0), .ref ((fun k => [q7, q13, (u1 0), (u1 1), (u1 2), (u1 3), (u1 4), (u1 5), (u1 6), (u1 7)].getD k 0) 1), .int (nI 0), .int (nI 1048576), .int (nI 0)])), (((fun k => [q7, q13, (u1 0), (u1 1), (u1 2), (u1 3), (u1 4), (u1 5), (u1 6), (u1 7)].getD k 0) 0), zA cA 20), (((fun k => [q7, q13, (u1 0), (u1 1), (u1 2), (u1 3), (u1 4), (u1 5), (u1 6), (u1 7)].getD k 0) 1), .inr (6, [.ref ((fun k => [q7, q13, (u1 0), (u1 1), (u1 2), (u1 3), (u1 4), (u1 5), (u1 6), (u1 7)].getD k 0) 2), .ref ((fun k => [q7, q13, (u1 0), (u1 1), (u1 2), (u1 3), (u1 4), (u1 5), (u1 6), (u1 7)].getD k 0) 3), .ref ((fun k => [q7, q13, (u1 0), (u1 1), (u1 2), (u1 3), (u1 4), (u1 5), (u1 6), (u1 7)].getD k 0) 4), .ref ((fun k => [q7, q13, (u1 0), (u1 1), (u1 2), (u1 3), (u1 4), (u1 5), (u1 6), (u1 7)].getD k 0) 5), .ref ((fun k => [q7, q13, (u1 0), (u1 1), (u1 2), (u1 3), (u1 4), (u1 5), (u1 6), (u1 7)].getD k 0) 6), .ref ((fun k => [q7, q13, (u1 0), (u1 1), (u1 2), (u1 3), (u1 4), (u1 5), (u1 6), (u1 7)].getD k 0) 7), .ref ((fun k => [q7, q13, (u1 0), (u1 1), (u1 2), (u1 3), (u1 4), (u1 5), (u1 6), (u1 7)].getD k 0) 8), .ref ((fun k => [q7, q13, (u1 0), (u1 1), (u1 2), (u1 3), (u1 4), (u1 5), (u1 6), (u1 7)].getD k 0) 9), .int (nI 0), .int (nI 0), .int (-1)])), (((fun k => [q7, q13, (u1 0), (u1 1), (u1 2), (u1 3), (u1 4), (u1 5), (u1 6), (u1 7)].getD k 0) 2), zA cA 60), (((fun k => [q7, q13, (u1 0), (u1 1), (u1 2), (u1 3), (u1 4), (u1 5), (u1 6), (u1 7)].getD k 0) 3), zA cA 60), (((fun k => [q7, q13, (u1 0), (u1 1), (u1 2), (u1 3), (u1 4), (u1 5), (u1 6), (u1 7)].getD k 0) 4), zA cA 60), (((fun k => [q7, q13, (u1 0), (u1 1), (u1 2), (u1 3), (u1 4), (u1 5), (u1 6), (u1 7)].getD k 0) 5), zA cA 60), (((fun k => [q7, q13, (u1 0), (u1 1), (u1 2), (u1 3), (u1 4), (u1 5), (u1 6), (u1 7)].getD k 0) 6), zA cA 60), (((fun k => [q7, q13, (u1 0), (u1 1), (u1 2), (u1 3), (u1 4), (u1 5), (u1 6), (u1 7)].getD k 0) 7), zA cA 60), (((fun k => [q7, q13, (u1 0), (u1 1), (u1 2), (u1 3), (u1 4), (u1 5), (u1 6), (u1 7)].getD k 0) 8), zA cA 60), (((fun k => [q7, q13, (u1 0), (u1 1), (u1 2), (u1 3), (u1 4), (u1 5), (u1 6), (u1 7)].getD k 0) 9), zA cA 60)] H := hP
  have hD9 : va_D A [(h0, .inr (2, [.ref ((fun k => [q7, q13, (u1 0), (u1 1), (u1 2), (u1 3), (u1 4), (u1 5), (u1 6), (u1 7)].getD k 0) 0), .ref ((fun k => [q7, q13, (u1 0), (u1 1), (u1 2), (u1 3), (u1 4), (u1 5), (u1 6), (u1 7)].getD k 0) 1), .int (nI 0), .int (nI 1048576), .int (nI 0)])), (((fun k => [q7, q13, (u1 0), (u1 1), (u1 2), (u1 3), (u1 4), (u1 5), (u1 6), (u1 7)].getD k 0) 0), zA cA 20), (((fun k => [q7, q13, (u1 0), (u1 1), (u1 2), (u1 3), (u1 4), (u1 5), (u1 6), (u1 7)].getD k 0) 1), .inr (6, [.ref ((fun k => [q7, q13, (u1 0), (u1 1), (u1 2), (u1 3), (u1 4), (u1 5), (u1 6), (u1 7)].getD k 0) 2), .ref ((fun k => [q7, q13, (u1 0), (u1 1), (u1 2), (u1 3), (u1 4), (u1 5), (u1 6), (u1 7)].getD k 0) 3), .ref ((fun k => [q7, q13, (u1 0), (u1 1), (u1 2), (u1 3), (u1 4), (u1 5), (u1 6), (u1 7)].getD k 0) 4), .ref ((fun k => [q7, q13, (u1 0), (u1 1), (u1 2), (u1 3), (u1 4), (u1 5), (u1 6), (u1 7)].getD k 0) 5), .ref ((fun k => [q7, q13, (u1 0), (u1 1), (u1 2), (u1 3), (u1 4), (u1 5), (u1 6), (u1 7)].getD k 0) 6), .ref ((fun k => [q7, q13, (u1 0), (u1 1), (u1 2), (u1 3), (u1 4), (u1 5), (u1 6), (u1 7)].getD k 0) 7), .ref ((fun k => [q7, q13, (u1 0), (u1 1), (u1 2), (u1 3), (u1 4), (u1 5), (u1 6), (u1 7)].getD k 0) 8), .ref ((fun k => [q7, q13, (u1 0), (u1 1), (u1 2), (u1 3), (u1 4), (u1 5), (u1 6), (u1 7)].getD k 0) 9), .int (nI 0), .int (nI 0), .int (-1)])), (((fun k => [q7, q13, (u1 0), (u1 1), (u1 2), (u1 3), (u1 4), (u1 5), (u1 6), (u1 7)].getD k 0) 2), zA cA 60), (((fun k => [q7, q13, (u1 0), (u1 1), (u1 2), (u1 3), (u1 4), (u1 5), (u1 6), (u1 7)].getD k 0) 3), zA cA 60), (((fun k => [q7, q13, (u1 0), (u1 1), (u1 2), (u1 3), (u1 4), (u1 5), (u1 6), (u1 7)].getD k 0) 4), zA cA 60), (((fun k => [q7, q13, (u1 0), (u1 1), (u1 2), (u1 3), (u1 4), (u1 5), (u1 6), (u1 7)].getD k 0) 5), zA cA 60), (((fun k => [q7, q13, (u1 0), (u1 1), (u1 2), (u1 3), (u1 4), (u1 5), (u1 6), (u1 7)].getD k 0) 6), zA cA 60), (((fun k => [q7, q13, (u1 0), (u1 1), (u1 2), (u1 3), (u1 4), (u1 5), (u1 6), (u1 7)].getD k 0) 7), zA cA 60), (((fun k => [q7, q13, (u1 0), (u1 1), (u1 2), (u1 3), (u1 4), (u1 5), (u1 6), (u1 7)].getD k 0) 8), zA cA 60), (((fun k => [q7, q13, (u1 0), (u1 1), (u1 2), (u1 3), (u1 4), (u1 5), (u1 6), (u1 7)].getD k 0) 9), zA cA 60)] := hD
  refine W.widen (k := 10) (n := 511) (Nat.le_of_ble_eq_true rfl) (Nat.le_of_ble_eq_true rfl) ?_
  exact W.vret hx hb hr (fun t ht hW => ⟨⟨(fun k => [q7, q13, (u1 0), (u1 1), (u1 2), (u1 3), (u1 4), (u1 5), (u1 6), (u1 7)].getD k 0), rfl, trivial, by rw [ht]; exact hP9, va_K.moved hW.alike hK, hD9⟩, hS.F ht⟩) hS.2.2 dX4_init_39
theorem dX6_init_0 : decode cX6_init 0 = .ok (.aload_n 0, 1) := by decide +kernel
theorem dX6_init_1 : decode cX6_init 1 = .ok (.invokespecial 3, 3) := by decide +kernel
theorem dX6_init_4 : decode cX6_init 4 = .ok (.aload_n 0, 1) := by decide +kernel
theorem dX6_init_5 : decode cX6_init 5 = .ok (.aload_n 1, 1) := by decide +kernel
theorem dX6_init_6 : decode cX6_init 6 = .ok (.putfield 9, 3) := by decide +kernel
theorem dX6_init_9 : decode cX6_init 9 = .ok (.aload_n 0, 1) := by decide +kernel
theorem dX6_init_10 : decode cX6_init 10 = .ok (.new 15, 3) := by decide +kernel
theorem dX6_init_13 : decode cX6_init 13 = .ok (.dup, 1) := by decide +kernel
theorem dX6_init_14 : decode cX6_init 14 = .ok (.invokespecial 17, 3) := by decide +kernel
theorem dX6_init_17 : decode cX6_init 17 = .ok (.putfield 18, 3) := by decide +kernel
theorem dX6_init_20 : decode cX6_init 20 = .ok (.aload_n 0, 1) := by decide +kernel
theorem dX6_init_21 : decode cX6_init 21 = .ok (.iconst 0, 1) := by decide +kernel
theorem dX6_init_22 : decode cX6_init 22 = .ok (.putfield 22, 3) := by decide +kernel
theorem dX6_init_25 : decode cX6_init 25 = .ok (.aload_n 0, 1) := by decide +kernel
theorem dX6_init_26 : decode cX6_init 26 = .ok (.iconst 0, 1) := by decide +kernel
theorem dX6_init_27 : decode cX6_init 27 = .ok (.putfield 26, 3) := by decide +kernel
theorem dX6_init_30 : decode cX6_init 30 = .ok (.aload_n 0, 1) := by decide +kernel
theorem dX6_init_31 : decode cX6_init 31 = .ok (.iconst 0, 1) := by decide +kernel
theorem dX6_init_32 : decode cX6_init 32 = .ok (.putfield 29, 3) := by decide +kernel
theorem dX6_init_35 : decode cX6_init 35 = .ok (.return_, 1) := by decide +kernel
set_option maxHeartbeats 4000000 in
set_option maxRecDepth 100000 in
theorem c_X6_init (l : Launch) (D : va_G) (cA : ClassId) (h0 h1 sz : Nat) : Met l yX6_init (Cond.code yX6_init cX6_init 2 none :: am_ws) { frames := 2, cells := 9, slots := 491, locals := 40 } (knP D cA [.ref h0, .ref h1] [(h0, .inr (4, [.null, .null, .int 0, .int 0, .int 0]))] sz) (knQ D cA (fun a => [(h0, .inr (4, [.ref h1, .ref (a 0), .int (nI 0), .int (nI 0), .int (nI 0)])), ((a 0), .inr (6, [.ref (a 1), .ref (a 2), .ref (a 3), .ref (a 4), .ref (a 5), .ref (a 6), .ref (a 7), .ref (a 8), .int (nI 0), .int (nI 0), .int (-1)])), ((a 1), zA cA 60), ((a 2), zA cA 60), ((a 3), zA cA 60), ((a 4), zA cA 60), ((a 5), zA cA 60), ((a 6), zA cA 60), ((a 7), zA cA 60), ((a 8), zA cA 60)]) (va_A [(h0, .inr (4, [.null, .null, .int 0, .int 0, .int 0]))] sz)) 9 491 (va_A [(h0, .inr (4, [.null, .null, .int 0, .int 0, .int 0]))] sz) := by
  refine Met.ofW (cc := cX6_init) (maxL := 2) (ret := none) (by decide) rfl ?_
  intro p e s m args below meth c s₁ B hml hv
  obtain ⟨rfl, hsz, hP, hK, hD0⟩ := hv
  have hx := B.exec
  have hb := B.bytes
  have hr := B.returns
  have hts := atoms_spec (ws := (Cond.code yX6_init cX6_init 2 none :: am_ws)) B.pre
  have hw : ∀ w ∈ am_ws, w.before _ s = true := fun w h => hts w (List.mem_cons_of_mem _ h)
  have hown : s.vm.findClass RX6 = some m.cls := findClass_of_methodNamed B.named
  have hin : meth.name = "<init>" := (name_of_methodNamed B.named B.method).1
  subst hsz
  have hD := hD0.self (sz := s.heap.size)
  generalize hAe : va_A [(h0, .inr (4, [.null, .null, .int 0, .int 0, .int 0]))] s.heap.size = A at hD ⊢
  have hA : ∀ q : Nat, s.heap.size ≤ q → A q := fun q h => by rw [← hAe]; exact Or.inr h
  have hS : va_S A s.heap s.heap [] := va_S.rf
  have hP : va_P D vwCl [(h0, .inr (4, [.null, .null, .int 0, .int 0, .int 0]))] s.heap := hP
  have hl := lv_entry ([.ref h0, .ref h1]) (n := 2) (Nat.le_of_ble_eq_true rfl)
  rw [lg_entry_eq]
  generalize (lg_sl ([.ref h0, .ref h1]) ++ List.replicate (2 - (lg_sl ([.ref h0, .ref h1])).length) Slot.unset).toArray = ls at hl ⊢
  have hl : lv_has ls 2 [(0, .ref h0), (1, .ref h1)] := hl
  refine lv_aload_n hx hb dX6_init_0 rfl (lv_at hl 0 rfl) ?_
  refine W.objInit hx hb hown (hw _ (am_in (List.mem_of_getElem? (i := 123) (by decide +kernel)) rfl)) (hw _ (am_in (List.mem_of_getElem? (i := 102) (by decide +kernel)) rfl)) (hw _ (am_in (List.mem_of_getElem? (i := 103) (by decide +kernel)) rfl)) rfl (by rw [hml]; exact hl.1) rfl dX6_init_1 (Nat.le_of_ble_eq_true rfl) (Nat.le_of_ble_eq_true rfl) ?_
  refine W.eq (g2 := F0 m 4 ls []) rfl ?_
  refine lv_aload_n hx hb dX6_init_4 rfl (lv_at hl 0 rfl) ?_
  refine lv_aload_n hx hb dX6_init_5 rfl (lv_at hl 1 rfl) ?_
  refine kn_put (v := .ref h1) (ty := (.object "SettledInstants$Text")) hx hb hw hK hP hD hS RX6 TX6 5 rfl hown 0 (Nat.le_of_ble_eq_true rfl) (List.mem_of_getElem? (i := 164) (by decide +kernel)) hin rfl (by decide +kernel) rfl rfl (Nat.le_of_ble_eq_true rfl) dX6_init_6 (fun H locs hP hD hS => ?_)
  refine lv_aload_n hx hb dX6_init_9 rfl (lv_at hl 0 rfl) ?_
  refine kn_new (ci := 6) (fs := [.null, .null, .null, .null, .null, .null, .null, .null, .int 0, .int 0, .int 0]) hx hb hw hK hP hD hS hA hown RX8 TX8 11 rfl (List.mem_of_getElem? (i := 124) (by decide +kernel)) (List.mem_of_getElem? (i := 125) (by decide +kernel)) (List.mem_of_getElem? (i := 85) (by decide +kernel)) (fun k => match k with | 0 => .array .int | 1 => .array .int | 2 => .array .int | 3 => .array .int | 4 => .array .int | 5 => .array .int | 6 => .array .int | 7 => .array .int | 8 => .int | 9 => .int | _ => .int) (by decide +kernel) (by decide +kernel) (Nat.le_of_ble_eq_true rfl) (Nat.le_of_ble_eq_true rfl) dX6_init_10 (fun q10 H hP hD hS => ?_)
  have hP : va_P D vwCl [(h0, .inr (4, [.ref h1, .null, .int 0, .int 0, .int 0])), (q10, .inr (6, [.null, .null, .null, .null, .null, .null, .null, .null, .int 0, .int 0, .int 0]))] H := hP
  have hD : va_D A [(h0, .inr (4, [.ref h1, .null, .int 0, .int 0, .int 0])), (q10, .inr (6, [.null, .null, .null, .null, .null, .null, .null, .null, .int 0, .int 0, .int 0]))] := hD
  refine lv_dup hx hb dX6_init_13 rfl ?_
  have hPc := hP.sub (ws' := [(q10, .inr (6, [.null, .null, .null, .null, .null, .null, .null, .null, .int 0, .int 0, .int 0]))]) [1] rfl
  have hDc := hD.sub (ws' := [(q10, .inr (6, [.null, .null, .null, .null, .null, .null, .null, .null, .int 0, .int 0, .int 0]))]) [1] (by decide) rfl
  have hKc := hK.sub (tys' := [(cA, .int)]) [0] rfl
  have hFc := va_free (wc := [(q10, .inr (6, [.null, .null, .null, .null, .null, .null, .null, .null, .int 0, .int 0, .int 0]))]) hD hS hA [1] rfl
  refine va_callv (va_runI (As := []) (rest := [.ref q10, .ref h0]) ⟨hx, hb, hml, hown, hw⟩ (c_X8_init l D cA q10 H.size) (cwI 0 hw (kn_good (List.mem_of_getElem? (i := 128) (by decide +kernel)) rfl) rfl rfl rfl (hw _ (am_in (List.mem_of_getElem? (i := 85) (by decide +kernel)) rfl)) (hw _ (am_in (List.mem_of_getElem? (i := 126) (by decide +kernel)) rfl)) (hw _ (am_in (List.mem_of_getElem? (i := 127) (by decide +kernel)) rfl)) rfl (by decide +kernel) ⟨Nat.le_of_ble_eq_true rfl, Nat.le_of_ble_eq_true rfl⟩) ⟨fun a U g mk q => by obtain ⟨q0, q1, qP, qK, qD⟩ := q; exact ⟨q0, q1, qP, va_K.moved (u := U) (U := U.calling g mk a) (Vm.Alike.refl U.vm) qK, qD⟩, fun U hU hW => ⟨rfl, by rw [hU], by rw [hU]; exact hPc, va_K.moved hW.alike hKc, hDc.weaken (fun _ _ _ _ => trivial)⟩⟩ rfl rfl hl.1 rfl (lv_room (Nat.le_of_ble_eq_true rfl)) dX6_init_14 ⟨Nat.le_of_ble_eq_true rfl, Nat.le_of_ble_eq_true rfl⟩) hS (fun q _ h => hFc q h) hFc (fun u1 t H1 locs ht hvm _ hB hz1 hk1 hS => ?_)
  obtain ⟨hP1, hK1, hD1⟩ := hB
  rw [ht] at hP1
  obtain ⟨hP, hD⟩ := va_join (wr := [(h0, .inr (4, [.ref h1, .null, .int 0, .int 0, .int 0]))]) (w1 := [(q10, .inr (6, [.ref (u1 0), .ref (u1 1), .ref (u1 2), .ref (u1 3), .ref (u1 4), .ref (u1 5), .ref (u1 6), .ref (u1 7), .int (nI 0), .int (nI 0), .int (-1)])), ((u1 0), zA cA 60), ((u1 1), zA cA 60), ((u1 2), zA cA 60), ((u1 3), zA cA 60), ((u1 4), zA cA 60), ((u1 5), zA cA 60), ((u1 6), zA cA 60), ((u1 7), zA cA 60)]) hP hD [1] [0] rfl rfl (by decide) (by decide) hk1 hFc hP1 hD1
  generalize H1 = H at hP hS ⊢
  have hP : va_P D vwCl [(h0, .inr (4, [.ref h1, .null, .int 0, .int 0, .int 0])), (q10, .inr (6, [.ref (u1 0), .ref (u1 1), .ref (u1 2), .ref (u1 3), .ref (u1 4), .ref (u1 5), .ref (u1 6), .ref (u1 7), .int (nI 0), .int (nI 0), .int (-1)])), ((u1 0), zA cA 60), ((u1 1), zA cA 60), ((u1 2), zA cA 60), ((u1 3), zA cA 60), ((u1 4), zA cA 60), ((u1 5), zA cA 60), ((u1 6), zA cA 60), ((u1 7), zA cA 60)] H := hP
  have hD : va_D A [(h0, .inr (4, [.ref h1, .null, .int 0, .int 0, .int 0])), (q10, .inr (6, [.ref (u1 0), .ref (u1 1), .ref (u1 2), .ref (u1 3), .ref (u1 4), .ref (u1 5), .ref (u1 6), .ref (u1 7), .int (nI 0), .int (nI 0), .int (-1)])), ((u1 0), zA cA 60), ((u1 1), zA cA 60), ((u1 2), zA cA 60), ((u1 3), zA cA 60), ((u1 4), zA cA 60), ((u1 5), zA cA 60), ((u1 6), zA cA 60), ((u1 7), zA cA 60)] := hD
  refine kn_put (v := .ref q10) (ty := (.object "SettledInstants$Tree")) hx hb hw hK hP hD hS RX6 TX6 5 rfl hown 1 (Nat.le_of_ble_eq_true rfl) (List.mem_of_getElem? (i := 165) (by decide +kernel)) hin rfl (by decide +kernel) rfl rfl (Nat.le_of_ble_eq_true rfl) dX6_init_17 (fun H locs hP hD hS => ?_)
  refine lv_aload_n hx hb dX6_init_20 rfl (lv_at hl 0 rfl) ?_
  refine lv_iconst (v := nI 0) hx hb dX6_init_21 (by decide +kernel) ?_
  refine kn_put (v := .int (nI 0)) (ty := (.int)) hx hb hw hK hP hD hS RX6 TX6 5 rfl hown 2 (Nat.le_of_ble_eq_true rfl) (List.mem_of_getElem? (i := 166) (by decide +kernel)) hin rfl (by decide +kernel) rfl rfl (Nat.le_of_ble_eq_true rfl) dX6_init_22 (fun H locs hP hD hS => ?_)
  refine lv_aload_n hx hb dX6_init_25 rfl (lv_at hl 0 rfl) ?_
  refine lv_iconst (v := nI 0) hx hb dX6_init_26 (by decide +kernel) ?_
  refine kn_put (v := .int (nI 0)) (ty := (.int)) hx hb hw hK hP hD hS RX6 TX6 5 rfl hown 3 (Nat.le_of_ble_eq_true rfl) (List.mem_of_getElem? (i := 167) (by decide +kernel)) hin rfl (by decide +kernel) rfl rfl (Nat.le_of_ble_eq_true rfl) dX6_init_27 (fun H locs hP hD hS => ?_)
  refine lv_aload_n hx hb dX6_init_30 rfl (lv_at hl 0 rfl) ?_
  refine lv_iconst (v := nI 0) hx hb dX6_init_31 (by decide +kernel) ?_
  refine kn_put (v := .int (nI 0)) (ty := (.int)) hx hb hw hK hP hD hS RX6 TX6 5 rfl hown 4 (Nat.le_of_ble_eq_true rfl) (List.mem_of_getElem? (i := 168) (by decide +kernel)) hin rfl (by decide +kernel) rfl rfl (Nat.le_of_ble_eq_true rfl) dX6_init_32 (fun H locs hP hD hS => ?_)
  have hP9 : va_P D vwCl [(h0, .inr (4, [.ref h1, .ref ((fun k => [q10, (u1 0), (u1 1), (u1 2), (u1 3), (u1 4), (u1 5), (u1 6), (u1 7)].getD k 0) 0), .int (nI 0), .int (nI 0), .int (nI 0)])), (((fun k => [q10, (u1 0), (u1 1), (u1 2), (u1 3), (u1 4), (u1 5), (u1 6), (u1 7)].getD k 0) 0), .inr (6, [.ref ((fun k => [q10, (u1 0), (u1 1), (u1 2), (u1 3), (u1 4), (u1 5), (u1 6), (u1 7)].getD k 0) 1), .ref ((fun k => [q10, (u1 0), (u1 1), (u1 2), (u1 3), (u1 4), (u1 5), (u1 6), (u1 7)].getD k 0) 2), .ref ((fun k => [q10, (u1 0), (u1 1), (u1 2), (u1 3), (u1 4), (u1 5), (u1 6), (u1 7)].getD k 0) 3), .ref ((fun k => [q10, (u1 0), (u1 1), (u1 2), (u1 3), (u1 4), (u1 5), (u1 6), (u1 7)].getD k 0) 4), .ref ((fun k => [q10, (u1 0), (u1 1), (u1 2), (u1 3), (u1 4), (u1 5), (u1 6), (u1 7)].getD k 0) 5), .ref ((fun k => [q10, (u1 0), (u1 1), (u1 2), (u1 3), (u1 4), (u1 5), (u1 6), (u1 7)].getD k 0) 6), .ref ((fun k => [q10, (u1 0), (u1 1), (u1 2), (u1 3), (u1 4), (u1 5), (u1 6), (u1 7)].getD k 0) 7), .ref ((fun k => [q10, (u1 0), (u1 1), (u1 2), (u1 3), (u1 4), (u1 5), (u1 6), (u1 7)].getD k 0) 8), .int (nI 0), .int (nI 0), .int (-1)])), (((fun k => [q10, (u1 0), (u1 1), (u1 2), (u1 3), (u1 4), (u1 5), (u1 6), (u1 7)].getD k 0) 1), zA cA 60), (((fun k => [q10, (u1 0), (u1 1), (u1 2), (u1 3), (u1 4), (u1 5), (u1 6), (u1 7)].getD k 0) 2), zA cA 60), (((fun k => [q10, (u1 0), (u1 1), (u1 2), (u1 3), (u1 4), (u1 5), (u1 6), (u1 7)].getD k 0) 3), zA cA 60), (((fun k => [q10, (u1 0), (u1 1), (u1 2), (u1 3), (u1 4), (u1 5), (u1 6), (u1 7)].getD k 0) 4), zA cA 60), (((fun k => [q10, (u1 0), (u1 1), (u1 2), (u1 3), (u1 4), (u1 5), (u1 6), (u1 7)].getD k 0) 5), zA cA 60), (((fun k => [q10, (u1 0), (u1 1), (u1 2), (u1 3), (u1 4), (u1 5), (u1 6), (u1 7)].getD k 0) 6), zA cA 60), (((fun k => [q10, (u1 0), (u1 1), (u1 2), (u1 3), (u1 4), (u1 5), (u1 6), (u1 7)].getD k 0) 7), zA cA 60), (((fun k => [q10, (u1 0), (u1 1), (u1 2), (u1 3), (u1 4), (u1 5), (u1 6), (u1 7)].getD k 0) 8), zA cA 60)] H := hP
  have hD9 : va_D A [(h0, .inr (4, [.ref h1, .ref ((fun k => [q10, (u1 0), (u1 1), (u1 2), (u1 3), (u1 4), (u1 5), (u1 6), (u1 7)].getD k 0) 0), .int (nI 0), .int (nI 0), .int (nI 0)])), (((fun k => [q10, (u1 0), (u1 1), (u1 2), (u1 3), (u1 4), (u1 5), (u1 6), (u1 7)].getD k 0) 0), .inr (6, [.ref ((fun k => [q10, (u1 0), (u1 1), (u1 2), (u1 3), (u1 4), (u1 5), (u1 6), (u1 7)].getD k 0) 1), .ref ((fun k => [q10, (u1 0), (u1 1), (u1 2), (u1 3), (u1 4), (u1 5), (u1 6), (u1 7)].getD k 0) 2), .ref ((fun k => [q10, (u1 0), (u1 1), (u1 2), (u1 3), (u1 4), (u1 5), (u1 6), (u1 7)].getD k 0) 3), .ref ((fun k => [q10, (u1 0), (u1 1), (u1 2), (u1 3), (u1 4), (u1 5), (u1 6), (u1 7)].getD k 0) 4), .ref ((fun k => [q10, (u1 0), (u1 1), (u1 2), (u1 3), (u1 4), (u1 5), (u1 6), (u1 7)].getD k 0) 5), .ref ((fun k => [q10, (u1 0), (u1 1), (u1 2), (u1 3), (u1 4), (u1 5), (u1 6), (u1 7)].getD k 0) 6), .ref ((fun k => [q10, (u1 0), (u1 1), (u1 2), (u1 3), (u1 4), (u1 5), (u1 6), (u1 7)].getD k 0) 7), .ref ((fun k => [q10, (u1 0), (u1 1), (u1 2), (u1 3), (u1 4), (u1 5), (u1 6), (u1 7)].getD k 0) 8), .int (nI 0), .int (nI 0), .int (-1)])), (((fun k => [q10, (u1 0), (u1 1), (u1 2), (u1 3), (u1 4), (u1 5), (u1 6), (u1 7)].getD k 0) 1), zA cA 60), (((fun k => [q10, (u1 0), (u1 1), (u1 2), (u1 3), (u1 4), (u1 5), (u1 6), (u1 7)].getD k 0) 2), zA cA 60), (((fun k => [q10, (u1 0), (u1 1), (u1 2), (u1 3), (u1 4), (u1 5), (u1 6), (u1 7)].getD k 0) 3), zA cA 60), (((fun k => [q10, (u1 0), (u1 1), (u1 2), (u1 3), (u1 4), (u1 5), (u1 6), (u1 7)].getD k 0) 4), zA cA 60), (((fun k => [q10, (u1 0), (u1 1), (u1 2), (u1 3), (u1 4), (u1 5), (u1 6), (u1 7)].getD k 0) 5), zA cA 60), (((fun k => [q10, (u1 0), (u1 1), (u1 2), (u1 3), (u1 4), (u1 5), (u1 6), (u1 7)].getD k 0) 6), zA cA 60), (((fun k => [q10, (u1 0), (u1 1), (u1 2), (u1 3), (u1 4), (u1 5), (u1 6), (u1 7)].getD k 0) 7), zA cA 60), (((fun k => [q10, (u1 0), (u1 1), (u1 2), (u1 3), (u1 4), (u1 5), (u1 6), (u1 7)].getD k 0) 8), zA cA 60)] := hD
  refine W.widen (k := 9) (n := 491) (Nat.le_of_ble_eq_true rfl) (Nat.le_of_ble_eq_true rfl) ?_
  exact W.vret hx hb hr (fun t ht hW => ⟨⟨(fun k => [q10, (u1 0), (u1 1), (u1 2), (u1 3), (u1 4), (u1 5), (u1 6), (u1 7)].getD k 0), rfl, trivial, by rw [ht]; exact hP9, va_K.moved hW.alike hK, hD9⟩, hS.F ht⟩) hS.2.2 dX6_init_35

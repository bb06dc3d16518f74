section Sim1
variable {p : Program} {l : Launch} {e : Env} {R : Room} {s : State} {m : MethodId} {args : Array Value} {below : List Frame} {meth : Method} {c : Code} {D : va_G} {ad : Nat → Nat} {cA cR : ClassId} {A : Nat → Prop} {M : am_I} {Z : State → Prop}

theorem am_istore {i pc pc' : Nat} {ls : am_L} {st : List Value} {σ : am_M} {x : Int32} {a : Array Slot} (hL : am_lv ad (am_ml M) ls a) (hi : i < ls.length) : lv_has a (am_ml M) (am_al ad ls) ∧ i < am_ml M := ⟨am_lv_has hL, by rw [← hL.1]; exact hi⟩
set_option maxHeartbeats 4000000 in
set_option maxRecDepth 100000 in
theorem am_sim1 (hx : p.tables.exec = Jvm.exec) (hb : c.code = am_b M) (hts : ∀ w ∈ am_ws, w.before args s = true) (hown : s.vm.findClass (am_cn (am_w M)) = some m.cls) (hK : va_K D vwCl (am_tys cA cR) s) {i : Instr} {pc pc' : Nat} {ls ls' : am_L} {st st' : List Value} {σ σ' : am_M} (hdg : decode (am_b M) pc = .ok (i, am_il i)) (h : am_s1 (am_w M) i pc ls st σ = some (pc', ls', st', σ')) (k : am_W p l e R s m args below meth c D ad cA cR A M Z pc' ls' st' σ') : am_W p l e R s m args below meth c D ad cA cR A M Z pc ls st σ := by
  intro H locs a hP hD hS hL
  unfold am_s1 at h
  split at h
  · simp only [Option.some.injEq, Prod.mk.injEq] at h; obtain ⟨rfl, rfl, rfl, rfl⟩ := h
    exact lv_iconst hx hb hdg (am_k_eq _) (k H locs a hP hD hS hL)
  · split at h
    · rename_i hn; simp only [Option.some.injEq, Prod.mk.injEq] at h; obtain ⟨rfl, rfl, rfl, rfl⟩ := h
      exact lv_bipush hx hb hdg (am_k8 hn) (k H locs a hP hD hS hL)
    · cases h
  · split at h
    · rename_i hn; simp only [Option.some.injEq, Prod.mk.injEq] at h; obtain ⟨rfl, rfl, rfl, rfl⟩ := h
      exact lv_sipush hx hb hdg (am_k16 hn) (k H locs a hP hD hS hL)
    · cases h
  · split at h
    · rename_i v hv; simp only [Option.some.injEq, Prod.mk.injEq] at h; obtain ⟨rfl, rfl, rfl, rfl⟩ := h
      exact lv_ldc hx hb hown (hts _ (am_in (am_mem_c hv) rfl)) hdg (k H locs a hP hD hS hL)
    · cases h
  · split at h
    · rename_i v hv; simp only [Option.some.injEq, Prod.mk.injEq] at h; obtain ⟨rfl, rfl, rfl, rfl⟩ := h
      exact lv_ldcw hx hb hown (hts _ (am_in (am_mem_c hv) rfl)) hdg (k H locs a hP hD hS hL)
    · cases h
  · split at h
    · rename_i x hv; simp only [Option.some.injEq, Prod.mk.injEq] at h; obtain ⟨rfl, rfl, rfl, rfl⟩ := h
      exact lv_iload_n hx hb hdg rfl (hL.2.2.2 _ _ hv).2 (k H locs a hP hD hS hL)
    · cases h
  · split at h
    · rename_i x hv; simp only [Option.some.injEq, Prod.mk.injEq] at h; obtain ⟨rfl, rfl, rfl, rfl⟩ := h
      exact lv_iload hx hb hdg (hL.2.2.2 _ _ hv).2 (k H locs a hP hD hS hL)
    · cases h
  · split at h
    · rename_i x hv; simp only [Option.some.injEq, Prod.mk.injEq] at h; obtain ⟨rfl, rfl, rfl, rfl⟩ := h
      exact lv_aload_n hx hb hdg rfl (hL.2.2.2 _ _ hv).2 (k H locs a hP hD hS hL)
    · rename_i hv; simp only [Option.some.injEq, Prod.mk.injEq] at h; obtain ⟨rfl, rfl, rfl, rfl⟩ := h
      exact lv_aload_nN hx hb hdg rfl (hL.2.2.2 _ _ hv).2 (k H locs a hP hD hS hL)
    · cases h
  · split at h
    · rename_i x hv; simp only [Option.some.injEq, Prod.mk.injEq] at h; obtain ⟨rfl, rfl, rfl, rfl⟩ := h
      exact lv_aload hx hb hdg (hL.2.2.2 _ _ hv).2 (k H locs a hP hD hS hL)
    · rename_i hv; simp only [Option.some.injEq, Prod.mk.injEq] at h; obtain ⟨rfl, rfl, rfl, rfl⟩ := h
      exact lv_aloadN hx hb hdg (hL.2.2.2 _ _ hv).2 (k H locs a hP hD hS hL)
    · cases h
  · split at h
    · rename_i x r
      split at h
      · rename_i hi; simp only [Option.some.injEq, Prod.mk.injEq] at h; obtain ⟨rfl, rfl, rfl, rfl⟩ := h
        exact lv_istore_n hx hb hdg rfl (am_lv_has hL) (by rw [← hL.1]; exact hi) rfl (fun a' h' => k H locs a' hP hD hS (am_lv_set (v := .int x) hL rfl h'))
      · cases h
    · cases h
  · split at h
    · rename_i x r
      split at h
      · rename_i hi; simp only [Option.some.injEq, Prod.mk.injEq] at h; obtain ⟨rfl, rfl, rfl, rfl⟩ := h
        exact lv_istore hx hb hdg (am_lv_has hL) (by rw [← hL.1]; exact hi) rfl (fun a' h' => k H locs a' hP hD hS (am_lv_set (v := .int x) hL rfl h'))
      · cases h
    · cases h
  · split at h
    · rename_i x r
      split at h
      · rename_i hi; simp only [Option.some.injEq, Prod.mk.injEq] at h; obtain ⟨rfl, rfl, rfl, rfl⟩ := h
        exact lv_astore_n hx hb hdg rfl (am_lv_has hL) (by rw [← hL.1]; exact hi) rfl (fun a' h' => k H locs a' hP hD hS (am_lv_set (v := .ref x) hL rfl h'))
      · cases h
    · rename_i r
      split at h
      · rename_i hi; simp only [Option.some.injEq, Prod.mk.injEq] at h; obtain ⟨rfl, rfl, rfl, rfl⟩ := h
        exact lv_astore_nN hx hb hdg rfl (am_lv_has hL) (by rw [← hL.1]; exact hi) rfl (fun a' h' => k H locs a' hP hD hS (am_lv_set (v := .null) hL rfl h'))
      · cases h
    · cases h
  · split at h
    · rename_i x r
      split at h
      · rename_i hi; simp only [Option.some.injEq, Prod.mk.injEq] at h; obtain ⟨rfl, rfl, rfl, rfl⟩ := h
        exact lv_astore hx hb hdg (am_lv_has hL) (by rw [← hL.1]; exact hi) rfl (fun a' h' => k H locs a' hP hD hS (am_lv_set (v := .ref x) hL rfl h'))
      · cases h
    · rename_i r
      split at h
      · rename_i hi; simp only [Option.some.injEq, Prod.mk.injEq] at h; obtain ⟨rfl, rfl, rfl, rfl⟩ := h
        exact lv_astoreN hx hb hdg (am_lv_has hL) (by rw [← hL.1]; exact hi) rfl (fun a' h' => k H locs a' hP hD hS (am_lv_set (v := .null) hL rfl h'))
      · cases h
    · cases h
  · split at h
    · rename_i x hv; simp only [Option.some.injEq, Prod.mk.injEq] at h; obtain ⟨rfl, rfl, rfl, rfl⟩ := h
      obtain ⟨k0, hk0⟩ := List.getElem?_of_mem (am_al_mem (ad := ad) hv)
      exact lv_iinc hx hb hdg (am_lv_has hL) hk0 (by rw [am_k_eq]) (by rw [← hL.1]; exact am_ld_lt hv) rfl (fun a' h' => k H locs a' hP hD hS (am_lv_set (v := .int _) hL rfl h'))
    · cases h
  · split at h
    · simp only [Option.some.injEq, Prod.mk.injEq] at h; obtain ⟨rfl, rfl, rfl, rfl⟩ := h
      exact lv_dup hx hb hdg rfl (k H locs a hP hD hS hL)
    · simp only [Option.some.injEq, Prod.mk.injEq] at h; obtain ⟨rfl, rfl, rfl, rfl⟩ := h
      exact lv_dup hx hb hdg rfl (k H locs a hP hD hS hL)
    · cases h
  · split at h
    · simp only [Option.some.injEq, Prod.mk.injEq] at h; obtain ⟨rfl, rfl, rfl, rfl⟩ := h
      exact lv_dup2_11 hx hb hdg rfl rfl (k H locs a hP hD hS hL)
    · cases h
  · split at h
    · simp only [Option.some.injEq, Prod.mk.injEq] at h; obtain ⟨rfl, rfl, rfl, rfl⟩ := h
      exact lv_pop (va := .int _) hx hb hdg rfl (k H locs a hP hD hS hL)
    · simp only [Option.some.injEq, Prod.mk.injEq] at h; obtain ⟨rfl, rfl, rfl, rfl⟩ := h
      exact lv_pop (va := .ref _) hx hb hdg rfl (k H locs a hP hD hS hL)
    · cases h
  · split at h
    · simp only [Option.some.injEq, Prod.mk.injEq] at h; obtain ⟨rfl, rfl, rfl, rfl⟩ := h
      exact lv_iadd hx hb hdg (k H locs a hP hD hS hL)
    · cases h
  · split at h
    · simp only [Option.some.injEq, Prod.mk.injEq] at h; obtain ⟨rfl, rfl, rfl, rfl⟩ := h
      exact lv_isub hx hb hdg (k H locs a hP hD hS hL)
    · cases h
  · split at h
    · simp only [Option.some.injEq, Prod.mk.injEq] at h; obtain ⟨rfl, rfl, rfl, rfl⟩ := h
      exact lv_imul hx hb hdg (k H locs a hP hD hS hL)
    · cases h
  · split at h
    · split at h
      · cases h
      · rename_i hne; simp only [Option.some.injEq, Prod.mk.injEq] at h; obtain ⟨rfl, rfl, rfl, rfl⟩ := h
        exact lv_idiv hx hb hdg hne (k H locs a hP hD hS hL)
    · cases h
  · split at h
    · split at h
      · cases h
      · rename_i hne; simp only [Option.some.injEq, Prod.mk.injEq] at h; obtain ⟨rfl, rfl, rfl, rfl⟩ := h
        exact lv_irem hx hb hdg hne (k H locs a hP hD hS hL)
    · cases h
  · split at h
    · simp only [Option.some.injEq, Prod.mk.injEq] at h; obtain ⟨rfl, rfl, rfl, rfl⟩ := h
      exact lv_ineg hx hb hdg (k H locs a hP hD hS hL)
    · cases h
  · split at h
    · simp only [Option.some.injEq, Prod.mk.injEq] at h; obtain ⟨rfl, rfl, rfl, rfl⟩ := h
      exact lv_iand hx hb hdg (k H locs a hP hD hS hL)
    · cases h
  · split at h
    · simp only [Option.some.injEq, Prod.mk.injEq] at h; obtain ⟨rfl, rfl, rfl, rfl⟩ := h
      exact lv_ior hx hb hdg (k H locs a hP hD hS hL)
    · cases h
  · split at h
    · simp only [Option.some.injEq, Prod.mk.injEq] at h; obtain ⟨rfl, rfl, rfl, rfl⟩ := h
      exact lv_ixor hx hb hdg (k H locs a hP hD hS hL)
    · cases h
  · split at h
    · simp only [Option.some.injEq, Prod.mk.injEq] at h; obtain ⟨rfl, rfl, rfl, rfl⟩ := h
      exact lv_ishl hx hb hdg (k H locs a hP hD hS hL)
    · cases h
  · split at h
    · simp only [Option.some.injEq, Prod.mk.injEq] at h; obtain ⟨rfl, rfl, rfl, rfl⟩ := h
      exact lv_ishr hx hb hdg (k H locs a hP hD hS hL)
    · cases h
  · split at h
    · simp only [Option.some.injEq, Prod.mk.injEq] at h; obtain ⟨rfl, rfl, rfl, rfl⟩ := h
      exact lv_iushr hx hb hdg rfl (k H locs a hP hD hS hL)
    · cases h
  · split at h
    · rename_i hn; simp only [Option.some.injEq, Prod.mk.injEq] at h; obtain ⟨rfl, rfl, rfl, rfl⟩ := h
      exact lv_goto hx hb hdg (am_tg_eq hn) (k H locs a hP hD hS hL)
    · cases h
  · split at h
    · simp only [Option.some.injEq, Prod.mk.injEq] at h; obtain ⟨rfl, rfl, rfl, rfl⟩ := h
      exact lv_ifnull hx hb hdg (k H locs a hP hD hS hL)
    · split at h
      · rename_i hn; simp only [Option.some.injEq, Prod.mk.injEq] at h; obtain ⟨rfl, rfl, rfl, rfl⟩ := h
        exact lv_ifnullN hx hb hdg (am_tg_eq hn) (k H locs a hP hD hS hL)
      · cases h
    · cases h
  · split at h
    · simp only [Option.some.injEq, Prod.mk.injEq] at h; obtain ⟨rfl, rfl, rfl, rfl⟩ := h
      exact lv_ifnonnullN hx hb hdg (k H locs a hP hD hS hL)
    · split at h
      · rename_i hn; simp only [Option.some.injEq, Prod.mk.injEq] at h; obtain ⟨rfl, rfl, rfl, rfl⟩ := h
        exact lv_ifnonnull hx hb hdg (am_tg_eq hn) (k H locs a hP hD hS hL)
      · cases h
    · cases h
  · simp only [Option.some.injEq, Prod.mk.injEq] at h; obtain ⟨rfl, rfl, rfl, rfl⟩ := h
    exact lv_null hx hb hdg (k H locs a hP hD hS hL)
  · split at h
    · rename_i cc r
      split at h
      · rename_i kk hf
        split at h
        · rename_i hkind; simp only [Option.some.injEq, Prod.mk.injEq] at h; obtain ⟨rfl, rfl, rfl, rfl⟩ := h
          obtain ⟨q, hq, hk, hlk, hty⟩ := am_mem_f hf
          obtain ⟨h9, hnf, hin, -, -⟩ := am_cls hq
          have hlt : cc < 88 := am_lt (by omega)
          have hat := am_at (ad := ad) (cA := cA) (cR := cR) (σ := σ) hlt
          rw [am_cell_obj (by omega)] at hat
          refine va_get hx hb hts hin hown hK hP cc hat (by rw [hkind]; exact hq) kk.1 hk (hts _ (am_in hlk rfl)) (fun _ z => z) (v := am_cv ad (am_get σ cc kk.1)) ?_ hdg (k H locs a hP hD hS hL)
          rw [List.getElem?_map, List.getElem?_range (by rw [hkind, ← hnf]; exact hk)]
          rfl
        · cases h
      · cases h
    · cases h
  · split at h
    · rename_i v cc r
      split at h
      · rename_i kk hf
        split at h
        · rename_i hkind
          split at h
          · rename_i σ1 hput; simp only [Option.some.injEq, Prod.mk.injEq] at h; obtain ⟨rfl, rfl, rfl, rfl⟩ := h
            obtain ⟨q, hq, hk, hlk, hty⟩ := am_mem_f hf
            obtain ⟨h9, hnf, hin, ⟨ty0, hty0⟩, hnm⟩ := am_cls hq
            obtain ⟨s1, s2, s3, s4⟩ := am_put_spec hput
            have hlt : cc < 88 := am_lt (by omega)
            have hat := am_at (ad := ad) (cA := cA) (cR := cR) (σ := σ) hlt
            rw [am_cell_obj (by omega)] at hat
            have hset : (am_world ad cA cR σ).set cc (ad cc, .inr (am_kind cc, ((List.range (am_nf (am_kind cc))).map (fun k => am_cv ad (am_get σ cc k))).set kk.1 (am_cv ad v))) = am_world ad cA cR σ1 := by
              refine am_world_set hlt (fun j hj => am_cell_same (s1 j hj).1 (s1 j hj).2) ?_
              rw [am_cell_obj (by omega)]
              congr 2
              exact (am_map_set (by rw [s2]) (fun j hj => by rw [s3 j hj])).symm
            have hfin : (q.2.1 kk.1).2.2.2 = false ∧ ∃ ty, parseFieldDescriptor (q.2.1 kk.1).2.2.1 = some ty ∧ narrow ty (am_cv ad v) = am_cv ad v ∧ fits ty (am_cv ad v) = true := by
              rw [hkind] at s4
              unfold am_okT at hty
              rcases s4 with ⟨hft, x, rfl⟩ | ⟨hft, x, rfl, hx01⟩ | ⟨hft, t, rfl⟩
              · rw [hft] at hty
                split at hty
                · rename_i hd _; exact ⟨by simpa using hty, _, hd, rfl, rfl⟩
                all_goals first | (rename_i hd he; cases he; done) | (rename_i he; cases he; done) | (cases hty; done)
              · rw [hft] at hty
                split at hty
                · rename_i hd he; cases he
                · rename_i hd _; exact ⟨by simpa using hty, _, hd, by rcases hx01 with rfl | rfl <;> rfl, by rcases hx01 with rfl | rfl <;> rfl⟩
                all_goals first | (rename_i hd he; cases he; done) | (rename_i he; cases he; done) | (cases hty; done)
              · rw [hft] at hty
                split at hty
                · rename_i hd he; cases he
                · rename_i hd he; cases he
                · rename_i hd he; cases he
                · rename_i hd he; cases he
                · rename_i hd _; exact ⟨by simpa using hty, _, hd, rfl, rfl⟩
                · rename_i hd _; exact ⟨by simpa using hty, _, hd, rfl, rfl⟩
                · cases hty
            obtain ⟨hfin, ty, hd, hn, hfit⟩ := hfin
            refine va_put hx hb hts hin ty0 hty0 hnm hown hK hP hD hS cc hat (by rw [hkind]; exact hq) kk.1 hk (hts _ (am_in hlk rfl)) (fun _ z => z) hfin hd hn hfit (by rw [List.length_map, List.length_range, hkind, ← hnf]; exact hk) hdg ?_
            rw [hset]
            exact fun H1 locs1 hP1 hD1 hS1 => k H1 locs1 a hP1 hD1 hS1 hL
          · cases h
        · cases h
      · cases h
    · cases h
  · split at h
    · rename_i cc r
      split at h
      · rename_i hkind; simp only [Option.some.injEq, Prod.mk.injEq] at h; obtain ⟨rfl, rfl, rfl, rfl⟩ := h
        have hlt : cc < 88 := am_lt (by omega)
        have hat := am_at (ad := ad) (cA := cA) (cR := cR) (σ := σ) hlt
        rcases hkind with hkind | hkind
        · rw [am_cell_arr hkind] at hat
          exact va_alen hx hb hK hP cc 0 hat rfl rfl hdg (k H locs a hP hD hS hL)
        · rw [am_cell_ref hkind] at hat
          exact va_alen hx hb hK hP cc 1 hat rfl rfl hdg (k H locs a hP hD hS hL)
      · cases h
    · cases h
  · cases h
end Sim1

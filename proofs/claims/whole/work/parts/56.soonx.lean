theorem so_v {p : Pg} {x mk wh k : Nat} : ∀ (m i c : Nat) (f h : Nat → Nat), k < c → h k ≤ 100 → (so_in p x mk wh m i k c f h).1 = none ∨ (∃ v, v ≤ 101 ∧ (so_in p x mk wh m i k c f h).1 = some (nI v)) ∨ (so_in p x mk wh m i k c f h).1 = some (-1000004)
  | 0, _, _, _, _, _, _ => Or.inl rfl
  | m + 1, i, c, f, h, hk, hh => by
    unfold so_in
    split
    · exact Or.inr (Or.inl ⟨h k + 1, by omega, rfl⟩)
    · split
      · split
        · exact so_v m (i + 1) c f h hk hh
        · split
          · exact Or.inr (Or.inr rfl)
          · exact so_v m (i + 1) (c + 1) _ _ (by omega) (by rw [up1_o h _ (by omega)]; exact hh)
      · exact so_v m (i + 1) c f h hk hh
theorem so_nn {p : Pg} {x mk wh k m i c : Nat} {f h : Nat → Nat} (hk : k < c) (hh : h k ≤ 100) (he : (so_in p x mk wh m i k c f h).1 ≠ none) : ¬ (so_in p x mk wh m i k c f h).1.getD 0 = -1 := by
  rcases so_v (p := p) (x := x) (mk := mk) (wh := wh) m i c f h hk hh with e | ⟨v, hv, e⟩ | e
  · exact absurd e he
  · rw [e]
    show ¬ nI v = -1
    exact am_nm1 (by omega)
  · rw [e]
    decide
set_option maxRecDepth 10000 in
set_option maxHeartbeats 2000000 in
theorem c_seek_loop {d : Nat} (hd : 520 ≤ d) {σ0 : am_M} {t n r mk wh k s0 S : Nat} {p : Pg} (hW : PW p n) (hR : TR σ0 t p n) (hrn : r < n) (hro : ROOT σ0 t (r + 1)) (hmk : mk < 256) (hmv : mkv mk) (hwh : wh ≤ 9) (hV : ∀ s u, u < 256 → VS p r (oc p (r + 1) s u).2.2.2.2.1) {Q : am_Q} : ∀ (m i : Nat) (σ' : am_M) (c : Nat) (f h : Nat → Nat), i + m = 2 ^ pcn mk 21 → KX σ0 σ' → TX σ' 100 c f z0 h → k < c → VA p r c f → f k = s0 → h k + 1 = S → (∀ σ'', KX σ0 σ'' → (so_in p (r + 1) mk wh m i k c f h).1 ≠ none → Q (some (.int ((so_in p (r + 1) mk wh m i k c f h).1.getD 0))) σ'') → (∀ σ'', KX σ0 σ'' → (so_in p (r + 1) mk wh m i k c f h).1 = none → TX σ'' 100 (so_in p (r + 1) mk wh m i k c f h).2.1 (so_in p (r + 1) mk wh m i k c f h).2.2.1 z0 (so_in p (r + 1) mk wh m i k c f h).2.2.2 → VA p r (so_in p (r + 1) mk wh m i k c f h).2.1 (so_in p (r + 1) mk wh m i k c f h).2.2.1 → Q (some (.int (-1))) σ'') → am_G d M_X9_seekFrom Q 18 [some (.ref 41), some (.ref t), some (.int (nI k)), some (.int (nI mk)), some (.int (nI wh)), some (.int (nI S)), some (.int (nI (pt mk i))), some (.int (nI i))] [] σ'
  | 0, i, σ', c, f, h, hm, hK, hT, hkc, hVA, hf, hh, hA, hN => by
    have h8 := ((mk_f mk hmk).2 hmv.2).1
    have e : i = 2 ^ pcn mk 21 := by omega
    refine am_run 2 (pc' := 21) (ls' := [some (.ref 41), some (.ref t), some (.int (nI k)), some (.int (nI mk)), some (.int (nI wh)), some (.int (nI S)), some (.int (nI (pt mk i))), some (.int (nI i))]) (st' := [.int (nI mk), .int (nI i)]) (σ' := σ') rfl ?_
    refine am_invs (y := 143) (as := [.int (nI mk)]) (rest := [.int (nI i)]) rfl rfl rfl rfl rfl rfl (Nat.le_of_ble_eq_true rfl) ?_
    refine c_subsetsOf (by omega) hmk hmv ?_
    show am_G _ M_X9_seekFrom _ 24 [some (.ref 41), some (.ref t), some (.int (nI k)), some (.int (nI mk)), some (.int (nI wh)), some (.int (nI S)), some (.int (nI (pt mk i))), some (.int (nI i))] [.int (nI (2 ^ pcn mk 21)), .int (nI i)] σ'
    refine am_ic (ty := 27) (tn := 108) rfl (by decide) rfl rfl (fun (h_1 : nI i < nI (2 ^ pcn mk 21)) => ?_) (fun (h_1 : ¬ (nI i < nI (2 ^ pcn mk 21))) => ?_)
    · have h_1 : i < 2 ^ pcn mk 21 := (nI_ltI (by omega) (by omega)).mp h_1
      omega
    have h_1 : ¬ (i < 2 ^ pcn mk 21) := fun z => h_1 ((nI_ltI (by omega) (by omega)).mpr z)
    refine am_run 1 (pc' := 109) (ls' := [some (.ref 41), some (.ref t), some (.int (nI k)), some (.int (nI mk)), some (.int (nI wh)), some (.int (nI S)), some (.int (nI (pt mk i))), some (.int (nI i))]) (st' := [.int (-1)]) (σ' := σ') rfl ?_
    refine am_reti rfl rfl ?_
    exact hN σ' hK rfl hT hVA
  | m + 1, i, σ', c, f, h, hm, hK, hT, hkc, hVA, hf, hh, hA, hN => by
    have h8 := ((mk_f mk hmk).2 hmv.2).1
    have hT3 := hR.t3
    obtain ⟨t1, t2, t3, t4, t5⟩ := id hT
    obtain ⟨-, -, -, f4, -, f6⟩ := t5 k hkc
    obtain ⟨b1, b2, b3_, b4_, b5_, b6_⟩ := oc_b (s := f k) hW (show r + 1 ≤ n by omega) (pt_lt mk i)
    have hnv := hV (f k) (pt mk i) (pt_lt mk i)
    generalize hz : oc p (r + 1) (f k) (pt mk i) = z0_ at b1 b2 b3_ b4_ b5_ b6_ hnv 
    obtain ⟨P, A, w, c1, nx, rd⟩ := z0_
    have b1 : P < 256 := b1
    have b2 : A < 256 := b2
    have b3_ : w ≤ 256 := b3_
    have b4_ : c1 ≤ 6 := b4_
    have b5_ : nx < 1048576 := b5_
    have b6_ : rd ≤ 9 := b6_
    have hnv : VS p r nx := hnv
    rcases bt (shw wh (P, A, w, c1, nx, rd)) with hsh | hsh
    · skip
      refine am_run 2 (pc' := 21) (ls' := [some (.ref 41), some (.ref t), some (.int (nI k)), some (.int (nI mk)), some (.int (nI wh)), some (.int (nI S)), some (.int (nI (pt mk i))), some (.int (nI i))]) (st' := [.int (nI mk), .int (nI i)]) (σ' := σ') rfl ?_
      refine am_invs (y := 143) (as := [.int (nI mk)]) (rest := [.int (nI i)]) rfl rfl rfl rfl rfl rfl (Nat.le_of_ble_eq_true rfl) ?_
      refine c_subsetsOf (by omega) hmk hmv ?_
      show am_G _ M_X9_seekFrom _ 24 [some (.ref 41), some (.ref t), some (.int (nI k)), some (.int (nI mk)), some (.int (nI wh)), some (.int (nI S)), some (.int (nI (pt mk i))), some (.int (nI i))] [.int (nI (2 ^ pcn mk 21)), .int (nI i)] σ'
      refine am_ic (ty := 27) (tn := 108) rfl (by decide) rfl rfl (fun (h_1 : nI i < nI (2 ^ pcn mk 21)) => ?_) (fun (h_1 : ¬ (nI i < nI (2 ^ pcn mk 21))) => ?_)
      rotate_left
      · have h_1 : ¬ (i < 2 ^ pcn mk 21) := fun z => h_1 ((nI_ltI (by omega) (by omega)).mpr z)
        omega
      have h_1 : i < 2 ^ pcn mk 21 := (nI_ltI (by omega) (by omega)).mp h_1
      refine am_run 6 (pc' := 37) (ls' := [some (.ref 41), some (.ref t), some (.int (nI k)), some (.int (nI mk)), some (.int (nI wh)), some (.int (nI S)), some (.int (nI (pt mk i))), some (.int (nI i))]) (st' := [.int (nI k), .ref 79, .ref t, .ref 77]) (σ' := σ') rfl ?_
      refine am_invv (y := 75) (b := 79) (as := [.int (nI k)]) (rest := [.ref t, .ref 77]) rfl rfl rfl rfl rfl rfl rfl (Nat.le_of_ble_eq_true rfl) ?_
      refine c_firstAt (by omega) hT hkc ?_
      show am_G _ M_X9_seekFrom _ 40 [some (.ref 41), some (.ref t), some (.int (nI k)), some (.int (nI mk)), some (.int (nI wh)), some (.int (nI S)), some (.int (nI (pt mk i))), some (.int (nI i))] [.int (nI (f k)), .ref t, .ref 77] σ'
      refine am_run 1 (pc' := 42) (ls' := [some (.ref 41), some (.ref t), some (.int (nI k)), some (.int (nI mk)), some (.int (nI wh)), some (.int (nI S)), some (.int (nI (pt mk i))), some (.int (nI i))]) (st' := [.int (nI (pt mk i)), .int (nI (f k)), .ref t, .ref 77]) (σ' := σ') rfl ?_
      refine am_invv (y := 56) (b := 77) (as := [.ref t, .int (nI (f k)), .int (nI (pt mk i))]) (rest := []) rfl rfl rfl rfl rfl rfl rfl (Nat.le_of_ble_eq_true rfl) ?_
      refine c_determine (by omega) hW (hK.TR hR) (show r + 1 ≤ n by omega) (hK.RT hT3 hro) (Or.inl rfl) f4 (pt_lt mk i) (fun σ2 hKc hO => ?_)
      rw [hz] at hO
      obtain ⟨o0, o1, o2, o3, o4⟩ : σ2.1 77 0 = nI (P + 256 * A) ∧ σ2.1 77 1 = nI w ∧ σ2.1 77 2 = nI c1 ∧ σ2.1 77 3 = nI nx ∧ σ2.1 77 4 = nI rd := hO
      have hK2 := hK.kc hKc (Or.inl rfl)
      have hT2 := hT.keep (fun c a => hKc.1 c (by omega))
      show am_G _ M_X9_seekFrom _ 45 [some (.ref 41), some (.ref t), some (.int (nI k)), some (.int (nI mk)), some (.int (nI wh)), some (.int (nI S)), some (.int (nI (pt mk i))), some (.int (nI i))] [] σ2
      refine am_run 3 (pc' := 51) (ls' := [some (.ref 41), some (.ref t), some (.int (nI k)), some (.int (nI mk)), some (.int (nI wh)), some (.int (nI S)), some (.int (nI (pt mk i))), some (.int (nI i))]) (st' := [.int (nI wh), .ref 77]) (σ' := σ2) rfl ?_
      refine am_invv (y := 59) (b := 77) (as := [.int (nI wh)]) (rest := []) rfl rfl rfl rfl rfl rfl rfl (Nat.le_of_ble_eq_true rfl) ?_
      refine c_shows (c1 := c1) (rd := rd) (by omega) hwh b1 b2 (by omega) b5_ o0 o1 o3 (fun _ => ?_) (fun z => absurd (hsh.symm.trans z) (by decide))
      show am_G _ M_X9_seekFrom _ 54 [some (.ref 41), some (.ref t), some (.int (nI k)), some (.int (nI mk)), some (.int (nI wh)), some (.int (nI S)), some (.int (nI (pt mk i))), some (.int (nI i))] [.int (nI 1)] σ2
      refine am_if (ty := 60) (tn := 57) rfl (by decide) rfl rfl (fun (h_2 : nI 1 = 0) => ?_) (fun (h_2 : ¬ (nI 1 = 0)) => ?_)
      · exact absurd h_2 (by decide)
      refine am_run 1 (pc' := 59) (ls' := [some (.ref 41), some (.ref t), some (.int (nI k)), some (.int (nI mk)), some (.int (nI wh)), some (.int (nI S)), some (.int (nI (pt mk i))), some (.int (nI i))]) (st' := [.int (nI S)]) (σ' := σ2) rfl ?_
      refine am_reti rfl rfl ?_
      have e : (so_in p (r + 1) mk wh (m + 1) i k c f h) = (some (nI (h k + 1)), c, f, h) := by show (if shw wh (oc p (r + 1) (f k) (pt mk i)) = true then _ else _) = _; rw [hz]; rw [if_pos hsh]
      rw [e] at hA
      subst hh
      exact hA σ2 hK2 (fun z => by cases z)
    · by_cases hw0 : w = 0
      · subst hw0
        have hfl := fnd_le f z0 nx 0 c
        by_cases hfn : fnd f z0 nx 0 c < c
        · skip
          refine am_run 2 (pc' := 21) (ls' := [some (.ref 41), some (.ref t), some (.int (nI k)), some (.int (nI mk)), some (.int (nI wh)), some (.int (nI S)), some (.int (nI (pt mk i))), some (.int (nI i))]) (st' := [.int (nI mk), .int (nI i)]) (σ' := σ') rfl ?_
          refine am_invs (y := 143) (as := [.int (nI mk)]) (rest := [.int (nI i)]) rfl rfl rfl rfl rfl rfl (Nat.le_of_ble_eq_true rfl) ?_
          refine c_subsetsOf (by omega) hmk hmv ?_
          show am_G _ M_X9_seekFrom _ 24 [some (.ref 41), some (.ref t), some (.int (nI k)), some (.int (nI mk)), some (.int (nI wh)), some (.int (nI S)), some (.int (nI (pt mk i))), some (.int (nI i))] [.int (nI (2 ^ pcn mk 21)), .int (nI i)] σ'
          refine am_ic (ty := 27) (tn := 108) rfl (by decide) rfl rfl (fun (h_1 : nI i < nI (2 ^ pcn mk 21)) => ?_) (fun (h_1 : ¬ (nI i < nI (2 ^ pcn mk 21))) => ?_)
          rotate_left
          · have h_1 : ¬ (i < 2 ^ pcn mk 21) := fun z => h_1 ((nI_ltI (by omega) (by omega)).mpr z)
            omega
          have h_1 : i < 2 ^ pcn mk 21 := (nI_ltI (by omega) (by omega)).mp h_1
          refine am_run 6 (pc' := 37) (ls' := [some (.ref 41), some (.ref t), some (.int (nI k)), some (.int (nI mk)), some (.int (nI wh)), some (.int (nI S)), some (.int (nI (pt mk i))), some (.int (nI i))]) (st' := [.int (nI k), .ref 79, .ref t, .ref 77]) (σ' := σ') rfl ?_
          refine am_invv (y := 75) (b := 79) (as := [.int (nI k)]) (rest := [.ref t, .ref 77]) rfl rfl rfl rfl rfl rfl rfl (Nat.le_of_ble_eq_true rfl) ?_
          refine c_firstAt (by omega) hT hkc ?_
          show am_G _ M_X9_seekFrom _ 40 [some (.ref 41), some (.ref t), some (.int (nI k)), some (.int (nI mk)), some (.int (nI wh)), some (.int (nI S)), some (.int (nI (pt mk i))), some (.int (nI i))] [.int (nI (f k)), .ref t, .ref 77] σ'
          refine am_run 1 (pc' := 42) (ls' := [some (.ref 41), some (.ref t), some (.int (nI k)), some (.int (nI mk)), some (.int (nI wh)), some (.int (nI S)), some (.int (nI (pt mk i))), some (.int (nI i))]) (st' := [.int (nI (pt mk i)), .int (nI (f k)), .ref t, .ref 77]) (σ' := σ') rfl ?_
          refine am_invv (y := 56) (b := 77) (as := [.ref t, .int (nI (f k)), .int (nI (pt mk i))]) (rest := []) rfl rfl rfl rfl rfl rfl rfl (Nat.le_of_ble_eq_true rfl) ?_
          refine c_determine (by omega) hW (hK.TR hR) (show r + 1 ≤ n by omega) (hK.RT hT3 hro) (Or.inl rfl) f4 (pt_lt mk i) (fun σ2 hKc hO => ?_)
          rw [hz] at hO
          obtain ⟨o0, o1, o2, o3, o4⟩ : σ2.1 77 0 = nI (P + 256 * A) ∧ σ2.1 77 1 = nI 0 ∧ σ2.1 77 2 = nI c1 ∧ σ2.1 77 3 = nI nx ∧ σ2.1 77 4 = nI rd := hO
          have hK2 := hK.kc hKc (Or.inl rfl)
          have hT2 := hT.keep (fun c a => hKc.1 c (by omega))
          show am_G _ M_X9_seekFrom _ 45 [some (.ref 41), some (.ref t), some (.int (nI k)), some (.int (nI mk)), some (.int (nI wh)), some (.int (nI S)), some (.int (nI (pt mk i))), some (.int (nI i))] [] σ2
          refine am_run 3 (pc' := 51) (ls' := [some (.ref 41), some (.ref t), some (.int (nI k)), some (.int (nI mk)), some (.int (nI wh)), some (.int (nI S)), some (.int (nI (pt mk i))), some (.int (nI i))]) (st' := [.int (nI wh), .ref 77]) (σ' := σ2) rfl ?_
          refine am_invv (y := 59) (b := 77) (as := [.int (nI wh)]) (rest := []) rfl rfl rfl rfl rfl rfl rfl (Nat.le_of_ble_eq_true rfl) ?_
          refine c_shows (c1 := c1) (rd := rd) (by omega) hwh b1 b2 (by omega) b5_ o0 o1 o3 (fun z => absurd (hsh.symm.trans z) (by decide)) (fun _ => ?_)
          show am_G _ M_X9_seekFrom _ 54 [some (.ref 41), some (.ref t), some (.int (nI k)), some (.int (nI mk)), some (.int (nI wh)), some (.int (nI S)), some (.int (nI (pt mk i))), some (.int (nI i))] [.int (nI 0)] σ2
          refine am_if (ty := 60) (tn := 57) rfl (by decide) rfl rfl (fun (h_2 : nI 0 = 0) => ?_) (fun (h_2 : ¬ (nI 0 = 0)) => ?_)
          rotate_left
          · exact absurd (by decide) h_2
          refine am_run 2 (pc' := 64) (ls' := [some (.ref 41), some (.ref t), some (.int (nI k)), some (.int (nI mk)), some (.int (nI wh)), some (.int (nI S)), some (.int (nI (pt mk i))), some (.int (nI i))]) (st' := [.ref 77]) (σ' := σ2) rfl ?_
          refine am_invv (y := 52) (b := 77) (as := []) (rest := []) rfl rfl rfl rfl rfl rfl rfl (Nat.le_of_ble_eq_true rfl) ?_
          refine am_enter' rfl rfl rfl (by omega) (ls := [some (.ref 77)]) rfl (fun d_3 hd_3 => ?_)
          refine am_run 2 (pc' := 4) (ls' := [some (.ref 77)]) (st' := [.int (σ2.1 77 1)]) (σ' := σ2) rfl ?_
          refine am_top (v' := nI 0) o1 ?_
          refine am_if (ty := 11) (tn := 7) rfl (by decide) rfl rfl (fun (h_4 : nI 0 = 0) => ?_) (fun (h_4 : ¬ (nI 0 = 0)) => ?_)
          rotate_left
          · exact absurd (by decide) h_4
          refine am_run 1 (pc' := 12) (ls' := [some (.ref 77)]) (st' := [.int (nI 0)]) (σ' := σ2) rfl ?_
          refine am_retz rfl rfl (by decide) ?_
          show am_G _ M_X9_seekFrom _ 67 [some (.ref 41), some (.ref t), some (.int (nI k)), some (.int (nI mk)), some (.int (nI wh)), some (.int (nI S)), some (.int (nI (pt mk i))), some (.int (nI i))] [.int (nI 0)] σ2
          refine am_if (ty := 70) (tn := 94) rfl (by decide) rfl rfl (fun (h_5 : nI 0 = 0) => ?_) (fun (h_5 : ¬ (nI 0 = 0)) => ?_)
          rotate_left
          · exact absurd (by decide) h_5
          refine am_run 4 (pc' := 78) (ls' := [some (.ref 41), some (.ref t), some (.int (nI k)), some (.int (nI mk)), some (.int (nI wh)), some (.int (nI S)), some (.int (nI (pt mk i))), some (.int (nI i))]) (st' := [.ref 77, .ref 79]) (σ' := σ2) rfl ?_
          refine am_invv (y := 54) (b := 77) (as := []) (rest := [.ref 79]) rfl rfl rfl rfl rfl rfl rfl (Nat.le_of_ble_eq_true rfl) ?_
          refine am_enter' rfl rfl rfl (by omega) (ls := [some (.ref 77)]) rfl (fun d_6 hd_6 => ?_)
          refine am_run 2 (pc' := 4) (ls' := [some (.ref 77)]) (st' := [.int (σ2.1 77 3)]) (σ' := σ2) rfl ?_
          refine am_top (v' := nI nx) o3 ?_
          refine am_reti rfl rfl ?_
          show am_G _ M_X9_seekFrom _ 81 [some (.ref 41), some (.ref t), some (.int (nI k)), some (.int (nI mk)), some (.int (nI wh)), some (.int (nI S)), some (.int (nI (pt mk i))), some (.int (nI i))] [.int (nI nx), .ref 79] σ2
          refine am_run 2 (pc' := 84) (ls' := [some (.ref 41), some (.ref t), some (.int (nI k)), some (.int (nI mk)), some (.int (nI wh)), some (.int (nI S)), some (.int (nI (pt mk i))), some (.int (nI i))]) (st' := [.int (nI S), .int (nI 0), .int (nI nx), .ref 79]) (σ' := σ2) rfl ?_
          refine am_invv (y := 78) (b := 79) (as := [.int (nI nx), .int (nI 0), .int (nI S)]) (rest := []) rfl rfl rfl rfl rfl rfl rfl (Nat.le_of_ble_eq_true rfl) ?_
          refine c_reach (by omega) hT2 (by omega) (by decide) (fun _ => ?_) (fun z => absurd hfn (by omega)) (fun z => absurd hfn (by omega))
          show am_G _ M_X9_seekFrom _ 87 [some (.ref 41), some (.ref t), some (.int (nI k)), some (.int (nI mk)), some (.int (nI wh)), some (.int (nI S)), some (.int (nI (pt mk i))), some (.int (nI i))] [.int (nI (fnd f z0 nx 0 c))] σ2
          refine am_run 1 (pc' := 88) (ls' := [some (.ref 41), some (.ref t), some (.int (nI k)), some (.int (nI mk)), some (.int (nI wh)), some (.int (nI S)), some (.int (nI (pt mk i))), some (.int (nI i))]) (st' := [.int (-1), .int (nI (fnd f z0 nx 0 c))]) (σ' := σ2) rfl ?_
          refine am_ic (ty := 91) (tn := 94) rfl (by decide) rfl rfl (fun (h_7 : nI (fnd f z0 nx 0 c) = -1) => ?_) (fun (h_7 : ¬ (nI (fnd f z0 nx 0 c) = -1)) => ?_)
          · exact absurd h_7 (am_nm1 (by omega))
          refine am_run 2 (pc' := 97) (ls' := [some (.ref 41), some (.ref t), some (.int (nI k)), some (.int (nI mk)), some (.int (nI wh)), some (.int (nI S)), some (.int (nI (pt mk i))), some (.int (nI i))]) (st' := [.int (nI mk), .int (nI (pt mk i))]) (σ' := σ2) rfl ?_
          refine am_invs (y := 144) (as := [.int (nI (pt mk i)), .int (nI mk)]) (rest := []) rfl rfl rfl rfl rfl rfl (Nat.le_of_ble_eq_true rfl) ?_
          refine c_subsetAfter (by omega) hmk hmv (by omega) ?_
          show am_G _ M_X9_seekFrom _ 100 [some (.ref 41), some (.ref t), some (.int (nI k)), some (.int (nI mk)), some (.int (nI wh)), some (.int (nI S)), some (.int (nI (pt mk i))), some (.int (nI i))] [.int (nI (pt mk (i + 1)))] σ2
          refine am_run 2 (pc' := 105) (ls' := [some (.ref 41), some (.ref t), some (.int (nI k)), some (.int (nI mk)), some (.int (nI wh)), some (.int (nI S)), some (.int (nI (pt mk (i + 1)))), some (.int (nI i + nI 1))]) (st' := []) (σ' := σ2) rfl ?_
          refine am_ls (ls' := [some (.ref 41), some (.ref t), some (.int (nI k)), some (.int (nI mk)), some (.int (nI wh)), some (.int (nI S)), some (.int (nI (pt mk (i + 1)))), some (.int (nI (i + 1)))]) (by rw [nI_add]) ?_
          refine am_run 1 (pc' := 18) (ls' := [some (.ref 41), some (.ref t), some (.int (nI k)), some (.int (nI mk)), some (.int (nI wh)), some (.int (nI S)), some (.int (nI (pt mk (i + 1)))), some (.int (nI (i + 1)))]) (st' := []) (σ' := σ2) rfl ?_
          have e : (so_in p (r + 1) mk wh (m + 1) i k c f h) = (so_in p (r + 1) mk wh m (i + 1) k c f h) := by show (if shw wh (oc p (r + 1) (f k) (pt mk i)) = true then _ else _) = _; rw [hz]; rw [if_neg (nfl hsh), if_pos rfl, if_pos hfn]
          rw [e] at hA hN
          exact c_seek_loop hd hW hR hrn hro hmk hmv hwh hV m (i + 1) _ c f h (by omega) hK2 hT2 hkc hVA hf hh hA hN
        · by_cases hc100 : c = 100
          · skip
            refine am_run 2 (pc' := 21) (ls' := [some (.ref 41), some (.ref t), some (.int (nI k)), some (.int (nI mk)), some (.int (nI wh)), some (.int (nI S)), some (.int (nI (pt mk i))), some (.int (nI i))]) (st' := [.int (nI mk), .int (nI i)]) (σ' := σ') rfl ?_
            refine am_invs (y := 143) (as := [.int (nI mk)]) (rest := [.int (nI i)]) rfl rfl rfl rfl rfl rfl (Nat.le_of_ble_eq_true rfl) ?_
            refine c_subsetsOf (by omega) hmk hmv ?_
            show am_G _ M_X9_seekFrom _ 24 [some (.ref 41), some (.ref t), some (.int (nI k)), some (.int (nI mk)), some (.int (nI wh)), some (.int (nI S)), some (.int (nI (pt mk i))), some (.int (nI i))] [.int (nI (2 ^ pcn mk 21)), .int (nI i)] σ'
            refine am_ic (ty := 27) (tn := 108) rfl (by decide) rfl rfl (fun (h_1 : nI i < nI (2 ^ pcn mk 21)) => ?_) (fun (h_1 : ¬ (nI i < nI (2 ^ pcn mk 21))) => ?_)
            rotate_left
            · have h_1 : ¬ (i < 2 ^ pcn mk 21) := fun z => h_1 ((nI_ltI (by omega) (by omega)).mpr z)
              omega
            have h_1 : i < 2 ^ pcn mk 21 := (nI_ltI (by omega) (by omega)).mp h_1
            refine am_run 6 (pc' := 37) (ls' := [some (.ref 41), some (.ref t), some (.int (nI k)), some (.int (nI mk)), some (.int (nI wh)), some (.int (nI S)), some (.int (nI (pt mk i))), some (.int (nI i))]) (st' := [.int (nI k), .ref 79, .ref t, .ref 77]) (σ' := σ') rfl ?_
            refine am_invv (y := 75) (b := 79) (as := [.int (nI k)]) (rest := [.ref t, .ref 77]) rfl rfl rfl rfl rfl rfl rfl (Nat.le_of_ble_eq_true rfl) ?_
            refine c_firstAt (by omega) hT hkc ?_
            show am_G _ M_X9_seekFrom _ 40 [some (.ref 41), some (.ref t), some (.int (nI k)), some (.int (nI mk)), some (.int (nI wh)), some (.int (nI S)), some (.int (nI (pt mk i))), some (.int (nI i))] [.int (nI (f k)), .ref t, .ref 77] σ'
            refine am_run 1 (pc' := 42) (ls' := [some (.ref 41), some (.ref t), some (.int (nI k)), some (.int (nI mk)), some (.int (nI wh)), some (.int (nI S)), some (.int (nI (pt mk i))), some (.int (nI i))]) (st' := [.int (nI (pt mk i)), .int (nI (f k)), .ref t, .ref 77]) (σ' := σ') rfl ?_
            refine am_invv (y := 56) (b := 77) (as := [.ref t, .int (nI (f k)), .int (nI (pt mk i))]) (rest := []) rfl rfl rfl rfl rfl rfl rfl (Nat.le_of_ble_eq_true rfl) ?_
            refine c_determine (by omega) hW (hK.TR hR) (show r + 1 ≤ n by omega) (hK.RT hT3 hro) (Or.inl rfl) f4 (pt_lt mk i) (fun σ2 hKc hO => ?_)
            rw [hz] at hO
            obtain ⟨o0, o1, o2, o3, o4⟩ : σ2.1 77 0 = nI (P + 256 * A) ∧ σ2.1 77 1 = nI 0 ∧ σ2.1 77 2 = nI c1 ∧ σ2.1 77 3 = nI nx ∧ σ2.1 77 4 = nI rd := hO
            have hK2 := hK.kc hKc (Or.inl rfl)
            have hT2 := hT.keep (fun c a => hKc.1 c (by omega))
            show am_G _ M_X9_seekFrom _ 45 [some (.ref 41), some (.ref t), some (.int (nI k)), some (.int (nI mk)), some (.int (nI wh)), some (.int (nI S)), some (.int (nI (pt mk i))), some (.int (nI i))] [] σ2
            refine am_run 3 (pc' := 51) (ls' := [some (.ref 41), some (.ref t), some (.int (nI k)), some (.int (nI mk)), some (.int (nI wh)), some (.int (nI S)), some (.int (nI (pt mk i))), some (.int (nI i))]) (st' := [.int (nI wh), .ref 77]) (σ' := σ2) rfl ?_
            refine am_invv (y := 59) (b := 77) (as := [.int (nI wh)]) (rest := []) rfl rfl rfl rfl rfl rfl rfl (Nat.le_of_ble_eq_true rfl) ?_
            refine c_shows (c1 := c1) (rd := rd) (by omega) hwh b1 b2 (by omega) b5_ o0 o1 o3 (fun z => absurd (hsh.symm.trans z) (by decide)) (fun _ => ?_)
            show am_G _ M_X9_seekFrom _ 54 [some (.ref 41), some (.ref t), some (.int (nI k)), some (.int (nI mk)), some (.int (nI wh)), some (.int (nI S)), some (.int (nI (pt mk i))), some (.int (nI i))] [.int (nI 0)] σ2
            refine am_if (ty := 60) (tn := 57) rfl (by decide) rfl rfl (fun (h_2 : nI 0 = 0) => ?_) (fun (h_2 : ¬ (nI 0 = 0)) => ?_)
            rotate_left
            · exact absurd (by decide) h_2
            refine am_run 2 (pc' := 64) (ls' := [some (.ref 41), some (.ref t), some (.int (nI k)), some (.int (nI mk)), some (.int (nI wh)), some (.int (nI S)), some (.int (nI (pt mk i))), some (.int (nI i))]) (st' := [.ref 77]) (σ' := σ2) rfl ?_
            refine am_invv (y := 52) (b := 77) (as := []) (rest := []) rfl rfl rfl rfl rfl rfl rfl (Nat.le_of_ble_eq_true rfl) ?_
            refine am_enter' rfl rfl rfl (by omega) (ls := [some (.ref 77)]) rfl (fun d_3 hd_3 => ?_)
            refine am_run 2 (pc' := 4) (ls' := [some (.ref 77)]) (st' := [.int (σ2.1 77 1)]) (σ' := σ2) rfl ?_
            refine am_top (v' := nI 0) o1 ?_
            refine am_if (ty := 11) (tn := 7) rfl (by decide) rfl rfl (fun (h_4 : nI 0 = 0) => ?_) (fun (h_4 : ¬ (nI 0 = 0)) => ?_)
            rotate_left
            · exact absurd (by decide) h_4
            refine am_run 1 (pc' := 12) (ls' := [some (.ref 77)]) (st' := [.int (nI 0)]) (σ' := σ2) rfl ?_
            refine am_retz rfl rfl (by decide) ?_
            show am_G _ M_X9_seekFrom _ 67 [some (.ref 41), some (.ref t), some (.int (nI k)), some (.int (nI mk)), some (.int (nI wh)), some (.int (nI S)), some (.int (nI (pt mk i))), some (.int (nI i))] [.int (nI 0)] σ2
            refine am_if (ty := 70) (tn := 94) rfl (by decide) rfl rfl (fun (h_5 : nI 0 = 0) => ?_) (fun (h_5 : ¬ (nI 0 = 0)) => ?_)
            rotate_left
            · exact absurd (by decide) h_5
            refine am_run 4 (pc' := 78) (ls' := [some (.ref 41), some (.ref t), some (.int (nI k)), some (.int (nI mk)), some (.int (nI wh)), some (.int (nI S)), some (.int (nI (pt mk i))), some (.int (nI i))]) (st' := [.ref 77, .ref 79]) (σ' := σ2) rfl ?_
            refine am_invv (y := 54) (b := 77) (as := []) (rest := [.ref 79]) rfl rfl rfl rfl rfl rfl rfl (Nat.le_of_ble_eq_true rfl) ?_
            refine am_enter' rfl rfl rfl (by omega) (ls := [some (.ref 77)]) rfl (fun d_6 hd_6 => ?_)
            refine am_run 2 (pc' := 4) (ls' := [some (.ref 77)]) (st' := [.int (σ2.1 77 3)]) (σ' := σ2) rfl ?_
            refine am_top (v' := nI nx) o3 ?_
            refine am_reti rfl rfl ?_
            show am_G _ M_X9_seekFrom _ 81 [some (.ref 41), some (.ref t), some (.int (nI k)), some (.int (nI mk)), some (.int (nI wh)), some (.int (nI S)), some (.int (nI (pt mk i))), some (.int (nI i))] [.int (nI nx), .ref 79] σ2
            refine am_run 2 (pc' := 84) (ls' := [some (.ref 41), some (.ref t), some (.int (nI k)), some (.int (nI mk)), some (.int (nI wh)), some (.int (nI S)), some (.int (nI (pt mk i))), some (.int (nI i))]) (st' := [.int (nI S), .int (nI 0), .int (nI nx), .ref 79]) (σ' := σ2) rfl ?_
            refine am_invv (y := 78) (b := 79) (as := [.int (nI nx), .int (nI 0), .int (nI S)]) (rest := []) rfl rfl rfl rfl rfl rfl rfl (Nat.le_of_ble_eq_true rfl) ?_
            refine c_reach (by omega) hT2 (by omega) (by decide) (fun z => absurd z hfn) (fun _ z => absurd z (by omega)) (fun _ _ => ?_)
            show am_G _ M_X9_seekFrom _ 87 [some (.ref 41), some (.ref t), some (.int (nI k)), some (.int (nI mk)), some (.int (nI wh)), some (.int (nI S)), some (.int (nI (pt mk i))), some (.int (nI i))] [.int (-1)] σ2
            refine am_run 1 (pc' := 88) (ls' := [some (.ref 41), some (.ref t), some (.int (nI k)), some (.int (nI mk)), some (.int (nI wh)), some (.int (nI S)), some (.int (nI (pt mk i))), some (.int (nI i))]) (st' := [.int (-1), .int (-1)]) (σ' := σ2) rfl ?_
            refine am_ic (ty := 91) (tn := 94) rfl (by decide) rfl rfl (fun (h_7 : -1 = -1) => ?_) (fun (h_7 : ¬ (-1 = -1)) => ?_)
            rotate_left
            · exact absurd (by decide) h_7
            refine am_run 1 (pc' := 93) (ls' := [some (.ref 41), some (.ref t), some (.int (nI k)), some (.int (nI mk)), some (.int (nI wh)), some (.int (nI S)), some (.int (nI (pt mk i))), some (.int (nI i))]) (st' := [.int (-1000004)]) (σ' := σ2) rfl ?_
            refine am_reti rfl rfl ?_
            have e : (so_in p (r + 1) mk wh (m + 1) i k c f h) = (some (-1000004), c, f, h) := by show (if shw wh (oc p (r + 1) (f k) (pt mk i)) = true then _ else _) = _; rw [hz]; rw [if_neg (nfl hsh), if_pos rfl, if_neg hfn, if_pos hc100]
            rw [e] at hA
            exact hA σ2 hK2 (fun z => by cases z)
          · skip
            refine am_run 2 (pc' := 21) (ls' := [some (.ref 41), some (.ref t), some (.int (nI k)), some (.int (nI mk)), some (.int (nI wh)), some (.int (nI S)), some (.int (nI (pt mk i))), some (.int (nI i))]) (st' := [.int (nI mk), .int (nI i)]) (σ' := σ') rfl ?_
            refine am_invs (y := 143) (as := [.int (nI mk)]) (rest := [.int (nI i)]) rfl rfl rfl rfl rfl rfl (Nat.le_of_ble_eq_true rfl) ?_
            refine c_subsetsOf (by omega) hmk hmv ?_
            show am_G _ M_X9_seekFrom _ 24 [some (.ref 41), some (.ref t), some (.int (nI k)), some (.int (nI mk)), some (.int (nI wh)), some (.int (nI S)), some (.int (nI (pt mk i))), some (.int (nI i))] [.int (nI (2 ^ pcn mk 21)), .int (nI i)] σ'
            refine am_ic (ty := 27) (tn := 108) rfl (by decide) rfl rfl (fun (h_1 : nI i < nI (2 ^ pcn mk 21)) => ?_) (fun (h_1 : ¬ (nI i < nI (2 ^ pcn mk 21))) => ?_)
            rotate_left
            · have h_1 : ¬ (i < 2 ^ pcn mk 21) := fun z => h_1 ((nI_ltI (by omega) (by omega)).mpr z)
              omega
            have h_1 : i < 2 ^ pcn mk 21 := (nI_ltI (by omega) (by omega)).mp h_1
            refine am_run 6 (pc' := 37) (ls' := [some (.ref 41), some (.ref t), some (.int (nI k)), some (.int (nI mk)), some (.int (nI wh)), some (.int (nI S)), some (.int (nI (pt mk i))), some (.int (nI i))]) (st' := [.int (nI k), .ref 79, .ref t, .ref 77]) (σ' := σ') rfl ?_
            refine am_invv (y := 75) (b := 79) (as := [.int (nI k)]) (rest := [.ref t, .ref 77]) rfl rfl rfl rfl rfl rfl rfl (Nat.le_of_ble_eq_true rfl) ?_
            refine c_firstAt (by omega) hT hkc ?_
            show am_G _ M_X9_seekFrom _ 40 [some (.ref 41), some (.ref t), some (.int (nI k)), some (.int (nI mk)), some (.int (nI wh)), some (.int (nI S)), some (.int (nI (pt mk i))), some (.int (nI i))] [.int (nI (f k)), .ref t, .ref 77] σ'
            refine am_run 1 (pc' := 42) (ls' := [some (.ref 41), some (.ref t), some (.int (nI k)), some (.int (nI mk)), some (.int (nI wh)), some (.int (nI S)), some (.int (nI (pt mk i))), some (.int (nI i))]) (st' := [.int (nI (pt mk i)), .int (nI (f k)), .ref t, .ref 77]) (σ' := σ') rfl ?_
            refine am_invv (y := 56) (b := 77) (as := [.ref t, .int (nI (f k)), .int (nI (pt mk i))]) (rest := []) rfl rfl rfl rfl rfl rfl rfl (Nat.le_of_ble_eq_true rfl) ?_
            refine c_determine (by omega) hW (hK.TR hR) (show r + 1 ≤ n by omega) (hK.RT hT3 hro) (Or.inl rfl) f4 (pt_lt mk i) (fun σ2 hKc hO => ?_)
            rw [hz] at hO
            obtain ⟨o0, o1, o2, o3, o4⟩ : σ2.1 77 0 = nI (P + 256 * A) ∧ σ2.1 77 1 = nI 0 ∧ σ2.1 77 2 = nI c1 ∧ σ2.1 77 3 = nI nx ∧ σ2.1 77 4 = nI rd := hO
            have hK2 := hK.kc hKc (Or.inl rfl)
            have hT2 := hT.keep (fun c a => hKc.1 c (by omega))
            show am_G _ M_X9_seekFrom _ 45 [some (.ref 41), some (.ref t), some (.int (nI k)), some (.int (nI mk)), some (.int (nI wh)), some (.int (nI S)), some (.int (nI (pt mk i))), some (.int (nI i))] [] σ2
            refine am_run 3 (pc' := 51) (ls' := [some (.ref 41), some (.ref t), some (.int (nI k)), some (.int (nI mk)), some (.int (nI wh)), some (.int (nI S)), some (.int (nI (pt mk i))), some (.int (nI i))]) (st' := [.int (nI wh), .ref 77]) (σ' := σ2) rfl ?_
            refine am_invv (y := 59) (b := 77) (as := [.int (nI wh)]) (rest := []) rfl rfl rfl rfl rfl rfl rfl (Nat.le_of_ble_eq_true rfl) ?_
            refine c_shows (c1 := c1) (rd := rd) (by omega) hwh b1 b2 (by omega) b5_ o0 o1 o3 (fun z => absurd (hsh.symm.trans z) (by decide)) (fun _ => ?_)
            show am_G _ M_X9_seekFrom _ 54 [some (.ref 41), some (.ref t), some (.int (nI k)), some (.int (nI mk)), some (.int (nI wh)), some (.int (nI S)), some (.int (nI (pt mk i))), some (.int (nI i))] [.int (nI 0)] σ2
            refine am_if (ty := 60) (tn := 57) rfl (by decide) rfl rfl (fun (h_2 : nI 0 = 0) => ?_) (fun (h_2 : ¬ (nI 0 = 0)) => ?_)
            rotate_left
            · exact absurd (by decide) h_2
            refine am_run 2 (pc' := 64) (ls' := [some (.ref 41), some (.ref t), some (.int (nI k)), some (.int (nI mk)), some (.int (nI wh)), some (.int (nI S)), some (.int (nI (pt mk i))), some (.int (nI i))]) (st' := [.ref 77]) (σ' := σ2) rfl ?_
            refine am_invv (y := 52) (b := 77) (as := []) (rest := []) rfl rfl rfl rfl rfl rfl rfl (Nat.le_of_ble_eq_true rfl) ?_
            refine am_enter' rfl rfl rfl (by omega) (ls := [some (.ref 77)]) rfl (fun d_3 hd_3 => ?_)
            refine am_run 2 (pc' := 4) (ls' := [some (.ref 77)]) (st' := [.int (σ2.1 77 1)]) (σ' := σ2) rfl ?_
            refine am_top (v' := nI 0) o1 ?_
            refine am_if (ty := 11) (tn := 7) rfl (by decide) rfl rfl (fun (h_4 : nI 0 = 0) => ?_) (fun (h_4 : ¬ (nI 0 = 0)) => ?_)
            rotate_left
            · exact absurd (by decide) h_4
            refine am_run 1 (pc' := 12) (ls' := [some (.ref 77)]) (st' := [.int (nI 0)]) (σ' := σ2) rfl ?_
            refine am_retz rfl rfl (by decide) ?_
            show am_G _ M_X9_seekFrom _ 67 [some (.ref 41), some (.ref t), some (.int (nI k)), some (.int (nI mk)), some (.int (nI wh)), some (.int (nI S)), some (.int (nI (pt mk i))), some (.int (nI i))] [.int (nI 0)] σ2
            refine am_if (ty := 70) (tn := 94) rfl (by decide) rfl rfl (fun (h_5 : nI 0 = 0) => ?_) (fun (h_5 : ¬ (nI 0 = 0)) => ?_)
            rotate_left
            · exact absurd (by decide) h_5
            refine am_run 4 (pc' := 78) (ls' := [some (.ref 41), some (.ref t), some (.int (nI k)), some (.int (nI mk)), some (.int (nI wh)), some (.int (nI S)), some (.int (nI (pt mk i))), some (.int (nI i))]) (st' := [.ref 77, .ref 79]) (σ' := σ2) rfl ?_
            refine am_invv (y := 54) (b := 77) (as := []) (rest := [.ref 79]) rfl rfl rfl rfl rfl rfl rfl (Nat.le_of_ble_eq_true rfl) ?_
            refine am_enter' rfl rfl rfl (by omega) (ls := [some (.ref 77)]) rfl (fun d_6 hd_6 => ?_)
            refine am_run 2 (pc' := 4) (ls' := [some (.ref 77)]) (st' := [.int (σ2.1 77 3)]) (σ' := σ2) rfl ?_
            refine am_top (v' := nI nx) o3 ?_
            refine am_reti rfl rfl ?_
            show am_G _ M_X9_seekFrom _ 81 [some (.ref 41), some (.ref t), some (.int (nI k)), some (.int (nI mk)), some (.int (nI wh)), some (.int (nI S)), some (.int (nI (pt mk i))), some (.int (nI i))] [.int (nI nx), .ref 79] σ2
            refine am_run 2 (pc' := 84) (ls' := [some (.ref 41), some (.ref t), some (.int (nI k)), some (.int (nI mk)), some (.int (nI wh)), some (.int (nI S)), some (.int (nI (pt mk i))), some (.int (nI i))]) (st' := [.int (nI S), .int (nI 0), .int (nI nx), .ref 79]) (σ' := σ2) rfl ?_
            refine am_invv (y := 78) (b := 79) (as := [.int (nI nx), .int (nI 0), .int (nI S)]) (rest := []) rfl rfl rfl rfl rfl rfl rfl (Nat.le_of_ble_eq_true rfl) ?_
            refine c_reach (by omega) hT2 (by omega) (by decide) (fun z => absurd z hfn) (fun _ _ => ?_) (fun _ z => absurd z hc100)
            show am_G _ M_X9_seekFrom _ 87 [some (.ref 41), some (.ref t), some (.int (nI k)), some (.int (nI mk)), some (.int (nI wh)), some (.int (nI S)), some (.int (nI (pt mk i))), some (.int (nI i))] [.int (nI c)] (am_wr (am_wr (am_wr (am_wr σ2 80 c (nI nx)) 81 c (nI 0)) 82 c (nI S)) 79 3 (nI (c + 1)))
            refine am_run 1 (pc' := 88) (ls' := [some (.ref 41), some (.ref t), some (.int (nI k)), some (.int (nI mk)), some (.int (nI wh)), some (.int (nI S)), some (.int (nI (pt mk i))), some (.int (nI i))]) (st' := [.int (-1), .int (nI c)]) (σ' := (am_wr (am_wr (am_wr (am_wr σ2 80 c (nI nx)) 81 c (nI 0)) 82 c (nI S)) 79 3 (nI (c + 1)))) rfl ?_
            refine am_ic (ty := 91) (tn := 94) rfl (by decide) rfl rfl (fun (h_7 : nI c = -1) => ?_) (fun (h_7 : ¬ (nI c = -1)) => ?_)
            · exact absurd h_7 (am_nm1 (by omega))
            refine am_run 2 (pc' := 97) (ls' := [some (.ref 41), some (.ref t), some (.int (nI k)), some (.int (nI mk)), some (.int (nI wh)), some (.int (nI S)), some (.int (nI (pt mk i))), some (.int (nI i))]) (st' := [.int (nI mk), .int (nI (pt mk i))]) (σ' := (am_wr (am_wr (am_wr (am_wr σ2 80 c (nI nx)) 81 c (nI 0)) 82 c (nI S)) 79 3 (nI (c + 1)))) rfl ?_
            refine am_invs (y := 144) (as := [.int (nI (pt mk i)), .int (nI mk)]) (rest := []) rfl rfl rfl rfl rfl rfl (Nat.le_of_ble_eq_true rfl) ?_
            refine c_subsetAfter (by omega) hmk hmv (by omega) ?_
            show am_G _ M_X9_seekFrom _ 100 [some (.ref 41), some (.ref t), some (.int (nI k)), some (.int (nI mk)), some (.int (nI wh)), some (.int (nI S)), some (.int (nI (pt mk i))), some (.int (nI i))] [.int (nI (pt mk (i + 1)))] (am_wr (am_wr (am_wr (am_wr σ2 80 c (nI nx)) 81 c (nI 0)) 82 c (nI S)) 79 3 (nI (c + 1)))
            refine am_run 2 (pc' := 105) (ls' := [some (.ref 41), some (.ref t), some (.int (nI k)), some (.int (nI mk)), some (.int (nI wh)), some (.int (nI S)), some (.int (nI (pt mk (i + 1)))), some (.int (nI i + nI 1))]) (st' := []) (σ' := (am_wr (am_wr (am_wr (am_wr σ2 80 c (nI nx)) 81 c (nI 0)) 82 c (nI S)) 79 3 (nI (c + 1)))) rfl ?_
            refine am_ls (ls' := [some (.ref 41), some (.ref t), some (.int (nI k)), some (.int (nI mk)), some (.int (nI wh)), some (.int (nI S)), some (.int (nI (pt mk (i + 1)))), some (.int (nI (i + 1)))]) (by rw [nI_add]) ?_
            refine am_run 1 (pc' := 18) (ls' := [some (.ref 41), some (.ref t), some (.int (nI k)), some (.int (nI mk)), some (.int (nI wh)), some (.int (nI S)), some (.int (nI (pt mk (i + 1)))), some (.int (nI (i + 1)))]) (st' := []) (σ' := (am_wr (am_wr (am_wr (am_wr σ2 80 c (nI nx)) 81 c (nI 0)) 82 c (nI S)) 79 3 (nI (c + 1)))) rfl ?_
            have e : (so_in p (r + 1) mk wh (m + 1) i k c f h) = (so_in p (r + 1) mk wh m (i + 1) k (c + 1) (up1 f c nx) (up1 h c (h k + 1))) := by show (if shw wh (oc p (r + 1) (f k) (pt mk i)) = true then _ else _) = _; rw [hz]; rw [if_neg (nfl hsh), if_pos rfl, if_neg hfn, if_neg hc100]
            rw [e] at hA hN
            subst hh
            have hkne : k ≠ c := by omega
            refine c_seek_loop hd hW hR hrn hro hmk hmv hwh hV m (i + 1) _ (c + 1) (up1 f c nx) (up1 h c (h k + 1)) (by omega) ((((hK2.wr (by decide) _ _).wr (by decide) _ _).wr (by decide) _ _).wr (by decide) _ _) (hT2.addz (by omega) (by omega) (by omega)) (by omega) (hVA.add hnv) (by rw [up1_o f _ hkne]) (by rw [up1_o h _ hkne]) hA hN
      · skip
        refine am_run 2 (pc' := 21) (ls' := [some (.ref 41), some (.ref t), some (.int (nI k)), some (.int (nI mk)), some (.int (nI wh)), some (.int (nI S)), some (.int (nI (pt mk i))), some (.int (nI i))]) (st' := [.int (nI mk), .int (nI i)]) (σ' := σ') rfl ?_
        refine am_invs (y := 143) (as := [.int (nI mk)]) (rest := [.int (nI i)]) rfl rfl rfl rfl rfl rfl (Nat.le_of_ble_eq_true rfl) ?_
        refine c_subsetsOf (by omega) hmk hmv ?_
        show am_G _ M_X9_seekFrom _ 24 [some (.ref 41), some (.ref t), some (.int (nI k)), some (.int (nI mk)), some (.int (nI wh)), some (.int (nI S)), some (.int (nI (pt mk i))), some (.int (nI i))] [.int (nI (2 ^ pcn mk 21)), .int (nI i)] σ'
        refine am_ic (ty := 27) (tn := 108) rfl (by decide) rfl rfl (fun (h_1 : nI i < nI (2 ^ pcn mk 21)) => ?_) (fun (h_1 : ¬ (nI i < nI (2 ^ pcn mk 21))) => ?_)
        rotate_left
        · have h_1 : ¬ (i < 2 ^ pcn mk 21) := fun z => h_1 ((nI_ltI (by omega) (by omega)).mpr z)
          omega
        have h_1 : i < 2 ^ pcn mk 21 := (nI_ltI (by omega) (by omega)).mp h_1
        refine am_run 6 (pc' := 37) (ls' := [some (.ref 41), some (.ref t), some (.int (nI k)), some (.int (nI mk)), some (.int (nI wh)), some (.int (nI S)), some (.int (nI (pt mk i))), some (.int (nI i))]) (st' := [.int (nI k), .ref 79, .ref t, .ref 77]) (σ' := σ') rfl ?_
        refine am_invv (y := 75) (b := 79) (as := [.int (nI k)]) (rest := [.ref t, .ref 77]) rfl rfl rfl rfl rfl rfl rfl (Nat.le_of_ble_eq_true rfl) ?_
        refine c_firstAt (by omega) hT hkc ?_
        show am_G _ M_X9_seekFrom _ 40 [some (.ref 41), some (.ref t), some (.int (nI k)), some (.int (nI mk)), some (.int (nI wh)), some (.int (nI S)), some (.int (nI (pt mk i))), some (.int (nI i))] [.int (nI (f k)), .ref t, .ref 77] σ'
        refine am_run 1 (pc' := 42) (ls' := [some (.ref 41), some (.ref t), some (.int (nI k)), some (.int (nI mk)), some (.int (nI wh)), some (.int (nI S)), some (.int (nI (pt mk i))), some (.int (nI i))]) (st' := [.int (nI (pt mk i)), .int (nI (f k)), .ref t, .ref 77]) (σ' := σ') rfl ?_
        refine am_invv (y := 56) (b := 77) (as := [.ref t, .int (nI (f k)), .int (nI (pt mk i))]) (rest := []) rfl rfl rfl rfl rfl rfl rfl (Nat.le_of_ble_eq_true rfl) ?_
        refine c_determine (by omega) hW (hK.TR hR) (show r + 1 ≤ n by omega) (hK.RT hT3 hro) (Or.inl rfl) f4 (pt_lt mk i) (fun σ2 hKc hO => ?_)
        rw [hz] at hO
        obtain ⟨o0, o1, o2, o3, o4⟩ : σ2.1 77 0 = nI (P + 256 * A) ∧ σ2.1 77 1 = nI w ∧ σ2.1 77 2 = nI c1 ∧ σ2.1 77 3 = nI nx ∧ σ2.1 77 4 = nI rd := hO
        have hK2 := hK.kc hKc (Or.inl rfl)
        have hT2 := hT.keep (fun c a => hKc.1 c (by omega))
        show am_G _ M_X9_seekFrom _ 45 [some (.ref 41), some (.ref t), some (.int (nI k)), some (.int (nI mk)), some (.int (nI wh)), some (.int (nI S)), some (.int (nI (pt mk i))), some (.int (nI i))] [] σ2
        refine am_run 3 (pc' := 51) (ls' := [some (.ref 41), some (.ref t), some (.int (nI k)), some (.int (nI mk)), some (.int (nI wh)), some (.int (nI S)), some (.int (nI (pt mk i))), some (.int (nI i))]) (st' := [.int (nI wh), .ref 77]) (σ' := σ2) rfl ?_
        refine am_invv (y := 59) (b := 77) (as := [.int (nI wh)]) (rest := []) rfl rfl rfl rfl rfl rfl rfl (Nat.le_of_ble_eq_true rfl) ?_
        refine c_shows (c1 := c1) (rd := rd) (by omega) hwh b1 b2 (by omega) b5_ o0 o1 o3 (fun z => absurd (hsh.symm.trans z) (by decide)) (fun _ => ?_)
        show am_G _ M_X9_seekFrom _ 54 [some (.ref 41), some (.ref t), some (.int (nI k)), some (.int (nI mk)), some (.int (nI wh)), some (.int (nI S)), some (.int (nI (pt mk i))), some (.int (nI i))] [.int (nI 0)] σ2
        refine am_if (ty := 60) (tn := 57) rfl (by decide) rfl rfl (fun (h_2 : nI 0 = 0) => ?_) (fun (h_2 : ¬ (nI 0 = 0)) => ?_)
        rotate_left
        · exact absurd (by decide) h_2
        refine am_run 2 (pc' := 64) (ls' := [some (.ref 41), some (.ref t), some (.int (nI k)), some (.int (nI mk)), some (.int (nI wh)), some (.int (nI S)), some (.int (nI (pt mk i))), some (.int (nI i))]) (st' := [.ref 77]) (σ' := σ2) rfl ?_
        refine am_invv (y := 52) (b := 77) (as := []) (rest := []) rfl rfl rfl rfl rfl rfl rfl (Nat.le_of_ble_eq_true rfl) ?_
        refine am_enter' rfl rfl rfl (by omega) (ls := [some (.ref 77)]) rfl (fun d_3 hd_3 => ?_)
        refine am_run 2 (pc' := 4) (ls' := [some (.ref 77)]) (st' := [.int (σ2.1 77 1)]) (σ' := σ2) rfl ?_
        refine am_top (v' := nI w) o1 ?_
        refine am_if (ty := 11) (tn := 7) rfl (by decide) rfl rfl (fun (h_4 : nI w = 0) => ?_) (fun (h_4 : ¬ (nI w = 0)) => ?_)
        · have h_4 : w = 0 := (am_n0 (by omega)).mp h_4
          omega
        have h_4 : ¬ (w = 0) := fun z => h_4 ((am_n0 (by omega)).mpr z)
        refine am_run 2 (pc' := 12) (ls' := [some (.ref 77)]) (st' := [.int (nI 1)]) (σ' := σ2) rfl ?_
        refine am_retz rfl rfl (by decide) ?_
        show am_G _ M_X9_seekFrom _ 67 [some (.ref 41), some (.ref t), some (.int (nI k)), some (.int (nI mk)), some (.int (nI wh)), some (.int (nI S)), some (.int (nI (pt mk i))), some (.int (nI i))] [.int (nI 1)] σ2
        refine am_if (ty := 70) (tn := 94) rfl (by decide) rfl rfl (fun (h_5 : nI 1 = 0) => ?_) (fun (h_5 : ¬ (nI 1 = 0)) => ?_)
        · exact absurd h_5 (by decide)
        refine am_run 2 (pc' := 97) (ls' := [some (.ref 41), some (.ref t), some (.int (nI k)), some (.int (nI mk)), some (.int (nI wh)), some (.int (nI S)), some (.int (nI (pt mk i))), some (.int (nI i))]) (st' := [.int (nI mk), .int (nI (pt mk i))]) (σ' := σ2) rfl ?_
        refine am_invs (y := 144) (as := [.int (nI (pt mk i)), .int (nI mk)]) (rest := []) rfl rfl rfl rfl rfl rfl (Nat.le_of_ble_eq_true rfl) ?_
        refine c_subsetAfter (by omega) hmk hmv (by omega) ?_
        show am_G _ M_X9_seekFrom _ 100 [some (.ref 41), some (.ref t), some (.int (nI k)), some (.int (nI mk)), some (.int (nI wh)), some (.int (nI S)), some (.int (nI (pt mk i))), some (.int (nI i))] [.int (nI (pt mk (i + 1)))] σ2
        refine am_run 2 (pc' := 105) (ls' := [some (.ref 41), some (.ref t), some (.int (nI k)), some (.int (nI mk)), some (.int (nI wh)), some (.int (nI S)), some (.int (nI (pt mk (i + 1)))), some (.int (nI i + nI 1))]) (st' := []) (σ' := σ2) rfl ?_
        refine am_ls (ls' := [some (.ref 41), some (.ref t), some (.int (nI k)), some (.int (nI mk)), some (.int (nI wh)), some (.int (nI S)), some (.int (nI (pt mk (i + 1)))), some (.int (nI (i + 1)))]) (by rw [nI_add]) ?_
        refine am_run 1 (pc' := 18) (ls' := [some (.ref 41), some (.ref t), some (.int (nI k)), some (.int (nI mk)), some (.int (nI wh)), some (.int (nI S)), some (.int (nI (pt mk (i + 1)))), some (.int (nI (i + 1)))]) (st' := []) (σ' := σ2) rfl ?_
        have e : (so_in p (r + 1) mk wh (m + 1) i k c f h) = (so_in p (r + 1) mk wh m (i + 1) k c f h) := by show (if shw wh (oc p (r + 1) (f k) (pt mk i)) = true then _ else _) = _; rw [hz]; rw [if_neg (nfl hsh), if_neg (show ¬ (P, A, w, c1, nx, rd).2.2.1 = 0 from hw0)]
        rw [e] at hA hN
        exact c_seek_loop hd hW hR hrn hro hmk hmv hwh hV m (i + 1) _ c f h (by omega) hK2 hT2 hkc hVA hf hh hA hN
set_option maxRecDepth 10000 in
set_option maxHeartbeats 2000000 in
theorem c_seek {d : Nat} (hd : 521 ≤ d) {σ0 : am_M} {t n r mk wh k : Nat} {p : Pg} (hW : PW p n) (hR : TR σ0 t p n) (hrn : r < n) (hro : ROOT σ0 t (r + 1)) (hmk : mk < 256) (hmv : mkv mk) (hwh : wh ≤ 9) (hV : ∀ s u, u < 256 → VS p r (oc p (r + 1) s u).2.2.2.2.1) {σ : am_M} {c : Nat} {f h : Nat → Nat} (hK : KX σ0 σ) (hT : TX σ 100 c f z0 h) (hkc : k < c) (hVA : VA p r c f) {Q : am_Q} (hA : ∀ σ'', KX σ0 σ'' → (so_in p (r + 1) mk wh (2 ^ pcn mk 21) 0 k c f h).1 ≠ none → Q (some (.int ((so_in p (r + 1) mk wh (2 ^ pcn mk 21) 0 k c f h).1.getD 0))) σ'') (hN : ∀ σ'', KX σ0 σ'' → (so_in p (r + 1) mk wh (2 ^ pcn mk 21) 0 k c f h).1 = none → TX σ'' 100 (so_in p (r + 1) mk wh (2 ^ pcn mk 21) 0 k c f h).2.1 (so_in p (r + 1) mk wh (2 ^ pcn mk 21) 0 k c f h).2.2.1 z0 (so_in p (r + 1) mk wh (2 ^ pcn mk 21) 0 k c f h).2.2.2 → VA p r (so_in p (r + 1) mk wh (2 ^ pcn mk 21) 0 k c f h).2.1 (so_in p (r + 1) mk wh (2 ^ pcn mk 21) 0 k c f h).2.2.1 → Q (some (.int (-1))) σ'') : am_C d 146 [.ref 41, .ref t, .int (nI k), .int (nI mk), .int (nI wh)] σ Q := by
  have h8 := ((mk_f mk hmk).2 hmv.2).2.1
  refine am_enter' (M := M_X9_seekFrom) rfl rfl rfl (by omega) (ls := [some (.ref 41), some (.ref t), some (.int (nI k)), some (.int (nI mk)), some (.int (nI wh)), none, none, none]) rfl (fun d' hd' => ?_)
  refine am_run 3 (pc' := 5) (ls' := [some (.ref 41), some (.ref t), some (.int (nI k)), some (.int (nI mk)), some (.int (nI wh)), none, none, none]) (st' := [.int (nI k), .ref 79]) (σ' := σ) rfl ?_
  refine am_invv (y := 77) (b := 79) (as := [.int (nI k)]) (rest := []) rfl rfl rfl rfl rfl rfl rfl (Nat.le_of_ble_eq_true rfl) ?_
  refine c_stepsAt (by omega) hT hkc ?_
  show am_G _ M_X9_seekFrom _ 8 [some (.ref 41), some (.ref t), some (.int (nI k)), some (.int (nI mk)), some (.int (nI wh)), none, none, none] [.int (nI (h k))] σ
  refine am_run 2 (pc' := 10) (ls' := [some (.ref 41), some (.ref t), some (.int (nI k)), some (.int (nI mk)), some (.int (nI wh)), none, none, none]) (st' := [.int (nI (h k) + nI 1)]) (σ' := σ) rfl ?_
  refine am_top (v' := nI (h k + 1)) (nI_add _ _) ?_
  refine am_run 5 (pc' := 18) (ls' := [some (.ref 41), some (.ref t), some (.int (nI k)), some (.int (nI mk)), some (.int (nI wh)), some (.int (nI (h k + 1))), some (.int (nI 0)), some (.int (nI 0))]) (st' := []) (σ' := σ) rfl ?_
  refine am_ls (ls' := [some (.ref 41), some (.ref t), some (.int (nI k)), some (.int (nI mk)), some (.int (nI wh)), some (.int (nI (h k + 1))), some (.int (nI (pt mk 0))), some (.int (nI 0))]) (by rw [h8]) ?_
  exact c_seek_loop (by omega) hW hR hrn hro hmk hmv hwh hV (2 ^ pcn mk 21) 0 σ c f h (by omega) hK hT hkc hVA rfl rfl hA hN
set_option maxRecDepth 10000 in
set_option maxHeartbeats 2000000 in
theorem c_soon_out0 {d : Nat} (hd : 522 ≤ d) {σ0 : am_M} {n r mk wh : Nat} {p : Pg} (hW : PW p n) (hR : TR σ0 (σ0.2 73 1) p n) (hrn : r < n) (hro : ROOT σ0 (σ0.2 73 1) (r + 1)) (hmk : mk < 256) (hmv : mkv mk) (hwh : wh ≤ 9) (hV : ∀ s u, u < 256 → VS p r (oc p (r + 1) s u).2.2.2.2.1) {Q : am_Q} : ∀ (M k : Nat) (σ' : am_M) (c : Nat) (f h : Nat → Nat) (v6 : Option Value), k + M = 100 → KX σ0 σ' → TX σ' 100 c f z0 h → VA p r c f → (∀ σ'', KX σ0 σ'' → Q (some (.int (so_out p (r + 1) mk wh M k c f h))) σ'') → am_G d M_X9_soon Q 67 [some (.ref 41), some (.int (nI 0)), some (.int (nI mk)), some (.int (nI wh)), some (.ref 73), some (.int (nI k)), v6] [] σ'
  | 0, k, σ', c, f, h, v6, hm, hK, hT, hVA, hq => by
    have e : k = 100 := by omega
    subst e
    refine am_run 2 (pc' := 71) (ls' := [some (.ref 41), some (.int (nI 0)), some (.int (nI mk)), some (.int (nI wh)), some (.ref 73), some (.int (nI 100)), v6]) (st' := [.int (nI 100), .int (nI 100)]) (σ' := σ') rfl ?_
    refine am_ic (ty := 74) (tn := 116) rfl (by decide) rfl rfl (fun (h_1 : nI 100 < nI 100) => ?_) (fun (h_1 : ¬ (nI 100 < nI 100)) => ?_)
    · exact absurd h_1 (by decide)
    refine am_run 1 (pc' := 117) (ls' := [some (.ref 41), some (.int (nI 0)), some (.int (nI mk)), some (.int (nI wh)), some (.ref 73), some (.int (nI 100)), v6]) (st' := [.int (-1)]) (σ' := σ') rfl ?_
    refine am_reti rfl rfl ?_
    exact hq σ' hK
  | M + 1, k, σ', c, f, h, v6, hm, hK, hT, hVA, hq => by
    have hcl := hT.1
    by_cases hkc : k < c
    · skip
      refine am_run 2 (pc' := 71) (ls' := [some (.ref 41), some (.int (nI 0)), some (.int (nI mk)), some (.int (nI wh)), some (.ref 73), some (.int (nI k)), v6]) (st' := [.int (nI 100), .int (nI k)]) (σ' := σ') rfl ?_
      refine am_ic (ty := 74) (tn := 116) rfl (by decide) rfl rfl (fun (h_1 : nI k < nI 100) => ?_) (fun (h_1 : ¬ (nI k < nI 100)) => ?_)
      rotate_left
      · have h_1 : ¬ (k < 100) := fun z => h_1 ((nI_ltI (by omega) (by omega)).mpr z)
        omega
      have h_1 : k < 100 := (nI_ltI (by omega) (by omega)).mp h_1
      refine am_run 3 (pc' := 80) (ls' := [some (.ref 41), some (.int (nI 0)), some (.int (nI mk)), some (.int (nI wh)), some (.ref 73), some (.int (nI k)), v6]) (st' := [.ref 79, .int (nI k)]) (σ' := σ') rfl ?_
      refine am_invv (y := 74) (b := 79) (as := []) (rest := [.int (nI k)]) rfl rfl rfl rfl rfl rfl rfl (Nat.le_of_ble_eq_true rfl) ?_
      refine c_rsize (by omega) hT ?_
      show am_G _ M_X9_soon _ 83 [some (.ref 41), some (.int (nI 0)), some (.int (nI mk)), some (.int (nI wh)), some (.ref 73), some (.int (nI k)), v6] [.int (nI c), .int (nI k)] σ'
      refine am_ic (ty := 86) (tn := 116) rfl (by decide) rfl rfl (fun (h_2 : nI k < nI c) => ?_) (fun (h_2 : ¬ (nI k < nI c)) => ?_)
      rotate_left
      · have h_2 : ¬ (k < c) := fun z => h_2 ((nI_ltI (by omega) (by omega)).mpr z)
        omega
      have h_2 : k < c := (nI_ltI (by omega) (by omega)).mp h_2
      refine am_run 2 (pc' := 89) (ls' := [some (.ref 41), some (.int (nI 0)), some (.int (nI mk)), some (.int (nI wh)), some (.ref 73), some (.int (nI k)), v6]) (st' := [.ref 73, .ref 41]) (σ' := σ') rfl ?_
      refine am_invv (y := 66) (b := 73) (as := []) (rest := [.ref 41]) rfl rfl rfl rfl rfl rfl rfl (Nat.le_of_ble_eq_true rfl) ?_
      refine am_enter' rfl rfl rfl (by omega) (ls := [some (.ref 73)]) rfl (fun d_3 hd_3 => ?_)
      refine am_run 2 (pc' := 4) (ls' := [some (.ref 73)]) (st' := [.ref (σ'.2 73 1)]) (σ' := σ') rfl ?_
      refine am_reta rfl rfl (Or.inr ⟨_, rfl⟩) ?_
      show am_G _ M_X9_soon _ 92 [some (.ref 41), some (.int (nI 0)), some (.int (nI mk)), some (.int (nI wh)), some (.ref 73), some (.int (nI k)), v6] [.ref (σ'.2 73 1), .ref 41] σ'
      refine am_run 3 (pc' := 96) (ls' := [some (.ref 41), some (.int (nI 0)), some (.int (nI mk)), some (.int (nI wh)), some (.ref 73), some (.int (nI k)), v6]) (st' := [.int (nI wh), .int (nI mk), .int (nI k), .ref (σ'.2 73 1), .ref 41]) (σ' := σ') rfl ?_
      refine am_invv (y := 146) (b := 41) (as := [.ref (σ'.2 73 1), .int (nI k), .int (nI mk), .int (nI wh)]) (rest := []) rfl rfl rfl rfl rfl rfl rfl (Nat.le_of_ble_eq_true rfl) ?_
      rw [show σ'.2 73 1 = σ0.2 73 1 by rw [hK.2.1 73 (by decide)]]
      refine c_seek (by omega) hW hR hrn hro hmk hmv hwh hV hK hT hkc hVA (fun σ2 hK2 he => ?_) (fun σ2 hK2 he hT2 hVA2 => ?_)
      · have hq2 := hq σ2 hK2
        rw [show (so_out p (r + 1) mk wh (M + 1) k c f h) = (so_in p (r + 1) mk wh (2 ^ pcn mk 21) 0 k c f h).1.getD 0 by show (if k < c then _ else _) = _; rw [if_pos hkc, if_neg he]] at hq2
        show am_G _ M_X9_soon _ 99 [some (.ref 41), some (.int (nI 0)), some (.int (nI mk)), some (.int (nI wh)), some (.ref 73), some (.int (nI k)), v6] [.int ((so_in p (r + 1) mk wh (2 ^ pcn mk 21) 0 k c f h).1.getD 0)] σ2
        refine am_run 3 (pc' := 104) (ls' := [some (.ref 41), some (.int (nI 0)), some (.int (nI mk)), some (.int (nI wh)), some (.ref 73), some (.int (nI k)), some (.int ((so_in p (r + 1) mk wh (2 ^ pcn mk 21) 0 k c f h).1.getD 0))]) (st' := [.int (-1), .int ((so_in p (r + 1) mk wh (2 ^ pcn mk 21) 0 k c f h).1.getD 0)]) (σ' := σ2) rfl ?_
        refine am_ic (ty := 110) (tn := 107) rfl (by decide) rfl rfl (fun (h_5 : (so_in p (r + 1) mk wh (2 ^ pcn mk 21) 0 k c f h).1.getD 0 = -1) => ?_) (fun (h_5 : ¬ ((so_in p (r + 1) mk wh (2 ^ pcn mk 21) 0 k c f h).1.getD 0 = -1)) => ?_)
        · refine am_run 1 (pc' := 113) (ls' := [some (.ref 41), some (.int (nI 0)), some (.int (nI mk)), some (.int (nI wh)), some (.ref 73), some (.int (nI k + nI 1)), some (.int ((so_in p (r + 1) mk wh (2 ^ pcn mk 21) 0 k c f h).1.getD 0))]) (st' := []) (σ' := σ2) rfl ?_
          refine am_ls (ls' := [some (.ref 41), some (.int (nI 0)), some (.int (nI mk)), some (.int (nI wh)), some (.ref 73), some (.int (nI (k + 1))), some (.int ((so_in p (r + 1) mk wh (2 ^ pcn mk 21) 0 k c f h).1.getD 0))]) (by rw [nI_add]) ?_
          refine am_run 1 (pc' := 67) (ls' := [some (.ref 41), some (.int (nI 0)), some (.int (nI mk)), some (.int (nI wh)), some (.ref 73), some (.int (nI (k + 1))), some (.int ((so_in p (r + 1) mk wh (2 ^ pcn mk 21) 0 k c f h).1.getD 0))]) (st' := []) (σ' := σ2) rfl ?_
          exact absurd (show (so_in p (r + 1) mk wh (2 ^ pcn mk 21) 0 k c f h).1.getD 0 = -1 by assumption) (so_nn hkc (Nat.le_trans (hT.2.2.2.2 k hkc).2.2.2.2.2 (by omega)) he)
        · refine am_run 1 (pc' := 109) (ls' := [some (.ref 41), some (.int (nI 0)), some (.int (nI mk)), some (.int (nI wh)), some (.ref 73), some (.int (nI k)), some (.int ((so_in p (r + 1) mk wh (2 ^ pcn mk 21) 0 k c f h).1.getD 0))]) (st' := [.int ((so_in p (r + 1) mk wh (2 ^ pcn mk 21) 0 k c f h).1.getD 0)]) (σ' := σ2) rfl ?_
          refine am_reti rfl rfl ?_
          exact hq2
      · rw [show (so_out p (r + 1) mk wh (M + 1) k c f h) = so_out p (r + 1) mk wh M (k + 1) (so_in p (r + 1) mk wh (2 ^ pcn mk 21) 0 k c f h).2.1 (so_in p (r + 1) mk wh (2 ^ pcn mk 21) 0 k c f h).2.2.1 (so_in p (r + 1) mk wh (2 ^ pcn mk 21) 0 k c f h).2.2.2 by show (if k < c then _ else _) = _; rw [if_pos hkc, if_pos he]] at hq
        show am_G _ M_X9_soon _ 99 [some (.ref 41), some (.int (nI 0)), some (.int (nI mk)), some (.int (nI wh)), some (.ref 73), some (.int (nI k)), v6] [.int (-1)] σ2
        refine am_run 3 (pc' := 104) (ls' := [some (.ref 41), some (.int (nI 0)), some (.int (nI mk)), some (.int (nI wh)), some (.ref 73), some (.int (nI k)), some (.int (-1))]) (st' := [.int (-1), .int (-1)]) (σ' := σ2) rfl ?_
        refine am_ic (ty := 110) (tn := 107) rfl (by decide) rfl rfl (fun (h_6 : -1 = -1) => ?_) (fun (h_6 : ¬ (-1 = -1)) => ?_)
        rotate_left
        · exact absurd (by decide) h_6
        refine am_run 1 (pc' := 113) (ls' := [some (.ref 41), some (.int (nI 0)), some (.int (nI mk)), some (.int (nI wh)), some (.ref 73), some (.int (nI k + nI 1)), some (.int (-1))]) (st' := []) (σ' := σ2) rfl ?_
        refine am_ls (ls' := [some (.ref 41), some (.int (nI 0)), some (.int (nI mk)), some (.int (nI wh)), some (.ref 73), some (.int (nI (k + 1))), some (.int (-1))]) (by rw [nI_add]) ?_
        refine am_run 1 (pc' := 67) (ls' := [some (.ref 41), some (.int (nI 0)), some (.int (nI mk)), some (.int (nI wh)), some (.ref 73), some (.int (nI (k + 1))), some (.int (-1))]) (st' := []) (σ' := σ2) rfl ?_
        exact c_soon_out0 hd hW hR hrn hro hmk hmv hwh hV M (k + 1) σ2 _ _ _ _ (by omega) hK2 hT2 hVA2 hq
    · rw [show (so_out p (r + 1) mk wh (M + 1) k c f h) = -1 by show (if k < c then _ else _) = _; rw [if_neg hkc]] at hq
      refine am_run 2 (pc' := 71) (ls' := [some (.ref 41), some (.int (nI 0)), some (.int (nI mk)), some (.int (nI wh)), some (.ref 73), some (.int (nI k)), v6]) (st' := [.int (nI 100), .int (nI k)]) (σ' := σ') rfl ?_
      refine am_ic (ty := 74) (tn := 116) rfl (by decide) rfl rfl (fun (h_1 : nI k < nI 100) => ?_) (fun (h_1 : ¬ (nI k < nI 100)) => ?_)
      rotate_left
      · have h_1 : ¬ (k < 100) := fun z => h_1 ((nI_ltI (by omega) (by omega)).mpr z)
        omega
      have h_1 : k < 100 := (nI_ltI (by omega) (by omega)).mp h_1
      refine am_run 3 (pc' := 80) (ls' := [some (.ref 41), some (.int (nI 0)), some (.int (nI mk)), some (.int (nI wh)), some (.ref 73), some (.int (nI k)), v6]) (st' := [.ref 79, .int (nI k)]) (σ' := σ') rfl ?_
      refine am_invv (y := 74) (b := 79) (as := []) (rest := [.int (nI k)]) rfl rfl rfl rfl rfl rfl rfl (Nat.le_of_ble_eq_true rfl) ?_
      refine c_rsize (by omega) hT ?_
      show am_G _ M_X9_soon _ 83 [some (.ref 41), some (.int (nI 0)), some (.int (nI mk)), some (.int (nI wh)), some (.ref 73), some (.int (nI k)), v6] [.int (nI c), .int (nI k)] σ'
      refine am_ic (ty := 86) (tn := 116) rfl (by decide) rfl rfl (fun (h_2 : nI k < nI c) => ?_) (fun (h_2 : ¬ (nI k < nI c)) => ?_)
      · have h_2 : k < c := (nI_ltI (by omega) (by omega)).mp h_2
        omega
      have h_2 : ¬ (k < c) := fun z => h_2 ((nI_ltI (by omega) (by omega)).mpr z)
      refine am_run 1 (pc' := 117) (ls' := [some (.ref 41), some (.int (nI 0)), some (.int (nI mk)), some (.int (nI wh)), some (.ref 73), some (.int (nI k)), v6]) (st' := [.int (-1)]) (σ' := σ') rfl ?_
      refine am_reti rfl rfl ?_
      exact hq σ' hK
set_option maxRecDepth 10000 in
set_option maxHeartbeats 2000000 in
theorem c_soon_out1 {d : Nat} (hd : 522 ≤ d) {σ0 : am_M} {n r mk wh : Nat} {p : Pg} (hW : PW p n) (hR : TR σ0 (σ0.2 75 1) p n) (hrn : r < n) (hro : ROOT σ0 (σ0.2 75 1) (r + 1)) (hmk : mk < 256) (hmv : mkv mk) (hwh : wh ≤ 9) (hV : ∀ s u, u < 256 → VS p r (oc p (r + 1) s u).2.2.2.2.1) {Q : am_Q} : ∀ (M k : Nat) (σ' : am_M) (c : Nat) (f h : Nat → Nat) (v6 : Option Value), k + M = 100 → KX σ0 σ' → TX σ' 100 c f z0 h → VA p r c f → (∀ σ'', KX σ0 σ'' → Q (some (.int (so_out p (r + 1) mk wh M k c f h))) σ'') → am_G d M_X9_soon Q 67 [some (.ref 41), some (.int (nI 1)), some (.int (nI mk)), some (.int (nI wh)), some (.ref 75), some (.int (nI k)), v6] [] σ'
  | 0, k, σ', c, f, h, v6, hm, hK, hT, hVA, hq => by
    have e : k = 100 := by omega
    subst e
    refine am_run 2 (pc' := 71) (ls' := [some (.ref 41), some (.int (nI 1)), some (.int (nI mk)), some (.int (nI wh)), some (.ref 75), some (.int (nI 100)), v6]) (st' := [.int (nI 100), .int (nI 100)]) (σ' := σ') rfl ?_
    refine am_ic (ty := 74) (tn := 116) rfl (by decide) rfl rfl (fun (h_1 : nI 100 < nI 100) => ?_) (fun (h_1 : ¬ (nI 100 < nI 100)) => ?_)
    · exact absurd h_1 (by decide)
    refine am_run 1 (pc' := 117) (ls' := [some (.ref 41), some (.int (nI 1)), some (.int (nI mk)), some (.int (nI wh)), some (.ref 75), some (.int (nI 100)), v6]) (st' := [.int (-1)]) (σ' := σ') rfl ?_
    refine am_reti rfl rfl ?_
    exact hq σ' hK
  | M + 1, k, σ', c, f, h, v6, hm, hK, hT, hVA, hq => by
    have hcl := hT.1
    by_cases hkc : k < c
    · skip
      refine am_run 2 (pc' := 71) (ls' := [some (.ref 41), some (.int (nI 1)), some (.int (nI mk)), some (.int (nI wh)), some (.ref 75), some (.int (nI k)), v6]) (st' := [.int (nI 100), .int (nI k)]) (σ' := σ') rfl ?_
      refine am_ic (ty := 74) (tn := 116) rfl (by decide) rfl rfl (fun (h_1 : nI k < nI 100) => ?_) (fun (h_1 : ¬ (nI k < nI 100)) => ?_)
      rotate_left
      · have h_1 : ¬ (k < 100) := fun z => h_1 ((nI_ltI (by omega) (by omega)).mpr z)
        omega
      have h_1 : k < 100 := (nI_ltI (by omega) (by omega)).mp h_1
      refine am_run 3 (pc' := 80) (ls' := [some (.ref 41), some (.int (nI 1)), some (.int (nI mk)), some (.int (nI wh)), some (.ref 75), some (.int (nI k)), v6]) (st' := [.ref 79, .int (nI k)]) (σ' := σ') rfl ?_
      refine am_invv (y := 74) (b := 79) (as := []) (rest := [.int (nI k)]) rfl rfl rfl rfl rfl rfl rfl (Nat.le_of_ble_eq_true rfl) ?_
      refine c_rsize (by omega) hT ?_
      show am_G _ M_X9_soon _ 83 [some (.ref 41), some (.int (nI 1)), some (.int (nI mk)), some (.int (nI wh)), some (.ref 75), some (.int (nI k)), v6] [.int (nI c), .int (nI k)] σ'
      refine am_ic (ty := 86) (tn := 116) rfl (by decide) rfl rfl (fun (h_2 : nI k < nI c) => ?_) (fun (h_2 : ¬ (nI k < nI c)) => ?_)
      rotate_left
      · have h_2 : ¬ (k < c) := fun z => h_2 ((nI_ltI (by omega) (by omega)).mpr z)
        omega
      have h_2 : k < c := (nI_ltI (by omega) (by omega)).mp h_2
      refine am_run 2 (pc' := 89) (ls' := [some (.ref 41), some (.int (nI 1)), some (.int (nI mk)), some (.int (nI wh)), some (.ref 75), some (.int (nI k)), v6]) (st' := [.ref 75, .ref 41]) (σ' := σ') rfl ?_
      refine am_invv (y := 66) (b := 75) (as := []) (rest := [.ref 41]) rfl rfl rfl rfl rfl rfl rfl (Nat.le_of_ble_eq_true rfl) ?_
      refine am_enter' rfl rfl rfl (by omega) (ls := [some (.ref 75)]) rfl (fun d_3 hd_3 => ?_)
      refine am_run 2 (pc' := 4) (ls' := [some (.ref 75)]) (st' := [.ref (σ'.2 75 1)]) (σ' := σ') rfl ?_
      refine am_reta rfl rfl (Or.inr ⟨_, rfl⟩) ?_
      show am_G _ M_X9_soon _ 92 [some (.ref 41), some (.int (nI 1)), some (.int (nI mk)), some (.int (nI wh)), some (.ref 75), some (.int (nI k)), v6] [.ref (σ'.2 75 1), .ref 41] σ'
      refine am_run 3 (pc' := 96) (ls' := [some (.ref 41), some (.int (nI 1)), some (.int (nI mk)), some (.int (nI wh)), some (.ref 75), some (.int (nI k)), v6]) (st' := [.int (nI wh), .int (nI mk), .int (nI k), .ref (σ'.2 75 1), .ref 41]) (σ' := σ') rfl ?_
      refine am_invv (y := 146) (b := 41) (as := [.ref (σ'.2 75 1), .int (nI k), .int (nI mk), .int (nI wh)]) (rest := []) rfl rfl rfl rfl rfl rfl rfl (Nat.le_of_ble_eq_true rfl) ?_
      rw [show σ'.2 75 1 = σ0.2 75 1 by rw [hK.2.1 75 (by decide)]]
      refine c_seek (by omega) hW hR hrn hro hmk hmv hwh hV hK hT hkc hVA (fun σ2 hK2 he => ?_) (fun σ2 hK2 he hT2 hVA2 => ?_)
      · have hq2 := hq σ2 hK2
        rw [show (so_out p (r + 1) mk wh (M + 1) k c f h) = (so_in p (r + 1) mk wh (2 ^ pcn mk 21) 0 k c f h).1.getD 0 by show (if k < c then _ else _) = _; rw [if_pos hkc, if_neg he]] at hq2
        show am_G _ M_X9_soon _ 99 [some (.ref 41), some (.int (nI 1)), some (.int (nI mk)), some (.int (nI wh)), some (.ref 75), some (.int (nI k)), v6] [.int ((so_in p (r + 1) mk wh (2 ^ pcn mk 21) 0 k c f h).1.getD 0)] σ2
        refine am_run 3 (pc' := 104) (ls' := [some (.ref 41), some (.int (nI 1)), some (.int (nI mk)), some (.int (nI wh)), some (.ref 75), some (.int (nI k)), some (.int ((so_in p (r + 1) mk wh (2 ^ pcn mk 21) 0 k c f h).1.getD 0))]) (st' := [.int (-1), .int ((so_in p (r + 1) mk wh (2 ^ pcn mk 21) 0 k c f h).1.getD 0)]) (σ' := σ2) rfl ?_
        refine am_ic (ty := 110) (tn := 107) rfl (by decide) rfl rfl (fun (h_5 : (so_in p (r + 1) mk wh (2 ^ pcn mk 21) 0 k c f h).1.getD 0 = -1) => ?_) (fun (h_5 : ¬ ((so_in p (r + 1) mk wh (2 ^ pcn mk 21) 0 k c f h).1.getD 0 = -1)) => ?_)
        · refine am_run 1 (pc' := 113) (ls' := [some (.ref 41), some (.int (nI 1)), some (.int (nI mk)), some (.int (nI wh)), some (.ref 75), some (.int (nI k + nI 1)), some (.int ((so_in p (r + 1) mk wh (2 ^ pcn mk 21) 0 k c f h).1.getD 0))]) (st' := []) (σ' := σ2) rfl ?_
          refine am_ls (ls' := [some (.ref 41), some (.int (nI 1)), some (.int (nI mk)), some (.int (nI wh)), some (.ref 75), some (.int (nI (k + 1))), some (.int ((so_in p (r + 1) mk wh (2 ^ pcn mk 21) 0 k c f h).1.getD 0))]) (by rw [nI_add]) ?_
          refine am_run 1 (pc' := 67) (ls' := [some (.ref 41), some (.int (nI 1)), some (.int (nI mk)), some (.int (nI wh)), some (.ref 75), some (.int (nI (k + 1))), some (.int ((so_in p (r + 1) mk wh (2 ^ pcn mk 21) 0 k c f h).1.getD 0))]) (st' := []) (σ' := σ2) rfl ?_
          exact absurd (show (so_in p (r + 1) mk wh (2 ^ pcn mk 21) 0 k c f h).1.getD 0 = -1 by assumption) (so_nn hkc (Nat.le_trans (hT.2.2.2.2 k hkc).2.2.2.2.2 (by omega)) he)
        · refine am_run 1 (pc' := 109) (ls' := [some (.ref 41), some (.int (nI 1)), some (.int (nI mk)), some (.int (nI wh)), some (.ref 75), some (.int (nI k)), some (.int ((so_in p (r + 1) mk wh (2 ^ pcn mk 21) 0 k c f h).1.getD 0))]) (st' := [.int ((so_in p (r + 1) mk wh (2 ^ pcn mk 21) 0 k c f h).1.getD 0)]) (σ' := σ2) rfl ?_
          refine am_reti rfl rfl ?_
          exact hq2
      · rw [show (so_out p (r + 1) mk wh (M + 1) k c f h) = so_out p (r + 1) mk wh M (k + 1) (so_in p (r + 1) mk wh (2 ^ pcn mk 21) 0 k c f h).2.1 (so_in p (r + 1) mk wh (2 ^ pcn mk 21) 0 k c f h).2.2.1 (so_in p (r + 1) mk wh (2 ^ pcn mk 21) 0 k c f h).2.2.2 by show (if k < c then _ else _) = _; rw [if_pos hkc, if_pos he]] at hq
        show am_G _ M_X9_soon _ 99 [some (.ref 41), some (.int (nI 1)), some (.int (nI mk)), some (.int (nI wh)), some (.ref 75), some (.int (nI k)), v6] [.int (-1)] σ2
        refine am_run 3 (pc' := 104) (ls' := [some (.ref 41), some (.int (nI 1)), some (.int (nI mk)), some (.int (nI wh)), some (.ref 75), some (.int (nI k)), some (.int (-1))]) (st' := [.int (-1), .int (-1)]) (σ' := σ2) rfl ?_
        refine am_ic (ty := 110) (tn := 107) rfl (by decide) rfl rfl (fun (h_6 : -1 = -1) => ?_) (fun (h_6 : ¬ (-1 = -1)) => ?_)
        rotate_left
        · exact absurd (by decide) h_6
        refine am_run 1 (pc' := 113) (ls' := [some (.ref 41), some (.int (nI 1)), some (.int (nI mk)), some (.int (nI wh)), some (.ref 75), some (.int (nI k + nI 1)), some (.int (-1))]) (st' := []) (σ' := σ2) rfl ?_
        refine am_ls (ls' := [some (.ref 41), some (.int (nI 1)), some (.int (nI mk)), some (.int (nI wh)), some (.ref 75), some (.int (nI (k + 1))), some (.int (-1))]) (by rw [nI_add]) ?_
        refine am_run 1 (pc' := 67) (ls' := [some (.ref 41), some (.int (nI 1)), some (.int (nI mk)), some (.int (nI wh)), some (.ref 75), some (.int (nI (k + 1))), some (.int (-1))]) (st' := []) (σ' := σ2) rfl ?_
        exact c_soon_out1 hd hW hR hrn hro hmk hmv hwh hV M (k + 1) σ2 _ _ _ _ (by omega) hK2 hT2 hVA2 hq
    · rw [show (so_out p (r + 1) mk wh (M + 1) k c f h) = -1 by show (if k < c then _ else _) = _; rw [if_neg hkc]] at hq
      refine am_run 2 (pc' := 71) (ls' := [some (.ref 41), some (.int (nI 1)), some (.int (nI mk)), some (.int (nI wh)), some (.ref 75), some (.int (nI k)), v6]) (st' := [.int (nI 100), .int (nI k)]) (σ' := σ') rfl ?_
      refine am_ic (ty := 74) (tn := 116) rfl (by decide) rfl rfl (fun (h_1 : nI k < nI 100) => ?_) (fun (h_1 : ¬ (nI k < nI 100)) => ?_)
      rotate_left
      · have h_1 : ¬ (k < 100) := fun z => h_1 ((nI_ltI (by omega) (by omega)).mpr z)
        omega
      have h_1 : k < 100 := (nI_ltI (by omega) (by omega)).mp h_1
      refine am_run 3 (pc' := 80) (ls' := [some (.ref 41), some (.int (nI 1)), some (.int (nI mk)), some (.int (nI wh)), some (.ref 75), some (.int (nI k)), v6]) (st' := [.ref 79, .int (nI k)]) (σ' := σ') rfl ?_
      refine am_invv (y := 74) (b := 79) (as := []) (rest := [.int (nI k)]) rfl rfl rfl rfl rfl rfl rfl (Nat.le_of_ble_eq_true rfl) ?_
      refine c_rsize (by omega) hT ?_
      show am_G _ M_X9_soon _ 83 [some (.ref 41), some (.int (nI 1)), some (.int (nI mk)), some (.int (nI wh)), some (.ref 75), some (.int (nI k)), v6] [.int (nI c), .int (nI k)] σ'
      refine am_ic (ty := 86) (tn := 116) rfl (by decide) rfl rfl (fun (h_2 : nI k < nI c) => ?_) (fun (h_2 : ¬ (nI k < nI c)) => ?_)
      · have h_2 : k < c := (nI_ltI (by omega) (by omega)).mp h_2
        omega
      have h_2 : ¬ (k < c) := fun z => h_2 ((nI_ltI (by omega) (by omega)).mpr z)
      refine am_run 1 (pc' := 117) (ls' := [some (.ref 41), some (.int (nI 1)), some (.int (nI mk)), some (.int (nI wh)), some (.ref 75), some (.int (nI k)), v6]) (st' := [.int (-1)]) (σ' := σ') rfl ?_
      refine am_reti rfl rfl ?_
      exact hq σ' hK

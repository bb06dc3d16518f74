def RJ (σ0 σ : am_M) (j s P A : Nat) : Prop := (∀ c, c ≠ 28 → c ≠ 29 → c ≠ 30 → c ≠ 31 → c ≠ 0 → σ.1 c = σ0.1 c) ∧ (∀ k, k < 38 ∨ 44 < k → σ.1 0 k = σ0.1 0 k) ∧ σ.2 = σ0.2 ∧ σ.1 0 38 = nI j ∧ σ.1 0 39 = nI s ∧ ∀ g, g < 8 → σ.1 29 g = nI (sts (P, A) g)
theorem RJ.w31 {σ0 σ : am_M} {j s P A : Nat} (h : RJ σ0 σ j s P A) (k : Nat) (x : Int32) : RJ σ0 (am_wr σ 31 k x) j s P A := ⟨fun c a b e f g => by rw [am_wr_ne _ f]; exact h.1 c a b e f g, fun k' a => by rw [am_wr_ne _ (by decide)]; exact h.2.1 k' a, h.2.2.1, by rw [am_wr_ne _ (by decide)]; exact h.2.2.2.1, by rw [am_wr_ne _ (by decide)]; exact h.2.2.2.2.1, fun g hg => by rw [am_wr_ne _ (by decide)]; exact h.2.2.2.2.2 g hg⟩
theorem RJ.wi {σ0 σ σ' : am_M} {j s P A : Nat} (h : RJ σ0 σ j s P A) (h' : WI σ σ' j s P A) : RJ σ0 σ' j s P A := ⟨fun c a b e f g => (h'.1.1 c a b e g).trans (h.1 c a b e f g), fun k a => (h'.1.2.1 k a).trans (h.2.1 k a), h'.1.2.2.trans h.2.2.1, h'.2.1, h'.2.2.1, h'.2.2.2⟩
theorem RJ.KI {σ0 σ : am_M} {j s P A : Nat} (h : RJ σ0 σ j s P A) : KI σ0 σ := ⟨fun c a => h.1 c (by omega) (by omega) (by omega) (by omega) (by omega), fun k a => h.2.1 k (by omega), fun c _ => by rw [h.2.2.1], KI.gs h.2.2.1⟩
theorem last_ex {P : Nat → Prop} (hd : ∀ i, P i ∨ ¬ P i) : ∀ n, (∃ i, i < n ∧ P i) → ∃ i, i < n ∧ P i ∧ ∀ i', i < i' → i' < n → ¬ P i'
  | 0, ⟨i, h, _⟩ => absurd h (Nat.not_lt_zero _)
  | n + 1, ⟨i, h, hi⟩ => by
    rcases hd n with e | e
    · exact ⟨n, by omega, e, fun i' a b => absurd a (by omega)⟩
    · obtain ⟨k, h1, h2, h3⟩ := last_ex hd n ⟨i, by rcases Nat.lt_or_ge i n with z | z; exact z; exact absurd hi (by rw [show i = n by omega]; exact e), hi⟩
      refine ⟨k, by omega, h2, fun i' a b => ?_⟩
      by_cases z : i' = n
      · rw [z]; exact e
      · exact h3 i' a (by omega)
set_option maxRecDepth 10000 in
set_option maxHeartbeats 2000000 in
theorem c_ring_walk {d : Nat} (hd : 17 ≤ d) {σ0 : am_M} {j s P A n r : Nat} {p : Pg} {rk od dp : Nat → Nat} {ow : Nat → Nat → Nat} (hM : MI σ0 j p n r rk od dp ow) (hs : s ≤ 1048576) (hv : s = ST ∨ lv p (r + 1) s = true) (hdj : dj P A) (hP : P < 256) (hA : A < 256) {u q0 : Nat} (hq0 : q0 ≤ 8) {Q : am_Q} (hn : ∀ (c S : Nat) (σ' : am_M), c ≤ 8 → RJ σ0 σ' j s P A → (∀ k, k < c → σ'.1 31 k = nI (itr (rF p (r + 1) s (dn 255 (P ||| A)) P A) k q0 - 1)) → (∀ k, k < c → ¬ itr (rF p (r + 1) s (dn 255 (P ||| A)) P A) k q0 = 0) → (itr (rF p (r + 1) s (dn 255 (P ||| A)) P A) c q0 = 0 ∨ ∃ i, i < c ∧ itr (rF p (r + 1) s (dn 255 (P ||| A)) P A) c q0 = itr (rF p (r + 1) s (dn 255 (P ||| A)) P A) i q0) → am_G d M_X10_ring Q 121 [some (.ref 0), some (.int (nI j)), some (.int (nI u)), some (.int (nI 0)), some (.int (nI S)), some (.int (nI c)), some (.int (oI (itr (rF p (r + 1) s (dn 255 (P ||| A)) P A) c q0))), none, none] [] σ') : ∀ (m c S : Nat) (σ' : am_M), c + m = 9 → S < 256 → pcn S 8 = c → (∀ l, S.testBit l = true ↔ ∃ i, i < c ∧ itr (rF p (r + 1) s (dn 255 (P ||| A)) P A) i q0 - 1 = l) → RJ σ0 σ' j s P A → (∀ k, k < c → σ'.1 31 k = nI (itr (rF p (r + 1) s (dn 255 (P ||| A)) P A) k q0 - 1)) → (∀ k, k < c → ¬ itr (rF p (r + 1) s (dn 255 (P ||| A)) P A) k q0 = 0) → am_G d M_X10_ring Q 70 [some (.ref 0), some (.int (nI j)), some (.int (nI u)), some (.int (nI 0)), some (.int (nI S)), some (.int (nI c)), some (.int (oI (itr (rF p (r + 1) s (dn 255 (P ||| A)) P A) c q0))), none, none] [] σ'
  | 0, c, S, σ', hm, hS, hc, _, _, _, _ => by
    have := pcn_le S 8
    omega
  | m + 1, c, S, σ', hm, hS, hc, hb, hJ, hw, hz => by
    have hc8 := pcn_le S 8
    have hy8 : itr (rF p (r + 1) s (dn 255 (P ||| A)) P A) c q0 ≤ 8 := by
      cases c with
      | zero => exact hq0
      | succ c => exact rF_le _ _ _ _ _ _ _
    generalize hy : itr (rF p (r + 1) s (dn 255 (P ||| A)) P A) c q0 = y at hy8
    cases y with
    | zero =>
      have := hn c S σ' (by omega) hJ hw hz (Or.inl hy)
      rw [hy, oI_0] at this
      rw [oI_0]
      refine am_run 2 (pc' := 73) (ls' := [some (.ref 0), some (.int (nI j)), some (.int (nI u)), some (.int (nI 0)), some (.int (nI S)), some (.int (nI c)), some (.int (-1)), none, none]) (st' := [.int (-1), .int (-1)]) (σ' := σ') rfl ?_
      refine am_ic (ty := 121) (tn := 76) rfl (by decide) rfl rfl (fun (h_1 : -1 = -1) => ?_) (fun (h_1 : ¬ (-1 = -1)) => ?_)
      rotate_left
      · exact absurd (by decide) h_1
      exact this
    | succ g =>
      have hg : g < 8 := by omega
      have hg2 := pow_lt_256 hg
      rw [oI_s]
      rcases bt (S.testBit g) with e | e
      · obtain ⟨i, hi, hi2⟩ := (hb g).mp e
        have hzi := hz i hi
        have := hn c S σ' (by omega) hJ hw hz (Or.inr ⟨i, hi, by rw [hy]; omega⟩)
        rw [hy, oI_s] at this
        refine am_run 2 (pc' := 73) (ls' := [some (.ref 0), some (.int (nI j)), some (.int (nI u)), some (.int (nI 0)), some (.int (nI S)), some (.int (nI c)), some (.int (nI g)), none, none]) (st' := [.int (-1), .int (nI g)]) (σ' := σ') rfl ?_
        refine am_ic (ty := 121) (tn := 76) rfl (by decide) rfl rfl (fun (h_1 : nI g = -1) => ?_) (fun (h_1 : ¬ (nI g = -1)) => ?_)
        · exact absurd h_1 (am_nm1 (by omega))
        refine am_run 2 (pc' := 80) (ls' := [some (.ref 0), some (.int (nI j)), some (.int (nI u)), some (.int (nI 0)), some (.int (nI S)), some (.int (nI c)), some (.int (nI g)), none, none]) (st' := [.int (nI g), .int (nI S)]) (σ' := σ') rfl ?_
        refine am_invs (y := 149) (as := [.int (nI S), .int (nI g)]) (rest := []) rfl rfl rfl rfl rfl rfl (Nat.le_of_ble_eq_true rfl) ?_
        refine c_m_has (by omega) (a := S) (s := g) (by omega) (by omega) (fun _ => ?_) (fun z => absurd (e.symm.trans z) (by decide))
        show am_G _ M_X10_ring _ 83 [some (.ref 0), some (.int (nI j)), some (.int (nI u)), some (.int (nI 0)), some (.int (nI S)), some (.int (nI c)), some (.int (nI g)), none, none] [.int (nI 1)] σ'
        refine am_if (ty := 86) (tn := 121) rfl (by decide) rfl rfl (fun (h_2 : nI 1 = 0) => ?_) (fun (h_2 : ¬ (nI 1 = 0)) => ?_)
        · exact absurd h_2 (by decide)
        exact this
      · skip
        refine am_run 2 (pc' := 73) (ls' := [some (.ref 0), some (.int (nI j)), some (.int (nI u)), some (.int (nI 0)), some (.int (nI S)), some (.int (nI c)), some (.int (nI g)), none, none]) (st' := [.int (-1), .int (nI g)]) (σ' := σ') rfl ?_
        refine am_ic (ty := 121) (tn := 76) rfl (by decide) rfl rfl (fun (h_1 : nI g = -1) => ?_) (fun (h_1 : ¬ (nI g = -1)) => ?_)
        · exact absurd h_1 (am_nm1 (by omega))
        refine am_run 2 (pc' := 80) (ls' := [some (.ref 0), some (.int (nI j)), some (.int (nI u)), some (.int (nI 0)), some (.int (nI S)), some (.int (nI c)), some (.int (nI g)), none, none]) (st' := [.int (nI g), .int (nI S)]) (σ' := σ') rfl ?_
        refine am_invs (y := 149) (as := [.int (nI S), .int (nI g)]) (rest := []) rfl rfl rfl rfl rfl rfl (Nat.le_of_ble_eq_true rfl) ?_
        refine c_m_has (by omega) (a := S) (s := g) (by omega) (by omega) (fun z => absurd (e.symm.trans z) (by decide)) (fun _ => ?_)
        show am_G _ M_X10_ring _ 83 [some (.ref 0), some (.int (nI j)), some (.int (nI u)), some (.int (nI 0)), some (.int (nI S)), some (.int (nI c)), some (.int (nI g)), none, none] [.int (nI 0)] σ'
        refine am_if (ty := 86) (tn := 121) rfl (by decide) rfl rfl (fun (h_2 : nI 0 = 0) => ?_) (fun (h_2 : ¬ (nI 0 = 0)) => ?_)
        rotate_left
        · exact absurd (by decide) h_2
        refine am_run 4 (pc' := 94) (ls' := [some (.ref 0), some (.int (nI j)), some (.int (nI u)), some (.int (nI 0)), some (.int (nI S)), some (.int (nI c)), some (.int (nI g)), none, none]) (st' := [.int (nI g), .int (nI c), .ref 31]) (σ' := σ') rfl ?_
        refine am_iastN (n := 9) rfl rfl rfl (by omega) (by decide) ?_
        refine am_run 1 (pc' := 98) (ls' := [some (.ref 0), some (.int (nI j)), some (.int (nI u)), some (.int (nI 0)), some (.int (nI S)), some (.int (nI c + nI 1)), some (.int (nI g)), none, none]) (st' := []) (σ' := (am_wr σ' 31 c (nI g))) rfl ?_
        refine am_ls (ls' := [some (.ref 0), some (.int (nI j)), some (.int (nI u)), some (.int (nI 0)), some (.int (nI S)), some (.int (nI (c + 1))), some (.int (nI g)), none, none]) (by rw [nI_add]) ?_
        refine am_run 4 (pc' := 104) (ls' := [some (.ref 0), some (.int (nI j)), some (.int (nI u)), some (.int (nI 0)), some (.int (nI S)), some (.int (nI (c + 1))), some (.int (nI g)), none, none]) (st' := [.int ((nI 1) <<< ((nI g) &&& 31)), .int (nI S)]) (σ' := (am_wr σ' 31 c (nI g))) rfl ?_
        refine am_top (v' := nI (2 ^ g)) (by rw [nx_shl _ (by omega), Nat.one_mul]) ?_
        refine am_run 1 (pc' := 105) (ls' := [some (.ref 0), some (.int (nI j)), some (.int (nI u)), some (.int (nI 0)), some (.int (nI S)), some (.int (nI (c + 1))), some (.int (nI g)), none, none]) (st' := [.int (nI S ||| nI (2 ^ g))]) (σ' := (am_wr σ' 31 c (nI g))) rfl ?_
        refine am_top (v' := nI (S ||| 2 ^ g)) (nx_or _ _) ?_
        refine am_run 3 (pc' := 110) (ls' := [some (.ref 0), some (.int (nI j)), some (.int (nI u)), some (.int (nI 0)), some (.int (nI (S ||| 2 ^ g))), some (.int (nI (c + 1))), some (.int (nI g)), none, none]) (st' := [.int (nI g), .ref 0]) (σ' := (am_wr σ' 31 c (nI g))) rfl ?_
        refine am_invv (y := 236) (b := 0) (as := [.int (nI g)]) (rest := []) rfl rfl rfl rfl rfl rfl rfl (Nat.le_of_ble_eq_true rfl) ?_
        have hJ1 := hJ.w31 c (nI g)
        refine c_waitsFor (by omega) (hM.keep2 (σ' := (am_wr σ' 31 c (nI g))) (fun c' a => hJ1.1 c' (by omega) (by omega) (by omega) (by omega) (by omega))) hs hv hdj hP hA hg hJ1.2.2.2.1 hJ1.2.2.2.2.1 hJ1.2.2.2.2.2 (fun σ2 hWI => ?_)
        have hwl := wfs_lt p (r + 1) s (dn 255 (P ||| A)) P A g
        show am_G _ M_X10_ring _ 113 [some (.ref 0), some (.int (nI j)), some (.int (nI u)), some (.int (nI 0)), some (.int (nI (S ||| 2 ^ g))), some (.int (nI (c + 1))), some (.int (nI g)), none, none] [.int (nI (wfs p (r + 1) s (dn 255 (P ||| A)) P A g))] σ2
        refine am_invs (y := 238) (as := [.int (nI (wfs p (r + 1) s (dn 255 (P ||| A)) P A g))]) (rest := []) rfl rfl rfl rfl rfl rfl (Nat.le_of_ble_eq_true rfl) ?_
        refine c_least (by omega) (by omega) ?_
        show am_G _ M_X10_ring _ 116 [some (.ref 0), some (.int (nI j)), some (.int (nI u)), some (.int (nI 0)), some (.int (nI (S ||| 2 ^ g))), some (.int (nI (c + 1))), some (.int (nI g)), none, none] [.int (oI (lw (wfs p (r + 1) s (dn 255 (P ||| A)) P A g)))] σ2
        refine am_run 2 (pc' := 70) (ls' := [some (.ref 0), some (.int (nI j)), some (.int (nI u)), some (.int (nI 0)), some (.int (nI (S ||| 2 ^ g))), some (.int (nI (c + 1))), some (.int (oI (lw (wfs p (r + 1) s (dn 255 (P ||| A)) P A g)))), none, none]) (st' := []) (σ' := σ2) rfl ?_
        have hx : itr (rF p (r + 1) s (dn 255 (P ||| A)) P A) (c + 1) q0 = lw (wfs p (r + 1) s (dn 255 (P ||| A)) P A g) := by
          show (rF p (r + 1) s (dn 255 (P ||| A)) P A) (itr (rF p (r + 1) s (dn 255 (P ||| A)) P A) c q0) = _
          rw [hy]
          rfl
        refine am_ls (ls' := [some (.ref 0), some (.int (nI j)), some (.int (nI u)), some (.int (nI 0)), some (.int (nI (S ||| 2 ^ g))), some (.int (nI (c + 1))), some (.int (oI (itr (rF p (r + 1) s (dn 255 (P ||| A)) P A) (c + 1) q0))), none, none]) (by rw [hx]) ?_
        refine c_ring_walk hd hM hs hv hdj hP hA hq0 hn m (c + 1) (S ||| 2 ^ g) σ2 (by omega) (or_lt8 hS hg2) (by rw [pcn_or e, if_pos hg, hc]) (fun l => ?_) (hJ1.wi hWI) (fun k hk => ?_) (fun k hk => ?_)
        · rw [Nat.testBit_or, Bool.or_eq_true, hb l, Nat.testBit_two_pow, decide_eq_true_eq]
          constructor
          · rintro (⟨i, h1, h2⟩ | h)
            · exact ⟨i, by omega, h2⟩
            · exact ⟨c, by omega, by rw [hy]; omega⟩
          · rintro ⟨i, h1, h2⟩
            by_cases z : i = c
            · subst z; rw [hy] at h2; exact Or.inr (by omega)
            · exact Or.inl ⟨i, by omega, h2⟩
        · rw [hWI.1.1 31 (by decide) (by decide) (by decide) (by decide)]
          by_cases z : k = c
          · subst z; rw [am_same, hy]; rfl
          · rw [am_diff _ _ _ _ _ z]; exact hw k (by omega)
        · by_cases z : k = c
          · subst z; rw [hy]; exact Nat.succ_ne_zero g
          · exact hz k (by omega)
set_option maxRecDepth 10000 in
set_option maxHeartbeats 2000000 in
theorem c_ring_set {d : Nat} {σ : am_M} {j u S0 c g i y : Nat} {F : Nat → Nat} (hc8 : c ≤ 8) (hg : g < 8) (hw : ∀ k, k < c → σ.1 31 k = nI (itr F k y - 1)) (hF : ∀ k, k < c → ¬ itr F k y = 0 ∧ itr F k y ≤ 8) (hi : i < c) (hi1 : itr F i y = g + 1) (hi2 : ∀ i', i < i' → i' < c → ¬ itr F i' y = g + 1) {Q : am_Q} (hq : Q (some (.int (nI (orb F (itr F i y) (c - i))))) σ) : ∀ (m k S : Nat), k + m = c → S < 256 → (k ≤ i ∨ S = orb F (itr F i y) (k - i)) → am_G d M_X10_ring Q 135 [some (.ref 0), some (.int (nI j)), some (.int (nI u)), some (.int (nI 0)), some (.int (nI S0)), some (.int (nI c)), some (.int (nI g)), some (.int (nI S)), some (.int (nI k))] [] σ
  | 0, k, S, hm, hS, h => by
    have e : k = c := by omega
    subst e
    have e2 := h.resolve_left (by omega)
    subst e2
    refine am_run 2 (pc' := 139) (ls' := [some (.ref 0), some (.int (nI j)), some (.int (nI u)), some (.int (nI 0)), some (.int (nI S0)), some (.int (nI k)), some (.int (nI g)), some (.int (nI (orb F (itr F i y) (k - i)))), some (.int (nI k))]) (st' := [.int (nI k), .int (nI k)]) (σ' := σ) rfl ?_
    refine am_ic (ty := 142) (tn := 181) rfl (by decide) rfl rfl (fun (h_1 : nI k < nI k) => ?_) (fun (h_1 : ¬ (nI k < nI k)) => ?_)
    · have h_1 : k < k := (nI_ltI (by omega) (by omega)).mp h_1
      omega
    have h_1 : ¬ (k < k) := fun z => h_1 ((nI_ltI (by omega) (by omega)).mpr z)
    refine am_run 1 (pc' := 183) (ls' := [some (.ref 0), some (.int (nI j)), some (.int (nI u)), some (.int (nI 0)), some (.int (nI S0)), some (.int (nI k)), some (.int (nI g)), some (.int (nI (orb F (itr F i y) (k - i)))), some (.int (nI k))]) (st' := [.int (nI (orb F (itr F i y) (k - i)))]) (σ' := σ) rfl ?_
    refine am_reti rfl rfl ?_
    exact hq
  | m + 1, k, S, hm, hS, h => by
    obtain ⟨hz, h8⟩ := hF k (by omega)
    have hk2 : 2 ^ (itr F k y - 1) < 256 := pow_lt_256 (by omega)
    have hg2 := pow_lt_256 hg
    have hw1 := hw k (by omega)
    refine am_run 2 (pc' := 139) (ls' := [some (.ref 0), some (.int (nI j)), some (.int (nI u)), some (.int (nI 0)), some (.int (nI S0)), some (.int (nI c)), some (.int (nI g)), some (.int (nI S)), some (.int (nI k))]) (st' := [.int (nI c), .int (nI k)]) (σ' := σ) rfl ?_
    refine am_ic (ty := 142) (tn := 181) rfl (by decide) rfl rfl (fun (h_1 : nI k < nI c) => ?_) (fun (h_1 : ¬ (nI k < nI c)) => ?_)
    rotate_left
    · have h_1 : ¬ (k < c) := fun z => h_1 ((nI_ltI (by omega) (by omega)).mpr z)
      omega
    have h_1 : k < c := (nI_ltI (by omega) (by omega)).mp h_1
    refine am_run 3 (pc' := 148) (ls' := [some (.ref 0), some (.int (nI j)), some (.int (nI u)), some (.int (nI 0)), some (.int (nI S0)), some (.int (nI c)), some (.int (nI g)), some (.int (nI S)), some (.int (nI k))]) (st' := [.int (nI k), .ref 31]) (σ' := σ) rfl ?_
    refine am_ialdN (n := 9) (v := nI (itr F k y - 1)) rfl rfl rfl (by omega) hw1 (by decide) ?_
    refine am_run 1 (pc' := 151) (ls' := [some (.ref 0), some (.int (nI j)), some (.int (nI u)), some (.int (nI 0)), some (.int (nI S0)), some (.int (nI c)), some (.int (nI g)), some (.int (nI S)), some (.int (nI k))]) (st' := [.int (nI g), .int (nI (itr F k y - 1))]) (σ' := σ) rfl ?_
    refine am_ic (ty := 154) (tn := 161) rfl (by decide) rfl rfl (fun (h_2 : nI (itr F k y - 1) = nI g) => ?_) (fun (h_2 : ¬ (nI (itr F k y - 1) = nI g)) => ?_)
    · have h_2 : itr F k y - 1 = g := (nI_eq (by omega) (by omega)).mp h_2
      refine am_run 3 (pc' := 158) (ls' := [some (.ref 0), some (.int (nI j)), some (.int (nI u)), some (.int (nI 0)), some (.int (nI S0)), some (.int (nI c)), some (.int (nI g)), some (.int (nI S)), some (.int (nI k))]) (st' := [.int ((nI 1) <<< ((nI g) &&& 31))]) (σ' := σ) rfl ?_
      refine am_top (v' := nI (2 ^ g)) (by rw [nx_shl _ (by omega), Nat.one_mul]) ?_
      refine am_run 3 (pc' := 178) (ls' := [some (.ref 0), some (.int (nI j)), some (.int (nI u)), some (.int (nI 0)), some (.int (nI S0)), some (.int (nI c)), some (.int (nI g)), some (.int (nI (2 ^ g))), some (.int (nI k + nI 1))]) (st' := []) (σ' := σ) rfl ?_
      refine am_ls (ls' := [some (.ref 0), some (.int (nI j)), some (.int (nI u)), some (.int (nI 0)), some (.int (nI S0)), some (.int (nI c)), some (.int (nI g)), some (.int (nI (2 ^ g))), some (.int (nI (k + 1)))]) (by rw [nI_add]) ?_
      refine am_run 1 (pc' := 135) (ls' := [some (.ref 0), some (.int (nI j)), some (.int (nI u)), some (.int (nI 0)), some (.int (nI S0)), some (.int (nI c)), some (.int (nI g)), some (.int (nI (2 ^ g))), some (.int (nI (k + 1)))]) (st' := []) (σ' := σ) rfl ?_
      refine c_ring_set hc8 hg hw hF hi hi1 hi2 hq m (k + 1) (2 ^ g) (by omega) hg2 ?_
      by_cases e : k < i
      · exact Or.inl e
      · refine Or.inr ?_
        have e3 : k = i := by
          by_cases z : k = i
          · exact z
          · exact absurd (show itr F k y = g + 1 by omega) (hi2 k (by omega) (by omega))
        subst e3
        rw [show k + 1 - k = 0 + 1 by omega]
        show 2 ^ g = 0 ||| 2 ^ (itr F k y - 1)
        rw [hi1, Nat.zero_or]
        rfl
    · have h_2 : ¬ (itr F k y - 1 = g) := fun z => h_2 ((nI_eq (by omega) (by omega)).mpr z)
      refine am_run 5 (pc' := 170) (ls' := [some (.ref 0), some (.int (nI j)), some (.int (nI u)), some (.int (nI 0)), some (.int (nI S0)), some (.int (nI c)), some (.int (nI g)), some (.int (nI S)), some (.int (nI k))]) (st' := [.int (nI k), .ref 31, .int (nI 1), .int (nI S)]) (σ' := σ) rfl ?_
      refine am_ialdN (n := 9) (v := nI (itr F k y - 1)) rfl rfl rfl (by omega) hw1 (by decide) ?_
      refine am_run 1 (pc' := 172) (ls' := [some (.ref 0), some (.int (nI j)), some (.int (nI u)), some (.int (nI 0)), some (.int (nI S0)), some (.int (nI c)), some (.int (nI g)), some (.int (nI S)), some (.int (nI k))]) (st' := [.int ((nI 1) <<< ((nI (itr F k y - 1)) &&& 31)), .int (nI S)]) (σ' := σ) rfl ?_
      refine am_top (v' := nI (2 ^ (itr F k y - 1))) (by rw [nx_shl _ (by omega), Nat.one_mul]) ?_
      refine am_run 1 (pc' := 173) (ls' := [some (.ref 0), some (.int (nI j)), some (.int (nI u)), some (.int (nI 0)), some (.int (nI S0)), some (.int (nI c)), some (.int (nI g)), some (.int (nI S)), some (.int (nI k))]) (st' := [.int (nI S ||| nI (2 ^ (itr F k y - 1)))]) (σ' := σ) rfl ?_
      refine am_top (v' := nI (S ||| 2 ^ (itr F k y - 1))) (nx_or _ _) ?_
      refine am_run 2 (pc' := 178) (ls' := [some (.ref 0), some (.int (nI j)), some (.int (nI u)), some (.int (nI 0)), some (.int (nI S0)), some (.int (nI c)), some (.int (nI g)), some (.int (nI (S ||| 2 ^ (itr F k y - 1)))), some (.int (nI k + nI 1))]) (st' := []) (σ' := σ) rfl ?_
      refine am_ls (ls' := [some (.ref 0), some (.int (nI j)), some (.int (nI u)), some (.int (nI 0)), some (.int (nI S0)), some (.int (nI c)), some (.int (nI g)), some (.int (nI (S ||| 2 ^ (itr F k y - 1)))), some (.int (nI (k + 1)))]) (by rw [nI_add]) ?_
      refine am_run 1 (pc' := 135) (ls' := [some (.ref 0), some (.int (nI j)), some (.int (nI u)), some (.int (nI 0)), some (.int (nI S0)), some (.int (nI c)), some (.int (nI g)), some (.int (nI (S ||| 2 ^ (itr F k y - 1)))), some (.int (nI (k + 1)))]) (st' := []) (σ' := σ) rfl ?_
      refine c_ring_set hc8 hg hw hF hi hi1 hi2 hq m (k + 1) (S ||| 2 ^ (itr F k y - 1)) (by omega) (or_lt8 hS hk2) ?_
      by_cases e : k < i
      · exact Or.inl e
      · refine Or.inr ?_
        have e3 : k ≠ i := fun z => by subst z; rw [hi1] at h_2; exact h_2 (by omega)
        have e2 := h.resolve_left (by omega)
        rw [e2, show k + 1 - i = (k - i) + 1 by omega]
        show _ = orb F (itr F i y) (k - i) ||| 2 ^ (itr F (k - i) (itr F i y) - 1)
        rw [← itr_add, show k - i + i = k by omega]
set_option maxRecDepth 10000 in
set_option maxHeartbeats 2000000 in
theorem pr_ring {d : Nat} (hd : 600 ≤ d) {σ : am_M} (hI : Inv σ) (x y : Int32) : PR d 133 239 [.int x, .int y] σ := by
  rcases pl_cases hI x with hN | ⟨rfl, hF⟩ | ⟨rfl, hF⟩
  · refine ⟨-1000001, ?_⟩
    refine am_enter' (M := M_X9_ring) rfl rfl rfl (by omega) (ls := [some (.ref 41), some (.int x), some (.int y), none]) rfl (fun d' hd' => ?_)
    refine am_run 2 (pc' := 2) (ls' := [some (.ref 41), some (.int x), some (.int y), none]) (st' := [.int x, .ref 41]) (σ' := σ) rfl ?_
    refine am_invv (y := 140) (b := 41) (as := [.int x]) (rest := []) rfl rfl rfl rfl rfl rfl rfl (Nat.le_of_ble_eq_true rfl) ?_
    refine c_nf (by omega) hN ?_
    show am_G _ M_X9_ring _ 5 [some (.ref 41), some (.int x), some (.int y), none] [.null] σ
    refine am_run 4 (pc' := 12) (ls' := [some (.ref 41), some (.int x), some (.int y), some (.null)]) (st' := [.int (-1000001)]) (σ' := σ) rfl ?_
    refine am_reti rfl rfl ?_
    refine ⟨rfl, ?_⟩
    refine am_enter' (M := M_X10_ring) rfl rfl rfl (by omega) (ls := [some (.ref 0), some (.int x), some (.int y), none, none, none, none, none, none]) rfl (fun d2 hd2 => ?_)
    refine am_run 2 (pc' := 2) (ls' := [some (.ref 0), some (.int x), some (.int y), none, none, none, none, none, none]) (st' := [.int x, .ref 0]) (σ' := σ) rfl ?_
    refine am_invv (y := 151) (b := 0) (as := [.int x]) (rest := []) rfl rfl rfl rfl rfl rfl rfl (Nat.le_of_ble_eq_true rfl) ?_
    refine c_np (by omega) hN ?_
    show am_G _ M_X10_ring _ 5 [some (.ref 0), some (.int x), some (.int y), none, none, none, none, none, none] [.int (nI 0)] σ
    refine am_if (ty := 8) (tn := 11) rfl (by decide) rfl rfl (fun (h_101 : nI 0 = 0) => ?_) (fun (h_101 : ¬ (nI 0 = 0)) => ?_)
    rotate_left
    · exact absurd (by decide) h_101
    refine am_run 1 (pc' := 10) (ls' := [some (.ref 0), some (.int x), some (.int y), none, none, none, none, none, none]) (st' := [.int (-1000001)]) (σ' := σ) rfl ?_
    refine am_reti rfl rfl ?_
    exact ⟨rfl, hI⟩
  · obtain ⟨hf, p, n, r, kk, rk, od, dp, ow, s, m, hP, hH⟩ := hF
    obtain ⟨hn1, hR, hro, hM, hk1, hk2, hkk, hND⟩ := id hP
    obtain ⟨a3, b3, hv, a4, b4, hm, hh⟩ := id hH
    have hW := hM.1.2.1
    have hn60 := hW.1
    have hs := hv.1
    have hrn : r < n := hM.2.1.2.1
    have hn2 := hM.1.2.2.2.1
    rcases i32_in y (k := 255) (by decide) with ⟨u, hu0, rfl⟩ | hy
    · have hu : u < 256 := by omega
      obtain ⟨b1, b2, b3_, b4_, b5_, b6_⟩ := oc_b (s := s) hW (show r + 1 ≤ n by omega) hu
      have hnv := oc_vs hM s hu
      have hdj0 := oc_ri (s := s) (u := u) hW (show r + 1 ≤ n by omega)
      have hw3 := oc_w p (r + 1) s u
      generalize hz : oc p (r + 1) s u = z0 at b1 b2 b3_ b4_ b5_ b6_ hnv hdj0 hw3
      obtain ⟨P, A, w, c, nx, rd⟩ := z0
      have b1 : P < 256 := b1
      have b2 : A < 256 := b2
      have b3_ : w ≤ 256 := b3_
      have b4_ : c ≤ 6 := b4_
      have b5_ : nx < 1048576 := b5_
      have b6_ : rd ≤ 9 := b6_
      have hnv : VS p r nx := hnv
      have hdj0 : dj P A := hdj0
      have hw3 : w = 0 ∨ w = 256 ∨ (w = dn 255 (P ||| A) ∧ ¬ w = 0 ∧ ¬ s = 0) := hw3
      rcases hw3 with rfl | rfl | ⟨ew, hw0, hs0⟩
      · skip
        refine ⟨-1, ?_⟩
        refine am_enter' (M := M_X9_ring) rfl rfl rfl (by omega) (ls := [some (.ref 41), some (.int (nI 0)), some (.int (nI u)), none]) rfl (fun d' hd' => ?_)
        refine am_run 2 (pc' := 2) (ls' := [some (.ref 41), some (.int (nI 0)), some (.int (nI u)), none]) (st' := [.int (nI 0), .ref 41]) (σ' := σ) rfl ?_
        refine am_invv (y := 140) (b := 41) (as := [.int (nI 0)]) (rest := []) rfl rfl rfl rfl rfl rfl rfl (Nat.le_of_ble_eq_true rfl) ?_
        refine c_filled0_1 (by omega) hf ?_
        show am_G _ M_X9_ring _ 5 [some (.ref 41), some (.int (nI 0)), some (.int (nI u)), none] [.ref 73] σ
        refine am_run 4 (pc' := 14) (ls' := [some (.ref 41), some (.int (nI 0)), some (.int (nI u)), some (.ref 73)]) (st' := [.int (nI u)]) (σ' := σ) rfl ?_
        refine am_invs (y := 141) (as := [.int (nI u)]) (rest := []) rfl rfl rfl rfl rfl rfl (Nat.le_of_ble_eq_true rfl) ?_
        refine c_sig1 (by omega) (by omega) ?_
        show am_G _ M_X9_ring _ 17 [some (.ref 41), some (.int (nI 0)), some (.int (nI u)), some (.ref 73)] [.int (nI 1)] σ
        refine am_if (ty := 20) (tn := 23) rfl (by decide) rfl rfl (fun (h_1 : nI 1 = 0) => ?_) (fun (h_1 : ¬ (nI 1 = 0)) => ?_)
        · exact absurd h_1 (by decide)
        refine am_run 3 (pc' := 28) (ls' := [some (.ref 41), some (.int (nI 0)), some (.int (nI u)), some (.ref 73)]) (st' := [.ref 73, .ref 77]) (σ' := σ) rfl ?_
        refine am_invv (y := 66) (b := 73) (as := []) (rest := [.ref 77]) rfl rfl rfl rfl rfl rfl rfl (Nat.le_of_ble_eq_true rfl) ?_
        refine am_enter' rfl rfl rfl (by omega) (ls := [some (.ref 73)]) rfl (fun d_2 hd_2 => ?_)
        refine am_run 2 (pc' := 4) (ls' := [some (.ref 73)]) (st' := [.ref (σ.2 73 1)]) (σ' := σ) rfl ?_
        refine am_reta rfl rfl (Or.inr ⟨_, rfl⟩) ?_
        show am_G _ M_X9_ring _ 31 [some (.ref 41), some (.int (nI 0)), some (.int (nI u)), some (.ref 73)] [.ref (σ.2 73 1), .ref 77] σ
        refine am_run 1 (pc' := 32) (ls' := [some (.ref 41), some (.int (nI 0)), some (.int (nI u)), some (.ref 73)]) (st' := [.ref 73, .ref (σ.2 73 1), .ref 77]) (σ' := σ) rfl ?_
        refine am_invv (y := 67) (b := 73) (as := []) (rest := [.ref (σ.2 73 1), .ref 77]) rfl rfl rfl rfl rfl rfl rfl (Nat.le_of_ble_eq_true rfl) ?_
        refine am_enter' rfl rfl rfl (by omega) (ls := [some (.ref 73)]) rfl (fun d_3 hd_3 => ?_)
        refine am_run 2 (pc' := 4) (ls' := [some (.ref 73)]) (st' := [.int (σ.1 73 3)]) (σ' := σ) rfl ?_
        refine am_top (v' := nI s) a3 ?_
        refine am_reti rfl rfl ?_
        show am_G _ M_X9_ring _ 35 [some (.ref 41), some (.int (nI 0)), some (.int (nI u)), some (.ref 73)] [.int (nI s), .ref (σ.2 73 1), .ref 77] σ
        refine am_run 1 (pc' := 36) (ls' := [some (.ref 41), some (.int (nI 0)), some (.int (nI u)), some (.ref 73)]) (st' := [.int (nI u), .int (nI s), .ref (σ.2 73 1), .ref 77]) (σ' := σ) rfl ?_
        refine am_invv (y := 56) (b := 77) (as := [.ref (σ.2 73 1), .int (nI s), .int (nI u)]) (rest := []) rfl rfl rfl rfl rfl rfl rfl (Nat.le_of_ble_eq_true rfl) ?_
        refine c_determine (by omega) hW hR (show r + 1 ≤ n by omega) hro (Or.inl rfl) hs hu (fun σ2 hK hO => ?_)
        rw [hz] at hO
        obtain ⟨o0, o1, o2, o3, o4⟩ : σ2.1 77 0 = nI (P + 256 * A) ∧ σ2.1 77 1 = nI 0 ∧ σ2.1 77 2 = nI c ∧ σ2.1 77 3 = nI nx ∧ σ2.1 77 4 = nI rd := hO
        have hM2 := hM.keep2 (σ' := σ2) (fun c a => hK.1 c (by omega))
        have b32 : σ2.1 17 0 = nI s := by rw [hK.1 17 (by decide)]; exact b3
        have hn22 : σ2.1 2 0 = nI n := hM2.1.2.2.2.1
        have a32 : σ2.1 73 3 = nI s := by rw [hK.1 73 (by decide)]; exact a3
        have hR2 : TR σ2 (σ2.2 73 1) p n := by rw [hK.2]; exact hK.TR (Or.inl rfl) hR
        have hro2 : ROOT σ2 (σ2.2 73 1) (r + 1) := by
          unfold ROOT
          rw [hK.2, hK.1 _ (by have := hR.t3; unfold T3 at this; omega)]
          exact hro
        show am_G _ M_X9_ring _ 39 [some (.ref 41), some (.int (nI 0)), some (.int (nI u)), some (.ref 73)] [] σ2
        refine am_run 2 (pc' := 43) (ls' := [some (.ref 41), some (.int (nI 0)), some (.int (nI u)), some (.ref 73)]) (st' := [.ref 77]) (σ' := σ2) rfl ?_
        refine am_invv (y := 51) (b := 77) (as := []) (rest := []) rfl rfl rfl rfl rfl rfl rfl (Nat.le_of_ble_eq_true rfl) ?_
        refine am_enter' rfl rfl rfl (by omega) (ls := [some (.ref 77)]) rfl (fun d_4 hd_4 => ?_)
        refine am_run 2 (pc' := 4) (ls' := [some (.ref 77)]) (st' := [.int (σ2.1 77 1)]) (σ' := σ2) rfl ?_
        refine am_top (v' := nI 0) o1 ?_
        refine am_reti rfl rfl ?_
        show am_G _ M_X9_ring _ 46 [some (.ref 41), some (.int (nI 0)), some (.int (nI u)), some (.ref 73)] [.int (nI 0)] σ2
        refine am_run 2 (pc' := 50) (ls' := [some (.ref 41), some (.int (nI 0)), some (.int (nI u)), some (.ref 73)]) (st' := [.int (nI 0 &&& nI 255)]) (σ' := σ2) rfl ?_
        refine am_top (v' := nI 0) (by decide) ?_
        refine am_if (ty := 53) (tn := 55) rfl (by decide) rfl rfl (fun (h_5 : nI 0 = 0) => ?_) (fun (h_5 : ¬ (nI 0 = 0)) => ?_)
        rotate_left
        · exact absurd (by decide) h_5
        refine am_run 1 (pc' := 54) (ls' := [some (.ref 41), some (.int (nI 0)), some (.int (nI u)), some (.ref 73)]) (st' := [.int (-1)]) (σ' := σ2) rfl ?_
        refine am_reti rfl rfl ?_
        refine ⟨rfl, ?_⟩
        refine am_enter' (M := M_X10_ring) rfl rfl rfl (by omega) (ls := [some (.ref 0), some (.int (nI 0)), some (.int (nI u)), none, none, none, none, none, none]) rfl (fun d2 hd2 => ?_)
        refine am_run 2 (pc' := 2) (ls' := [some (.ref 0), some (.int (nI 0)), some (.int (nI u)), none, none, none, none, none, none]) (st' := [.int (nI 0), .ref 0]) (σ' := σ2) rfl ?_
        refine am_invv (y := 151) (b := 0) (as := [.int (nI 0)]) (rest := []) rfl rfl rfl rfl rfl rfl rfl (Nat.le_of_ble_eq_true rfl) ?_
        refine c_prog0_1 (by omega) (n := n) (by exact hn22) hn1 hn60 ?_
        show am_G _ M_X10_ring _ 5 [some (.ref 0), some (.int (nI 0)), some (.int (nI u)), none, none, none, none, none, none] [.int (nI 1)] σ2
        refine am_if (ty := 8) (tn := 11) rfl (by decide) rfl rfl (fun (h_101 : nI 1 = 0) => ?_) (fun (h_101 : ¬ (nI 1 = 0)) => ?_)
        · exact absurd h_101 (by decide)
        refine am_run 3 (pc' := 16) (ls' := [some (.ref 0), some (.int (nI 0)), some (.int (nI u)), none, none, none, none, none, none]) (st' := [.int (nI 255), .int (nI 0), .int (nI u)]) (σ' := σ2) rfl ?_
        refine am_invs (y := 148) (as := [.int (nI u), .int (nI 0), .int (nI 255)]) (rest := []) rfl rfl rfl rfl rfl rfl (Nat.le_of_ble_eq_true rfl) ?_
        refine c_in1 (by omega) (by omega) (by omega) (by omega) ?_
        show am_G _ M_X10_ring _ 19 [some (.ref 0), some (.int (nI 0)), some (.int (nI u)), none, none, none, none, none, none] [.int (nI 1)] σ2
        refine am_if (ty := 22) (tn := 25) rfl (by decide) rfl rfl (fun (h_102 : nI 1 = 0) => ?_) (fun (h_102 : ¬ (nI 1 = 0)) => ?_)
        · exact absurd h_102 (by decide)
        refine am_run 5 (pc' := 32) (ls' := [some (.ref 0), some (.int (nI 0)), some (.int (nI u)), none, none, none, none, none, none]) (st' := [.int (nI 0), .ref 17, .int (nI 0), .ref 0]) (σ' := σ2) rfl ?_
        refine am_ialdN (n := 2) (v := nI s) rfl rfl rfl (by decide) b32 (by decide) ?_
        refine am_run 1 (pc' := 34) (ls' := [some (.ref 0), some (.int (nI 0)), some (.int (nI u)), none, none, none, none, none, none]) (st' := [.int (nI u), .int (nI s), .int (nI 0), .ref 0]) (σ' := σ2) rfl ?_
        refine am_invv (y := 229) (b := 0) (as := [.int (nI 0), .int (nI s), .int (nI u)]) (rest := []) rfl rfl rfl rfl rfl rfl rfl (Nat.le_of_ble_eq_true rfl) ?_
        refine c_settles1 (by omega) hM2 hs hv.2 hu hz (fun σ3 hS i38 i39 i40 i41 i42 i43 i44 i29 => ?_)
        show am_G _ M_X10_ring _ 37 [some (.ref 0), some (.int (nI 0)), some (.int (nI u)), none, none, none, none, none, none] [.int (nI 1)] σ3
        refine am_run 2 (pc' := 39) (ls' := [some (.ref 0), some (.int (nI 0)), some (.int (nI u)), some (.int (nI 1)), none, none, none, none, none]) (st' := [.int (nI 1)]) (σ' := σ3) rfl ?_
        refine am_if (ty := 42) (tn := 53) rfl (by decide) rfl rfl (fun (h_103 : nI 1 = 0) => ?_) (fun (h_103 : ¬ (nI 1 = 0)) => ?_)
        · exact absurd h_103 (by decide)
        refine am_run 1 (pc' := 54) (ls' := [some (.ref 0), some (.int (nI 0)), some (.int (nI u)), some (.int (nI 1)), none, none, none, none, none]) (st' := [.int (-1)]) (σ' := σ3) rfl ?_
        refine am_reti rfl rfl ?_
        exact ⟨rfl, ((hK.KI (Or.inl rfl)).tr hS.KI).inv hI⟩
      · have hw0 : ¬ (256 : Nat) = 0 := by decide
        refine ⟨-1, ?_⟩
        refine am_enter' (M := M_X9_ring) rfl rfl rfl (by omega) (ls := [some (.ref 41), some (.int (nI 0)), some (.int (nI u)), none]) rfl (fun d' hd' => ?_)
        refine am_run 2 (pc' := 2) (ls' := [some (.ref 41), some (.int (nI 0)), some (.int (nI u)), none]) (st' := [.int (nI 0), .ref 41]) (σ' := σ) rfl ?_
        refine am_invv (y := 140) (b := 41) (as := [.int (nI 0)]) (rest := []) rfl rfl rfl rfl rfl rfl rfl (Nat.le_of_ble_eq_true rfl) ?_
        refine c_filled0_1 (by omega) hf ?_
        show am_G _ M_X9_ring _ 5 [some (.ref 41), some (.int (nI 0)), some (.int (nI u)), none] [.ref 73] σ
        refine am_run 4 (pc' := 14) (ls' := [some (.ref 41), some (.int (nI 0)), some (.int (nI u)), some (.ref 73)]) (st' := [.int (nI u)]) (σ' := σ) rfl ?_
        refine am_invs (y := 141) (as := [.int (nI u)]) (rest := []) rfl rfl rfl rfl rfl rfl (Nat.le_of_ble_eq_true rfl) ?_
        refine c_sig1 (by omega) (by omega) ?_
        show am_G _ M_X9_ring _ 17 [some (.ref 41), some (.int (nI 0)), some (.int (nI u)), some (.ref 73)] [.int (nI 1)] σ
        refine am_if (ty := 20) (tn := 23) rfl (by decide) rfl rfl (fun (h_1 : nI 1 = 0) => ?_) (fun (h_1 : ¬ (nI 1 = 0)) => ?_)
        · exact absurd h_1 (by decide)
        refine am_run 3 (pc' := 28) (ls' := [some (.ref 41), some (.int (nI 0)), some (.int (nI u)), some (.ref 73)]) (st' := [.ref 73, .ref 77]) (σ' := σ) rfl ?_
        refine am_invv (y := 66) (b := 73) (as := []) (rest := [.ref 77]) rfl rfl rfl rfl rfl rfl rfl (Nat.le_of_ble_eq_true rfl) ?_
        refine am_enter' rfl rfl rfl (by omega) (ls := [some (.ref 73)]) rfl (fun d_2 hd_2 => ?_)
        refine am_run 2 (pc' := 4) (ls' := [some (.ref 73)]) (st' := [.ref (σ.2 73 1)]) (σ' := σ) rfl ?_
        refine am_reta rfl rfl (Or.inr ⟨_, rfl⟩) ?_
        show am_G _ M_X9_ring _ 31 [some (.ref 41), some (.int (nI 0)), some (.int (nI u)), some (.ref 73)] [.ref (σ.2 73 1), .ref 77] σ
        refine am_run 1 (pc' := 32) (ls' := [some (.ref 41), some (.int (nI 0)), some (.int (nI u)), some (.ref 73)]) (st' := [.ref 73, .ref (σ.2 73 1), .ref 77]) (σ' := σ) rfl ?_
        refine am_invv (y := 67) (b := 73) (as := []) (rest := [.ref (σ.2 73 1), .ref 77]) rfl rfl rfl rfl rfl rfl rfl (Nat.le_of_ble_eq_true rfl) ?_
        refine am_enter' rfl rfl rfl (by omega) (ls := [some (.ref 73)]) rfl (fun d_3 hd_3 => ?_)
        refine am_run 2 (pc' := 4) (ls' := [some (.ref 73)]) (st' := [.int (σ.1 73 3)]) (σ' := σ) rfl ?_
        refine am_top (v' := nI s) a3 ?_
        refine am_reti rfl rfl ?_
        show am_G _ M_X9_ring _ 35 [some (.ref 41), some (.int (nI 0)), some (.int (nI u)), some (.ref 73)] [.int (nI s), .ref (σ.2 73 1), .ref 77] σ
        refine am_run 1 (pc' := 36) (ls' := [some (.ref 41), some (.int (nI 0)), some (.int (nI u)), some (.ref 73)]) (st' := [.int (nI u), .int (nI s), .ref (σ.2 73 1), .ref 77]) (σ' := σ) rfl ?_
        refine am_invv (y := 56) (b := 77) (as := [.ref (σ.2 73 1), .int (nI s), .int (nI u)]) (rest := []) rfl rfl rfl rfl rfl rfl rfl (Nat.le_of_ble_eq_true rfl) ?_
        refine c_determine (by omega) hW hR (show r + 1 ≤ n by omega) hro (Or.inl rfl) hs hu (fun σ2 hK hO => ?_)
        rw [hz] at hO
        obtain ⟨o0, o1, o2, o3, o4⟩ : σ2.1 77 0 = nI (P + 256 * A) ∧ σ2.1 77 1 = nI 256 ∧ σ2.1 77 2 = nI c ∧ σ2.1 77 3 = nI nx ∧ σ2.1 77 4 = nI rd := hO
        have hM2 := hM.keep2 (σ' := σ2) (fun c a => hK.1 c (by omega))
        have b32 : σ2.1 17 0 = nI s := by rw [hK.1 17 (by decide)]; exact b3
        have hn22 : σ2.1 2 0 = nI n := hM2.1.2.2.2.1
        have a32 : σ2.1 73 3 = nI s := by rw [hK.1 73 (by decide)]; exact a3
        have hR2 : TR σ2 (σ2.2 73 1) p n := by rw [hK.2]; exact hK.TR (Or.inl rfl) hR
        have hro2 : ROOT σ2 (σ2.2 73 1) (r + 1) := by
          unfold ROOT
          rw [hK.2, hK.1 _ (by have := hR.t3; unfold T3 at this; omega)]
          exact hro
        show am_G _ M_X9_ring _ 39 [some (.ref 41), some (.int (nI 0)), some (.int (nI u)), some (.ref 73)] [] σ2
        refine am_run 2 (pc' := 43) (ls' := [some (.ref 41), some (.int (nI 0)), some (.int (nI u)), some (.ref 73)]) (st' := [.ref 77]) (σ' := σ2) rfl ?_
        refine am_invv (y := 51) (b := 77) (as := []) (rest := []) rfl rfl rfl rfl rfl rfl rfl (Nat.le_of_ble_eq_true rfl) ?_
        refine am_enter' rfl rfl rfl (by omega) (ls := [some (.ref 77)]) rfl (fun d_4 hd_4 => ?_)
        refine am_run 2 (pc' := 4) (ls' := [some (.ref 77)]) (st' := [.int (σ2.1 77 1)]) (σ' := σ2) rfl ?_
        refine am_top (v' := nI 256) o1 ?_
        refine am_reti rfl rfl ?_
        show am_G _ M_X9_ring _ 46 [some (.ref 41), some (.int (nI 0)), some (.int (nI u)), some (.ref 73)] [.int (nI 256)] σ2
        refine am_run 2 (pc' := 50) (ls' := [some (.ref 41), some (.int (nI 0)), some (.int (nI u)), some (.ref 73)]) (st' := [.int (nI 256 &&& nI 255)]) (σ' := σ2) rfl ?_
        refine am_top (v' := nI 0) (by decide) ?_
        refine am_if (ty := 53) (tn := 55) rfl (by decide) rfl rfl (fun (h_5 : nI 0 = 0) => ?_) (fun (h_5 : ¬ (nI 0 = 0)) => ?_)
        rotate_left
        · exact absurd (by decide) h_5
        refine am_run 1 (pc' := 54) (ls' := [some (.ref 41), some (.int (nI 0)), some (.int (nI u)), some (.ref 73)]) (st' := [.int (-1)]) (σ' := σ2) rfl ?_
        refine am_reti rfl rfl ?_
        refine ⟨rfl, ?_⟩
        refine am_enter' (M := M_X10_ring) rfl rfl rfl (by omega) (ls := [some (.ref 0), some (.int (nI 0)), some (.int (nI u)), none, none, none, none, none, none]) rfl (fun d2 hd2 => ?_)
        refine am_run 2 (pc' := 2) (ls' := [some (.ref 0), some (.int (nI 0)), some (.int (nI u)), none, none, none, none, none, none]) (st' := [.int (nI 0), .ref 0]) (σ' := σ2) rfl ?_
        refine am_invv (y := 151) (b := 0) (as := [.int (nI 0)]) (rest := []) rfl rfl rfl rfl rfl rfl rfl (Nat.le_of_ble_eq_true rfl) ?_
        refine c_prog0_1 (by omega) (n := n) (by exact hn22) hn1 hn60 ?_
        show am_G _ M_X10_ring _ 5 [some (.ref 0), some (.int (nI 0)), some (.int (nI u)), none, none, none, none, none, none] [.int (nI 1)] σ2
        refine am_if (ty := 8) (tn := 11) rfl (by decide) rfl rfl (fun (h_101 : nI 1 = 0) => ?_) (fun (h_101 : ¬ (nI 1 = 0)) => ?_)
        · exact absurd h_101 (by decide)
        refine am_run 3 (pc' := 16) (ls' := [some (.ref 0), some (.int (nI 0)), some (.int (nI u)), none, none, none, none, none, none]) (st' := [.int (nI 255), .int (nI 0), .int (nI u)]) (σ' := σ2) rfl ?_
        refine am_invs (y := 148) (as := [.int (nI u), .int (nI 0), .int (nI 255)]) (rest := []) rfl rfl rfl rfl rfl rfl (Nat.le_of_ble_eq_true rfl) ?_
        refine c_in1 (by omega) (by omega) (by omega) (by omega) ?_
        show am_G _ M_X10_ring _ 19 [some (.ref 0), some (.int (nI 0)), some (.int (nI u)), none, none, none, none, none, none] [.int (nI 1)] σ2
        refine am_if (ty := 22) (tn := 25) rfl (by decide) rfl rfl (fun (h_102 : nI 1 = 0) => ?_) (fun (h_102 : ¬ (nI 1 = 0)) => ?_)
        · exact absurd h_102 (by decide)
        refine am_run 5 (pc' := 32) (ls' := [some (.ref 0), some (.int (nI 0)), some (.int (nI u)), none, none, none, none, none, none]) (st' := [.int (nI 0), .ref 17, .int (nI 0), .ref 0]) (σ' := σ2) rfl ?_
        refine am_ialdN (n := 2) (v := nI s) rfl rfl rfl (by decide) b32 (by decide) ?_
        refine am_run 1 (pc' := 34) (ls' := [some (.ref 0), some (.int (nI 0)), some (.int (nI u)), none, none, none, none, none, none]) (st' := [.int (nI u), .int (nI s), .int (nI 0), .ref 0]) (σ' := σ2) rfl ?_
        refine am_invv (y := 229) (b := 0) (as := [.int (nI 0), .int (nI s), .int (nI u)]) (rest := []) rfl rfl rfl rfl rfl rfl rfl (Nat.le_of_ble_eq_true rfl) ?_
        refine c_settles0 (by omega) hM2 hs hv.2 hu hz hw0 (fun σ3 hS i38 i39 i40 i41 i29 => ?_)
        show am_G _ M_X10_ring _ 37 [some (.ref 0), some (.int (nI 0)), some (.int (nI u)), none, none, none, none, none, none] [.int (nI 0)] σ3
        refine am_run 2 (pc' := 39) (ls' := [some (.ref 0), some (.int (nI 0)), some (.int (nI u)), some (.int (nI 0)), none, none, none, none, none]) (st' := [.int (nI 0)]) (σ' := σ3) rfl ?_
        refine am_if (ty := 42) (tn := 53) rfl (by decide) rfl rfl (fun (h_103 : nI 0 = 0) => ?_) (fun (h_103 : ¬ (nI 0 = 0)) => ?_)
        rotate_left
        · exact absurd (by decide) h_103
        refine am_run 2 (pc' := 46) (ls' := [some (.ref 0), some (.int (nI 0)), some (.int (nI u)), some (.int (nI 0)), none, none, none, none, none]) (st' := [.int (σ3.1 0 41)]) (σ' := σ3) rfl ?_
        refine am_top (v' := nI 256) i41 ?_
        refine am_run 2 (pc' := 50) (ls' := [some (.ref 0), some (.int (nI 0)), some (.int (nI u)), some (.int (nI 0)), none, none, none, none, none]) (st' := [.int (nI 256 &&& nI 255)]) (σ' := σ3) rfl ?_
        refine am_top (v' := nI 0) (by decide) ?_
        refine am_if (ty := 53) (tn := 55) rfl (by decide) rfl rfl (fun (h_104 : nI 0 = 0) => ?_) (fun (h_104 : ¬ (nI 0 = 0)) => ?_)
        rotate_left
        · exact absurd (by decide) h_104
        refine am_run 1 (pc' := 54) (ls' := [some (.ref 0), some (.int (nI 0)), some (.int (nI u)), some (.int (nI 0)), none, none, none, none, none]) (st' := [.int (-1)]) (σ' := σ3) rfl ?_
        refine am_reti rfl rfl ?_
        exact ⟨rfl, ((hK.KI (Or.inl rfl)).tr hS.KI).inv hI⟩
      · have hwl : w ≤ 255 := by rw [ew]; exact dn_le _ _
        refine ⟨nI (cir (rF p (r + 1) s w P A) 8 0 (itr (rF p (r + 1) s w P A) 8 (lw w))), ?_⟩
        refine am_enter' (M := M_X9_ring) rfl rfl rfl (by omega) (ls := [some (.ref 41), some (.int (nI 0)), some (.int (nI u)), none]) rfl (fun d' hd' => ?_)
        refine am_run 2 (pc' := 2) (ls' := [some (.ref 41), some (.int (nI 0)), some (.int (nI u)), none]) (st' := [.int (nI 0), .ref 41]) (σ' := σ) rfl ?_
        refine am_invv (y := 140) (b := 41) (as := [.int (nI 0)]) (rest := []) rfl rfl rfl rfl rfl rfl rfl (Nat.le_of_ble_eq_true rfl) ?_
        refine c_filled0_1 (by omega) hf ?_
        show am_G _ M_X9_ring _ 5 [some (.ref 41), some (.int (nI 0)), some (.int (nI u)), none] [.ref 73] σ
        refine am_run 4 (pc' := 14) (ls' := [some (.ref 41), some (.int (nI 0)), some (.int (nI u)), some (.ref 73)]) (st' := [.int (nI u)]) (σ' := σ) rfl ?_
        refine am_invs (y := 141) (as := [.int (nI u)]) (rest := []) rfl rfl rfl rfl rfl rfl (Nat.le_of_ble_eq_true rfl) ?_
        refine c_sig1 (by omega) (by omega) ?_
        show am_G _ M_X9_ring _ 17 [some (.ref 41), some (.int (nI 0)), some (.int (nI u)), some (.ref 73)] [.int (nI 1)] σ
        refine am_if (ty := 20) (tn := 23) rfl (by decide) rfl rfl (fun (h_1 : nI 1 = 0) => ?_) (fun (h_1 : ¬ (nI 1 = 0)) => ?_)
        · exact absurd h_1 (by decide)
        refine am_run 3 (pc' := 28) (ls' := [some (.ref 41), some (.int (nI 0)), some (.int (nI u)), some (.ref 73)]) (st' := [.ref 73, .ref 77]) (σ' := σ) rfl ?_
        refine am_invv (y := 66) (b := 73) (as := []) (rest := [.ref 77]) rfl rfl rfl rfl rfl rfl rfl (Nat.le_of_ble_eq_true rfl) ?_
        refine am_enter' rfl rfl rfl (by omega) (ls := [some (.ref 73)]) rfl (fun d_2 hd_2 => ?_)
        refine am_run 2 (pc' := 4) (ls' := [some (.ref 73)]) (st' := [.ref (σ.2 73 1)]) (σ' := σ) rfl ?_
        refine am_reta rfl rfl (Or.inr ⟨_, rfl⟩) ?_
        show am_G _ M_X9_ring _ 31 [some (.ref 41), some (.int (nI 0)), some (.int (nI u)), some (.ref 73)] [.ref (σ.2 73 1), .ref 77] σ
        refine am_run 1 (pc' := 32) (ls' := [some (.ref 41), some (.int (nI 0)), some (.int (nI u)), some (.ref 73)]) (st' := [.ref 73, .ref (σ.2 73 1), .ref 77]) (σ' := σ) rfl ?_
        refine am_invv (y := 67) (b := 73) (as := []) (rest := [.ref (σ.2 73 1), .ref 77]) rfl rfl rfl rfl rfl rfl rfl (Nat.le_of_ble_eq_true rfl) ?_
        refine am_enter' rfl rfl rfl (by omega) (ls := [some (.ref 73)]) rfl (fun d_3 hd_3 => ?_)
        refine am_run 2 (pc' := 4) (ls' := [some (.ref 73)]) (st' := [.int (σ.1 73 3)]) (σ' := σ) rfl ?_
        refine am_top (v' := nI s) a3 ?_
        refine am_reti rfl rfl ?_
        show am_G _ M_X9_ring _ 35 [some (.ref 41), some (.int (nI 0)), some (.int (nI u)), some (.ref 73)] [.int (nI s), .ref (σ.2 73 1), .ref 77] σ
        refine am_run 1 (pc' := 36) (ls' := [some (.ref 41), some (.int (nI 0)), some (.int (nI u)), some (.ref 73)]) (st' := [.int (nI u), .int (nI s), .ref (σ.2 73 1), .ref 77]) (σ' := σ) rfl ?_
        refine am_invv (y := 56) (b := 77) (as := [.ref (σ.2 73 1), .int (nI s), .int (nI u)]) (rest := []) rfl rfl rfl rfl rfl rfl rfl (Nat.le_of_ble_eq_true rfl) ?_
        refine c_determine (by omega) hW hR (show r + 1 ≤ n by omega) hro (Or.inl rfl) hs hu (fun σ2 hK hO => ?_)
        rw [hz] at hO
        obtain ⟨o0, o1, o2, o3, o4⟩ : σ2.1 77 0 = nI (P + 256 * A) ∧ σ2.1 77 1 = nI w ∧ σ2.1 77 2 = nI c ∧ σ2.1 77 3 = nI nx ∧ σ2.1 77 4 = nI rd := hO
        have hM2 := hM.keep2 (σ' := σ2) (fun c a => hK.1 c (by omega))
        have b32 : σ2.1 17 0 = nI s := by rw [hK.1 17 (by decide)]; exact b3
        have hn22 : σ2.1 2 0 = nI n := hM2.1.2.2.2.1
        have a32 : σ2.1 73 3 = nI s := by rw [hK.1 73 (by decide)]; exact a3
        have hR2 : TR σ2 (σ2.2 73 1) p n := by rw [hK.2]; exact hK.TR (Or.inl rfl) hR
        have hro2 : ROOT σ2 (σ2.2 73 1) (r + 1) := by
          unfold ROOT
          rw [hK.2, hK.1 _ (by have := hR.t3; unfold T3 at this; omega)]
          exact hro
        show am_G _ M_X9_ring _ 39 [some (.ref 41), some (.int (nI 0)), some (.int (nI u)), some (.ref 73)] [] σ2
        refine am_run 2 (pc' := 43) (ls' := [some (.ref 41), some (.int (nI 0)), some (.int (nI u)), some (.ref 73)]) (st' := [.ref 77]) (σ' := σ2) rfl ?_
        refine am_invv (y := 51) (b := 77) (as := []) (rest := []) rfl rfl rfl rfl rfl rfl rfl (Nat.le_of_ble_eq_true rfl) ?_
        refine am_enter' rfl rfl rfl (by omega) (ls := [some (.ref 77)]) rfl (fun d_4 hd_4 => ?_)
        refine am_run 2 (pc' := 4) (ls' := [some (.ref 77)]) (st' := [.int (σ2.1 77 1)]) (σ' := σ2) rfl ?_
        refine am_top (v' := nI w) o1 ?_
        refine am_reti rfl rfl ?_
        show am_G _ M_X9_ring _ 46 [some (.ref 41), some (.int (nI 0)), some (.int (nI u)), some (.ref 73)] [.int (nI w)] σ2
        refine am_run 2 (pc' := 50) (ls' := [some (.ref 41), some (.int (nI 0)), some (.int (nI u)), some (.ref 73)]) (st' := [.int (nI w &&& nI 255)]) (σ' := σ2) rfl ?_
        refine am_top (v' := nI w) (by rw [show nI 255 = nI (256 - 1) from rfl, nx_mask (k := 8) _ rfl, Nat.mod_eq_of_lt (by omega)]) ?_
        refine am_if (ty := 53) (tn := 55) rfl (by decide) rfl rfl (fun (h_5 : nI w = 0) => ?_) (fun (h_5 : ¬ (nI w = 0)) => ?_)
        · have h_5 : w = 0 := (am_n0 (by omega)).mp h_5
          omega
        have h_5 : ¬ (w = 0) := fun z => h_5 ((am_n0 (by omega)).mpr z)
        refine am_run 3 (pc' := 60) (ls' := [some (.ref 41), some (.int (nI 0)), some (.int (nI u)), some (.ref 73)]) (st' := [.ref 73, .ref 77]) (σ' := σ2) rfl ?_
        refine am_invv (y := 66) (b := 73) (as := []) (rest := [.ref 77]) rfl rfl rfl rfl rfl rfl rfl (Nat.le_of_ble_eq_true rfl) ?_
        refine am_enter' rfl rfl rfl (by omega) (ls := [some (.ref 73)]) rfl (fun d_6 hd_6 => ?_)
        refine am_run 2 (pc' := 4) (ls' := [some (.ref 73)]) (st' := [.ref (σ2.2 73 1)]) (σ' := σ2) rfl ?_
        refine am_reta rfl rfl (Or.inr ⟨_, rfl⟩) ?_
        show am_G _ M_X9_ring _ 63 [some (.ref 41), some (.int (nI 0)), some (.int (nI u)), some (.ref 73)] [.ref (σ2.2 73 1), .ref 77] σ2
        refine am_run 1 (pc' := 64) (ls' := [some (.ref 41), some (.int (nI 0)), some (.int (nI u)), some (.ref 73)]) (st' := [.ref 73, .ref (σ2.2 73 1), .ref 77]) (σ' := σ2) rfl ?_
        refine am_invv (y := 67) (b := 73) (as := []) (rest := [.ref (σ2.2 73 1), .ref 77]) rfl rfl rfl rfl rfl rfl rfl (Nat.le_of_ble_eq_true rfl) ?_
        refine am_enter' rfl rfl rfl (by omega) (ls := [some (.ref 73)]) rfl (fun d_7 hd_7 => ?_)
        refine am_run 2 (pc' := 4) (ls' := [some (.ref 73)]) (st' := [.int (σ2.1 73 3)]) (σ' := σ2) rfl ?_
        refine am_top (v' := nI s) a32 ?_
        refine am_reti rfl rfl ?_
        show am_G _ M_X9_ring _ 67 [some (.ref 41), some (.int (nI 0)), some (.int (nI u)), some (.ref 73)] [.int (nI s), .ref (σ2.2 73 1), .ref 77] σ2
        refine am_invv (y := 63) (b := 77) (as := [.ref (σ2.2 73 1), .int (nI s)]) (rest := []) rfl rfl rfl rfl rfl rfl rfl (Nat.le_of_ble_eq_true rfl) ?_
        refine c_circle (by omega) hW hR2 (show r + 1 ≤ n by omega) hro2 hs b1 b2 (by omega) o0 o1 (by omega) ?_
        show am_G _ M_X9_ring _ 70 [some (.ref 41), some (.int (nI 0)), some (.int (nI u)), some (.ref 73)] [.int (nI (cir (rF p (r + 1) s w P A) 8 0 (itr (rF p (r + 1) s w P A) 8 (lw w))))] σ2
        refine am_reti rfl rfl ?_
        refine ⟨rfl, ?_⟩
        refine am_enter' (M := M_X10_ring) rfl rfl rfl (by omega) (ls := [some (.ref 0), some (.int (nI 0)), some (.int (nI u)), none, none, none, none, none, none]) rfl (fun d2 hd2 => ?_)
        refine am_run 2 (pc' := 2) (ls' := [some (.ref 0), some (.int (nI 0)), some (.int (nI u)), none, none, none, none, none, none]) (st' := [.int (nI 0), .ref 0]) (σ' := σ2) rfl ?_
        refine am_invv (y := 151) (b := 0) (as := [.int (nI 0)]) (rest := []) rfl rfl rfl rfl rfl rfl rfl (Nat.le_of_ble_eq_true rfl) ?_
        refine c_prog0_1 (by omega) (n := n) (by exact hn22) hn1 hn60 ?_
        show am_G _ M_X10_ring _ 5 [some (.ref 0), some (.int (nI 0)), some (.int (nI u)), none, none, none, none, none, none] [.int (nI 1)] σ2
        refine am_if (ty := 8) (tn := 11) rfl (by decide) rfl rfl (fun (h_101 : nI 1 = 0) => ?_) (fun (h_101 : ¬ (nI 1 = 0)) => ?_)
        · exact absurd h_101 (by decide)
        refine am_run 3 (pc' := 16) (ls' := [some (.ref 0), some (.int (nI 0)), some (.int (nI u)), none, none, none, none, none, none]) (st' := [.int (nI 255), .int (nI 0), .int (nI u)]) (σ' := σ2) rfl ?_
        refine am_invs (y := 148) (as := [.int (nI u), .int (nI 0), .int (nI 255)]) (rest := []) rfl rfl rfl rfl rfl rfl (Nat.le_of_ble_eq_true rfl) ?_
        refine c_in1 (by omega) (by omega) (by omega) (by omega) ?_
        show am_G _ M_X10_ring _ 19 [some (.ref 0), some (.int (nI 0)), some (.int (nI u)), none, none, none, none, none, none] [.int (nI 1)] σ2
        refine am_if (ty := 22) (tn := 25) rfl (by decide) rfl rfl (fun (h_102 : nI 1 = 0) => ?_) (fun (h_102 : ¬ (nI 1 = 0)) => ?_)
        · exact absurd h_102 (by decide)
        refine am_run 5 (pc' := 32) (ls' := [some (.ref 0), some (.int (nI 0)), some (.int (nI u)), none, none, none, none, none, none]) (st' := [.int (nI 0), .ref 17, .int (nI 0), .ref 0]) (σ' := σ2) rfl ?_
        refine am_ialdN (n := 2) (v := nI s) rfl rfl rfl (by decide) b32 (by decide) ?_
        refine am_run 1 (pc' := 34) (ls' := [some (.ref 0), some (.int (nI 0)), some (.int (nI u)), none, none, none, none, none, none]) (st' := [.int (nI u), .int (nI s), .int (nI 0), .ref 0]) (σ' := σ2) rfl ?_
        refine am_invv (y := 229) (b := 0) (as := [.int (nI 0), .int (nI s), .int (nI u)]) (rest := []) rfl rfl rfl rfl rfl rfl rfl (Nat.le_of_ble_eq_true rfl) ?_
        refine c_settles0 (by omega) hM2 hs hv.2 hu hz hw0 (fun σ3 hS i38 i39 i40 i41 i29 => ?_)
        show am_G _ M_X10_ring _ 37 [some (.ref 0), some (.int (nI 0)), some (.int (nI u)), none, none, none, none, none, none] [.int (nI 0)] σ3
        refine am_run 2 (pc' := 39) (ls' := [some (.ref 0), some (.int (nI 0)), some (.int (nI u)), some (.int (nI 0)), none, none, none, none, none]) (st' := [.int (nI 0)]) (σ' := σ3) rfl ?_
        refine am_if (ty := 42) (tn := 53) rfl (by decide) rfl rfl (fun (h_103 : nI 0 = 0) => ?_) (fun (h_103 : ¬ (nI 0 = 0)) => ?_)
        rotate_left
        · exact absurd (by decide) h_103
        refine am_run 2 (pc' := 46) (ls' := [some (.ref 0), some (.int (nI 0)), some (.int (nI u)), some (.int (nI 0)), none, none, none, none, none]) (st' := [.int (σ3.1 0 41)]) (σ' := σ3) rfl ?_
        refine am_top (v' := nI w) i41 ?_
        refine am_run 2 (pc' := 50) (ls' := [some (.ref 0), some (.int (nI 0)), some (.int (nI u)), some (.int (nI 0)), none, none, none, none, none]) (st' := [.int (nI w &&& nI 255)]) (σ' := σ3) rfl ?_
        refine am_top (v' := nI w) (by rw [show nI 255 = nI (256 - 1) from rfl, nx_mask (k := 8) _ rfl, Nat.mod_eq_of_lt (by omega)]) ?_
        refine am_if (ty := 53) (tn := 55) rfl (by decide) rfl rfl (fun (h_104 : nI w = 0) => ?_) (fun (h_104 : ¬ (nI w = 0)) => ?_)
        · have h_104 : w = 0 := (am_n0 (by omega)).mp h_104
          omega
        have h_104 : ¬ (w = 0) := fun z => h_104 ((am_n0 (by omega)).mpr z)
        refine am_run 6 (pc' := 65) (ls' := [some (.ref 0), some (.int (nI 0)), some (.int (nI u)), some (.int (nI 0)), some (.int (nI 0)), some (.int (nI 0)), none, none, none]) (st' := [.int (σ3.1 0 41)]) (σ' := σ3) rfl ?_
        refine am_top (v' := nI w) i41 ?_
        refine am_invs (y := 238) (as := [.int (nI w)]) (rest := []) rfl rfl rfl rfl rfl rfl (Nat.le_of_ble_eq_true rfl) ?_
        refine c_least (by omega) (by omega) ?_
        show am_G _ M_X10_ring _ 68 [some (.ref 0), some (.int (nI 0)), some (.int (nI u)), some (.int (nI 0)), some (.int (nI 0)), some (.int (nI 0)), none, none, none] [.int (oI (lw w))] σ3
        refine am_run 1 (pc' := 70) (ls' := [some (.ref 0), some (.int (nI 0)), some (.int (nI u)), some (.int (nI 0)), some (.int (nI 0)), some (.int (nI 0)), some (.int (oI (lw w))), none, none]) (st' := []) (σ' := σ3) rfl ?_
        have eW : (rF p (r + 1) s (dn 255 (P ||| A)) P A) = (rF p (r + 1) s w P A) := by rw [← ew]
        refine c_ring_walk (by omega) (hM2.keep hS.1) hs (hv.2.resolve_left hs0) hdj0 b1 b2 (q0 := lw w) (lw_le w) (fun c1 S σ4 hc8 hJ hwk hzk hend => ?_) 9 0 0 σ3 rfl (by decide) rfl (fun l => ⟨fun z => (by rw [Nat.zero_testBit] at z; cases z), fun ⟨i, z, _⟩ => absurd z (Nat.not_lt_zero _)⟩) ⟨fun c _ _ _ _ _ => rfl, fun _ _ => rfl, rfl, i38, i39, i29⟩ (fun k z => absurd z (Nat.not_lt_zero _)) (fun k z => absurd z (Nat.not_lt_zero _))
        rw [eW] at hwk hzk hend ⊢
        have hx8 : ∀ k, itr (rF p (r + 1) s w P A) k (lw w) ≤ 8 := fun k => by
          cases k with
          | zero => exact lw_le w
          | succ k => exact rF_le _ _ _ _ _ _ _
        by_cases hy0 : itr (rF p (r + 1) s w P A) c1 (lw w) = 0
        · have e8 : itr (rF p (r + 1) s w P A) 8 (lw w) = 0 := by rw [show 8 = (8 - c1) + c1 by omega, itr_add, hy0, itr_0 rfl]
          rw [hy0, oI_0]
          refine am_run 2 (pc' := 124) (ls' := [some (.ref 0), some (.int (nI 0)), some (.int (nI u)), some (.int (nI 0)), some (.int (nI S)), some (.int (nI c1)), some (.int (-1)), none, none]) (st' := [.int (-1), .int (-1)]) (σ' := σ4) rfl ?_
          refine am_ic (ty := 127) (tn := 129) rfl (by decide) rfl rfl (fun (h_301 : -1 = -1) => ?_) (fun (h_301 : ¬ (-1 = -1)) => ?_)
          rotate_left
          · exact absurd (by decide) h_301
          refine am_run 1 (pc' := 128) (ls' := [some (.ref 0), some (.int (nI 0)), some (.int (nI u)), some (.int (nI 0)), some (.int (nI S)), some (.int (nI c1)), some (.int (-1)), none, none]) (st' := [.int (nI 0)]) (σ' := σ4) rfl ?_
          refine am_reti rfl rfl ?_
          exact ⟨by rw [e8, cir_0], ((hK.KI (Or.inl rfl)).tr (hS.KI.tr hJ.KI)).inv hI⟩
        · obtain ⟨i, hi1, hi2, hi3⟩ := last_ex (P := fun i => itr (rF p (r + 1) s w P A) i (lw w) = itr (rF p (r + 1) s w P A) c1 (lw w)) (fun i => Decidable.em _) c1 (by
            obtain ⟨i, h1, h2⟩ := hend.resolve_left hy0
            exact ⟨i, h1, h2.symm⟩)
          have hi2 : itr (rF p (r + 1) s w P A) i (lw w) = itr (rF p (r + 1) s w P A) c1 (lw w) := hi2
          have hzn : ∀ k, k ≤ c1 → itr (rF p (r + 1) s w P A) k (lw w) ≠ 0 := fun k hk => by
            by_cases z : k = c1
            · rw [z]; exact hy0
            · exact hzk k (by omega)
          have hx8c := hx8 c1
          generalize hy : itr (rF p (r + 1) s w P A) c1 (lw w) = yy at hy0 hi2 hi3 hx8c
          obtain ⟨g, rfl⟩ : ∃ g, yy = g + 1 := ⟨yy - 1, by omega⟩
          have hg : g < 8 := by omega
          rw [oI_s]
          refine am_run 2 (pc' := 124) (ls' := [some (.ref 0), some (.int (nI 0)), some (.int (nI u)), some (.int (nI 0)), some (.int (nI S)), some (.int (nI c1)), some (.int (nI g)), none, none]) (st' := [.int (-1), .int (nI g)]) (σ' := σ4) rfl ?_
          refine am_ic (ty := 127) (tn := 129) rfl (by decide) rfl rfl (fun (h_301 : nI g = -1) => ?_) (fun (h_301 : ¬ (nI g = -1)) => ?_)
          · exact absurd h_301 (am_nm1 (by omega))
          refine am_run 4 (pc' := 135) (ls' := [some (.ref 0), some (.int (nI 0)), some (.int (nI u)), some (.int (nI 0)), some (.int (nI S)), some (.int (nI c1)), some (.int (nI g)), some (.int (nI 0)), some (.int (nI 0))]) (st' := []) (σ' := σ4) rfl ?_
          exact c_ring_set hc8 hg hwk (fun k hk => ⟨hzk k hk, hx8 k⟩) hi1 hi2 hi3 (y := lw w) (F := (rF p (r + 1) s w P A)) (Q := fun v'' σ'' => v'' = some (.int (nI (cir (rF p (r + 1) s w P A) 8 0 (itr (rF p (r + 1) s w P A) 8 (lw w))))) ∧ Inv σ'') ⟨by rw [ring_eq hi1 hc8 hzn (hy.trans hi2.symm)], ((hK.KI (Or.inl rfl)).tr (hS.KI.tr hJ.KI)).inv hI⟩ c1 0 0 (by omega) (by decide) (Or.inl (Nat.zero_le _))
    · skip
      refine ⟨-1000002, ?_⟩
      refine am_enter' (M := M_X9_ring) rfl rfl rfl (by omega) (ls := [some (.ref 41), some (.int (nI 0)), some (.int y), none]) rfl (fun d' hd' => ?_)
      refine am_run 2 (pc' := 2) (ls' := [some (.ref 41), some (.int (nI 0)), some (.int y), none]) (st' := [.int (nI 0), .ref 41]) (σ' := σ) rfl ?_
      refine am_invv (y := 140) (b := 41) (as := [.int (nI 0)]) (rest := []) rfl rfl rfl rfl rfl rfl rfl (Nat.le_of_ble_eq_true rfl) ?_
      refine c_filled0_1 (by omega) hf ?_
      show am_G _ M_X9_ring _ 5 [some (.ref 41), some (.int (nI 0)), some (.int y), none] [.ref 73] σ
      refine am_run 4 (pc' := 14) (ls' := [some (.ref 41), some (.int (nI 0)), some (.int y), some (.ref 73)]) (st' := [.int y]) (σ' := σ) rfl ?_
      refine am_invs (y := 141) (as := [.int y]) (rest := []) rfl rfl rfl rfl rfl rfl (Nat.le_of_ble_eq_true rfl) ?_
      refine c_sig0 (by omega) hy ?_
      show am_G _ M_X9_ring _ 17 [some (.ref 41), some (.int (nI 0)), some (.int y), some (.ref 73)] [.int (nI 0)] σ
      refine am_if (ty := 20) (tn := 23) rfl (by decide) rfl rfl (fun (h_1 : nI 0 = 0) => ?_) (fun (h_1 : ¬ (nI 0 = 0)) => ?_)
      rotate_left
      · exact absurd (by decide) h_1
      refine am_run 1 (pc' := 22) (ls' := [some (.ref 41), some (.int (nI 0)), some (.int y), some (.ref 73)]) (st' := [.int (-1000002)]) (σ' := σ) rfl ?_
      refine am_reti rfl rfl ?_
      refine ⟨rfl, ?_⟩
      refine am_enter' (M := M_X10_ring) rfl rfl rfl (by omega) (ls := [some (.ref 0), some (.int (nI 0)), some (.int y), none, none, none, none, none, none]) rfl (fun d2 hd2 => ?_)
      refine am_run 2 (pc' := 2) (ls' := [some (.ref 0), some (.int (nI 0)), some (.int y), none, none, none, none, none, none]) (st' := [.int (nI 0), .ref 0]) (σ' := σ) rfl ?_
      refine am_invv (y := 151) (b := 0) (as := [.int (nI 0)]) (rest := []) rfl rfl rfl rfl rfl rfl rfl (Nat.le_of_ble_eq_true rfl) ?_
      refine c_prog0_1 (by omega) (n := n) (by exact hn2) hn1 hn60 ?_
      show am_G _ M_X10_ring _ 5 [some (.ref 0), some (.int (nI 0)), some (.int y), none, none, none, none, none, none] [.int (nI 1)] σ
      refine am_if (ty := 8) (tn := 11) rfl (by decide) rfl rfl (fun (h_101 : nI 1 = 0) => ?_) (fun (h_101 : ¬ (nI 1 = 0)) => ?_)
      · exact absurd h_101 (by decide)
      refine am_run 3 (pc' := 16) (ls' := [some (.ref 0), some (.int (nI 0)), some (.int y), none, none, none, none, none, none]) (st' := [.int (nI 255), .int (nI 0), .int y]) (σ' := σ) rfl ?_
      refine am_invs (y := 148) (as := [.int y, .int (nI 0), .int (nI 255)]) (rest := []) rfl rfl rfl rfl rfl rfl (Nat.le_of_ble_eq_true rfl) ?_
      refine c_in0 (by omega) hy ?_
      show am_G _ M_X10_ring _ 19 [some (.ref 0), some (.int (nI 0)), some (.int y), none, none, none, none, none, none] [.int (nI 0)] σ
      refine am_if (ty := 22) (tn := 25) rfl (by decide) rfl rfl (fun (h_102 : nI 0 = 0) => ?_) (fun (h_102 : ¬ (nI 0 = 0)) => ?_)
      rotate_left
      · exact absurd (by decide) h_102
      refine am_run 1 (pc' := 24) (ls' := [some (.ref 0), some (.int (nI 0)), some (.int y), none, none, none, none, none, none]) (st' := [.int (-1000002)]) (σ' := σ) rfl ?_
      refine am_reti rfl rfl ?_
      exact ⟨rfl, hI⟩
  · obtain ⟨hf, p, n, r, kk, rk, od, dp, ow, s, m, hP, hH⟩ := hF
    obtain ⟨hn1, hR, hro, hM, hk1, hk2, hkk, hND⟩ := id hP
    obtain ⟨a3, b3, hv, a4, b4, hm, hh⟩ := id hH
    have hW := hM.1.2.1
    have hn60 := hW.1
    have hs := hv.1
    have hrn : r < n := hM.2.1.2.1
    have hn2 := hM.1.2.2.2.1
    rcases i32_in y (k := 255) (by decide) with ⟨u, hu0, rfl⟩ | hy
    · have hu : u < 256 := by omega
      obtain ⟨b1, b2, b3_, b4_, b5_, b6_⟩ := oc_b (s := s) hW (show r + 1 ≤ n by omega) hu
      have hnv := oc_vs hM s hu
      have hdj0 := oc_ri (s := s) (u := u) hW (show r + 1 ≤ n by omega)
      have hw3 := oc_w p (r + 1) s u
      generalize hz : oc p (r + 1) s u = z0 at b1 b2 b3_ b4_ b5_ b6_ hnv hdj0 hw3
      obtain ⟨P, A, w, c, nx, rd⟩ := z0
      have b1 : P < 256 := b1
      have b2 : A < 256 := b2
      have b3_ : w ≤ 256 := b3_
      have b4_ : c ≤ 6 := b4_
      have b5_ : nx < 1048576 := b5_
      have b6_ : rd ≤ 9 := b6_
      have hnv : VS p r nx := hnv
      have hdj0 : dj P A := hdj0
      have hw3 : w = 0 ∨ w = 256 ∨ (w = dn 255 (P ||| A) ∧ ¬ w = 0 ∧ ¬ s = 0) := hw3
      rcases hw3 with rfl | rfl | ⟨ew, hw0, hs0⟩
      · skip
        refine ⟨-1, ?_⟩
        refine am_enter' (M := M_X9_ring) rfl rfl rfl (by omega) (ls := [some (.ref 41), some (.int (nI 1)), some (.int (nI u)), none]) rfl (fun d' hd' => ?_)
        refine am_run 2 (pc' := 2) (ls' := [some (.ref 41), some (.int (nI 1)), some (.int (nI u)), none]) (st' := [.int (nI 1), .ref 41]) (σ' := σ) rfl ?_
        refine am_invv (y := 140) (b := 41) (as := [.int (nI 1)]) (rest := []) rfl rfl rfl rfl rfl rfl rfl (Nat.le_of_ble_eq_true rfl) ?_
        refine c_filled1_1 (by omega) hf ?_
        show am_G _ M_X9_ring _ 5 [some (.ref 41), some (.int (nI 1)), some (.int (nI u)), none] [.ref 75] σ
        refine am_run 4 (pc' := 14) (ls' := [some (.ref 41), some (.int (nI 1)), some (.int (nI u)), some (.ref 75)]) (st' := [.int (nI u)]) (σ' := σ) rfl ?_
        refine am_invs (y := 141) (as := [.int (nI u)]) (rest := []) rfl rfl rfl rfl rfl rfl (Nat.le_of_ble_eq_true rfl) ?_
        refine c_sig1 (by omega) (by omega) ?_
        show am_G _ M_X9_ring _ 17 [some (.ref 41), some (.int (nI 1)), some (.int (nI u)), some (.ref 75)] [.int (nI 1)] σ
        refine am_if (ty := 20) (tn := 23) rfl (by decide) rfl rfl (fun (h_1 : nI 1 = 0) => ?_) (fun (h_1 : ¬ (nI 1 = 0)) => ?_)
        · exact absurd h_1 (by decide)
        refine am_run 3 (pc' := 28) (ls' := [some (.ref 41), some (.int (nI 1)), some (.int (nI u)), some (.ref 75)]) (st' := [.ref 75, .ref 77]) (σ' := σ) rfl ?_
        refine am_invv (y := 66) (b := 75) (as := []) (rest := [.ref 77]) rfl rfl rfl rfl rfl rfl rfl (Nat.le_of_ble_eq_true rfl) ?_
        refine am_enter' rfl rfl rfl (by omega) (ls := [some (.ref 75)]) rfl (fun d_2 hd_2 => ?_)
        refine am_run 2 (pc' := 4) (ls' := [some (.ref 75)]) (st' := [.ref (σ.2 75 1)]) (σ' := σ) rfl ?_
        refine am_reta rfl rfl (Or.inr ⟨_, rfl⟩) ?_
        show am_G _ M_X9_ring _ 31 [some (.ref 41), some (.int (nI 1)), some (.int (nI u)), some (.ref 75)] [.ref (σ.2 75 1), .ref 77] σ
        refine am_run 1 (pc' := 32) (ls' := [some (.ref 41), some (.int (nI 1)), some (.int (nI u)), some (.ref 75)]) (st' := [.ref 75, .ref (σ.2 75 1), .ref 77]) (σ' := σ) rfl ?_
        refine am_invv (y := 67) (b := 75) (as := []) (rest := [.ref (σ.2 75 1), .ref 77]) rfl rfl rfl rfl rfl rfl rfl (Nat.le_of_ble_eq_true rfl) ?_
        refine am_enter' rfl rfl rfl (by omega) (ls := [some (.ref 75)]) rfl (fun d_3 hd_3 => ?_)
        refine am_run 2 (pc' := 4) (ls' := [some (.ref 75)]) (st' := [.int (σ.1 75 3)]) (σ' := σ) rfl ?_
        refine am_top (v' := nI s) a3 ?_
        refine am_reti rfl rfl ?_
        show am_G _ M_X9_ring _ 35 [some (.ref 41), some (.int (nI 1)), some (.int (nI u)), some (.ref 75)] [.int (nI s), .ref (σ.2 75 1), .ref 77] σ
        refine am_run 1 (pc' := 36) (ls' := [some (.ref 41), some (.int (nI 1)), some (.int (nI u)), some (.ref 75)]) (st' := [.int (nI u), .int (nI s), .ref (σ.2 75 1), .ref 77]) (σ' := σ) rfl ?_
        refine am_invv (y := 56) (b := 77) (as := [.ref (σ.2 75 1), .int (nI s), .int (nI u)]) (rest := []) rfl rfl rfl rfl rfl rfl rfl (Nat.le_of_ble_eq_true rfl) ?_
        refine c_determine (by omega) hW hR (show r + 1 ≤ n by omega) hro (Or.inl rfl) hs hu (fun σ2 hK hO => ?_)
        rw [hz] at hO
        obtain ⟨o0, o1, o2, o3, o4⟩ : σ2.1 77 0 = nI (P + 256 * A) ∧ σ2.1 77 1 = nI 0 ∧ σ2.1 77 2 = nI c ∧ σ2.1 77 3 = nI nx ∧ σ2.1 77 4 = nI rd := hO
        have hM2 := hM.keep2 (σ' := σ2) (fun c a => hK.1 c (by omega))
        have b32 : σ2.1 17 1 = nI s := by rw [hK.1 17 (by decide)]; exact b3
        have hn22 : σ2.1 2 1 = nI n := hM2.1.2.2.2.1
        have a32 : σ2.1 75 3 = nI s := by rw [hK.1 75 (by decide)]; exact a3
        have hR2 : TR σ2 (σ2.2 75 1) p n := by rw [hK.2]; exact hK.TR (Or.inl rfl) hR
        have hro2 : ROOT σ2 (σ2.2 75 1) (r + 1) := by
          unfold ROOT
          rw [hK.2, hK.1 _ (by have := hR.t3; unfold T3 at this; omega)]
          exact hro
        show am_G _ M_X9_ring _ 39 [some (.ref 41), some (.int (nI 1)), some (.int (nI u)), some (.ref 75)] [] σ2
        refine am_run 2 (pc' := 43) (ls' := [some (.ref 41), some (.int (nI 1)), some (.int (nI u)), some (.ref 75)]) (st' := [.ref 77]) (σ' := σ2) rfl ?_
        refine am_invv (y := 51) (b := 77) (as := []) (rest := []) rfl rfl rfl rfl rfl rfl rfl (Nat.le_of_ble_eq_true rfl) ?_
        refine am_enter' rfl rfl rfl (by omega) (ls := [some (.ref 77)]) rfl (fun d_4 hd_4 => ?_)
        refine am_run 2 (pc' := 4) (ls' := [some (.ref 77)]) (st' := [.int (σ2.1 77 1)]) (σ' := σ2) rfl ?_
        refine am_top (v' := nI 0) o1 ?_
        refine am_reti rfl rfl ?_
        show am_G _ M_X9_ring _ 46 [some (.ref 41), some (.int (nI 1)), some (.int (nI u)), some (.ref 75)] [.int (nI 0)] σ2
        refine am_run 2 (pc' := 50) (ls' := [some (.ref 41), some (.int (nI 1)), some (.int (nI u)), some (.ref 75)]) (st' := [.int (nI 0 &&& nI 255)]) (σ' := σ2) rfl ?_
        refine am_top (v' := nI 0) (by decide) ?_
        refine am_if (ty := 53) (tn := 55) rfl (by decide) rfl rfl (fun (h_5 : nI 0 = 0) => ?_) (fun (h_5 : ¬ (nI 0 = 0)) => ?_)
        rotate_left
        · exact absurd (by decide) h_5
        refine am_run 1 (pc' := 54) (ls' := [some (.ref 41), some (.int (nI 1)), some (.int (nI u)), some (.ref 75)]) (st' := [.int (-1)]) (σ' := σ2) rfl ?_
        refine am_reti rfl rfl ?_
        refine ⟨rfl, ?_⟩
        refine am_enter' (M := M_X10_ring) rfl rfl rfl (by omega) (ls := [some (.ref 0), some (.int (nI 1)), some (.int (nI u)), none, none, none, none, none, none]) rfl (fun d2 hd2 => ?_)
        refine am_run 2 (pc' := 2) (ls' := [some (.ref 0), some (.int (nI 1)), some (.int (nI u)), none, none, none, none, none, none]) (st' := [.int (nI 1), .ref 0]) (σ' := σ2) rfl ?_
        refine am_invv (y := 151) (b := 0) (as := [.int (nI 1)]) (rest := []) rfl rfl rfl rfl rfl rfl rfl (Nat.le_of_ble_eq_true rfl) ?_
        refine c_prog1_1 (by omega) (n := n) (by exact hn22) hn1 hn60 ?_
        show am_G _ M_X10_ring _ 5 [some (.ref 0), some (.int (nI 1)), some (.int (nI u)), none, none, none, none, none, none] [.int (nI 1)] σ2
        refine am_if (ty := 8) (tn := 11) rfl (by decide) rfl rfl (fun (h_101 : nI 1 = 0) => ?_) (fun (h_101 : ¬ (nI 1 = 0)) => ?_)
        · exact absurd h_101 (by decide)
        refine am_run 3 (pc' := 16) (ls' := [some (.ref 0), some (.int (nI 1)), some (.int (nI u)), none, none, none, none, none, none]) (st' := [.int (nI 255), .int (nI 0), .int (nI u)]) (σ' := σ2) rfl ?_
        refine am_invs (y := 148) (as := [.int (nI u), .int (nI 0), .int (nI 255)]) (rest := []) rfl rfl rfl rfl rfl rfl (Nat.le_of_ble_eq_true rfl) ?_
        refine c_in1 (by omega) (by omega) (by omega) (by omega) ?_
        show am_G _ M_X10_ring _ 19 [some (.ref 0), some (.int (nI 1)), some (.int (nI u)), none, none, none, none, none, none] [.int (nI 1)] σ2
        refine am_if (ty := 22) (tn := 25) rfl (by decide) rfl rfl (fun (h_102 : nI 1 = 0) => ?_) (fun (h_102 : ¬ (nI 1 = 0)) => ?_)
        · exact absurd h_102 (by decide)
        refine am_run 5 (pc' := 32) (ls' := [some (.ref 0), some (.int (nI 1)), some (.int (nI u)), none, none, none, none, none, none]) (st' := [.int (nI 1), .ref 17, .int (nI 1), .ref 0]) (σ' := σ2) rfl ?_
        refine am_ialdN (n := 2) (v := nI s) rfl rfl rfl (by decide) b32 (by decide) ?_
        refine am_run 1 (pc' := 34) (ls' := [some (.ref 0), some (.int (nI 1)), some (.int (nI u)), none, none, none, none, none, none]) (st' := [.int (nI u), .int (nI s), .int (nI 1), .ref 0]) (σ' := σ2) rfl ?_
        refine am_invv (y := 229) (b := 0) (as := [.int (nI 1), .int (nI s), .int (nI u)]) (rest := []) rfl rfl rfl rfl rfl rfl rfl (Nat.le_of_ble_eq_true rfl) ?_
        refine c_settles1 (by omega) hM2 hs hv.2 hu hz (fun σ3 hS i38 i39 i40 i41 i42 i43 i44 i29 => ?_)
        show am_G _ M_X10_ring _ 37 [some (.ref 0), some (.int (nI 1)), some (.int (nI u)), none, none, none, none, none, none] [.int (nI 1)] σ3
        refine am_run 2 (pc' := 39) (ls' := [some (.ref 0), some (.int (nI 1)), some (.int (nI u)), some (.int (nI 1)), none, none, none, none, none]) (st' := [.int (nI 1)]) (σ' := σ3) rfl ?_
        refine am_if (ty := 42) (tn := 53) rfl (by decide) rfl rfl (fun (h_103 : nI 1 = 0) => ?_) (fun (h_103 : ¬ (nI 1 = 0)) => ?_)
        · exact absurd h_103 (by decide)
        refine am_run 1 (pc' := 54) (ls' := [some (.ref 0), some (.int (nI 1)), some (.int (nI u)), some (.int (nI 1)), none, none, none, none, none]) (st' := [.int (-1)]) (σ' := σ3) rfl ?_
        refine am_reti rfl rfl ?_
        exact ⟨rfl, ((hK.KI (Or.inl rfl)).tr hS.KI).inv hI⟩
      · have hw0 : ¬ (256 : Nat) = 0 := by decide
        refine ⟨-1, ?_⟩
        refine am_enter' (M := M_X9_ring) rfl rfl rfl (by omega) (ls := [some (.ref 41), some (.int (nI 1)), some (.int (nI u)), none]) rfl (fun d' hd' => ?_)
        refine am_run 2 (pc' := 2) (ls' := [some (.ref 41), some (.int (nI 1)), some (.int (nI u)), none]) (st' := [.int (nI 1), .ref 41]) (σ' := σ) rfl ?_
        refine am_invv (y := 140) (b := 41) (as := [.int (nI 1)]) (rest := []) rfl rfl rfl rfl rfl rfl rfl (Nat.le_of_ble_eq_true rfl) ?_
        refine c_filled1_1 (by omega) hf ?_
        show am_G _ M_X9_ring _ 5 [some (.ref 41), some (.int (nI 1)), some (.int (nI u)), none] [.ref 75] σ
        refine am_run 4 (pc' := 14) (ls' := [some (.ref 41), some (.int (nI 1)), some (.int (nI u)), some (.ref 75)]) (st' := [.int (nI u)]) (σ' := σ) rfl ?_
        refine am_invs (y := 141) (as := [.int (nI u)]) (rest := []) rfl rfl rfl rfl rfl rfl (Nat.le_of_ble_eq_true rfl) ?_
        refine c_sig1 (by omega) (by omega) ?_
        show am_G _ M_X9_ring _ 17 [some (.ref 41), some (.int (nI 1)), some (.int (nI u)), some (.ref 75)] [.int (nI 1)] σ
        refine am_if (ty := 20) (tn := 23) rfl (by decide) rfl rfl (fun (h_1 : nI 1 = 0) => ?_) (fun (h_1 : ¬ (nI 1 = 0)) => ?_)
        · exact absurd h_1 (by decide)
        refine am_run 3 (pc' := 28) (ls' := [some (.ref 41), some (.int (nI 1)), some (.int (nI u)), some (.ref 75)]) (st' := [.ref 75, .ref 77]) (σ' := σ) rfl ?_
        refine am_invv (y := 66) (b := 75) (as := []) (rest := [.ref 77]) rfl rfl rfl rfl rfl rfl rfl (Nat.le_of_ble_eq_true rfl) ?_
        refine am_enter' rfl rfl rfl (by omega) (ls := [some (.ref 75)]) rfl (fun d_2 hd_2 => ?_)
        refine am_run 2 (pc' := 4) (ls' := [some (.ref 75)]) (st' := [.ref (σ.2 75 1)]) (σ' := σ) rfl ?_
        refine am_reta rfl rfl (Or.inr ⟨_, rfl⟩) ?_
        show am_G _ M_X9_ring _ 31 [some (.ref 41), some (.int (nI 1)), some (.int (nI u)), some (.ref 75)] [.ref (σ.2 75 1), .ref 77] σ
        refine am_run 1 (pc' := 32) (ls' := [some (.ref 41), some (.int (nI 1)), some (.int (nI u)), some (.ref 75)]) (st' := [.ref 75, .ref (σ.2 75 1), .ref 77]) (σ' := σ) rfl ?_
        refine am_invv (y := 67) (b := 75) (as := []) (rest := [.ref (σ.2 75 1), .ref 77]) rfl rfl rfl rfl rfl rfl rfl (Nat.le_of_ble_eq_true rfl) ?_
        refine am_enter' rfl rfl rfl (by omega) (ls := [some (.ref 75)]) rfl (fun d_3 hd_3 => ?_)
        refine am_run 2 (pc' := 4) (ls' := [some (.ref 75)]) (st' := [.int (σ.1 75 3)]) (σ' := σ) rfl ?_
        refine am_top (v' := nI s) a3 ?_
        refine am_reti rfl rfl ?_
        show am_G _ M_X9_ring _ 35 [some (.ref 41), some (.int (nI 1)), some (.int (nI u)), some (.ref 75)] [.int (nI s), .ref (σ.2 75 1), .ref 77] σ
        refine am_run 1 (pc' := 36) (ls' := [some (.ref 41), some (.int (nI 1)), some (.int (nI u)), some (.ref 75)]) (st' := [.int (nI u), .int (nI s), .ref (σ.2 75 1), .ref 77]) (σ' := σ) rfl ?_
        refine am_invv (y := 56) (b := 77) (as := [.ref (σ.2 75 1), .int (nI s), .int (nI u)]) (rest := []) rfl rfl rfl rfl rfl rfl rfl (Nat.le_of_ble_eq_true rfl) ?_
        refine c_determine (by omega) hW hR (show r + 1 ≤ n by omega) hro (Or.inl rfl) hs hu (fun σ2 hK hO => ?_)
        rw [hz] at hO
        obtain ⟨o0, o1, o2, o3, o4⟩ : σ2.1 77 0 = nI (P + 256 * A) ∧ σ2.1 77 1 = nI 256 ∧ σ2.1 77 2 = nI c ∧ σ2.1 77 3 = nI nx ∧ σ2.1 77 4 = nI rd := hO
        have hM2 := hM.keep2 (σ' := σ2) (fun c a => hK.1 c (by omega))
        have b32 : σ2.1 17 1 = nI s := by rw [hK.1 17 (by decide)]; exact b3
        have hn22 : σ2.1 2 1 = nI n := hM2.1.2.2.2.1
        have a32 : σ2.1 75 3 = nI s := by rw [hK.1 75 (by decide)]; exact a3
        have hR2 : TR σ2 (σ2.2 75 1) p n := by rw [hK.2]; exact hK.TR (Or.inl rfl) hR
        have hro2 : ROOT σ2 (σ2.2 75 1) (r + 1) := by
          unfold ROOT
          rw [hK.2, hK.1 _ (by have := hR.t3; unfold T3 at this; omega)]
          exact hro
        show am_G _ M_X9_ring _ 39 [some (.ref 41), some (.int (nI 1)), some (.int (nI u)), some (.ref 75)] [] σ2
        refine am_run 2 (pc' := 43) (ls' := [some (.ref 41), some (.int (nI 1)), some (.int (nI u)), some (.ref 75)]) (st' := [.ref 77]) (σ' := σ2) rfl ?_
        refine am_invv (y := 51) (b := 77) (as := []) (rest := []) rfl rfl rfl rfl rfl rfl rfl (Nat.le_of_ble_eq_true rfl) ?_
        refine am_enter' rfl rfl rfl (by omega) (ls := [some (.ref 77)]) rfl (fun d_4 hd_4 => ?_)
        refine am_run 2 (pc' := 4) (ls' := [some (.ref 77)]) (st' := [.int (σ2.1 77 1)]) (σ' := σ2) rfl ?_
        refine am_top (v' := nI 256) o1 ?_
        refine am_reti rfl rfl ?_
        show am_G _ M_X9_ring _ 46 [some (.ref 41), some (.int (nI 1)), some (.int (nI u)), some (.ref 75)] [.int (nI 256)] σ2
        refine am_run 2 (pc' := 50) (ls' := [some (.ref 41), some (.int (nI 1)), some (.int (nI u)), some (.ref 75)]) (st' := [.int (nI 256 &&& nI 255)]) (σ' := σ2) rfl ?_
        refine am_top (v' := nI 0) (by decide) ?_
        refine am_if (ty := 53) (tn := 55) rfl (by decide) rfl rfl (fun (h_5 : nI 0 = 0) => ?_) (fun (h_5 : ¬ (nI 0 = 0)) => ?_)
        rotate_left
        · exact absurd (by decide) h_5
        refine am_run 1 (pc' := 54) (ls' := [some (.ref 41), some (.int (nI 1)), some (.int (nI u)), some (.ref 75)]) (st' := [.int (-1)]) (σ' := σ2) rfl ?_
        refine am_reti rfl rfl ?_
        refine ⟨rfl, ?_⟩
        refine am_enter' (M := M_X10_ring) rfl rfl rfl (by omega) (ls := [some (.ref 0), some (.int (nI 1)), some (.int (nI u)), none, none, none, none, none, none]) rfl (fun d2 hd2 => ?_)
        refine am_run 2 (pc' := 2) (ls' := [some (.ref 0), some (.int (nI 1)), some (.int (nI u)), none, none, none, none, none, none]) (st' := [.int (nI 1), .ref 0]) (σ' := σ2) rfl ?_
        refine am_invv (y := 151) (b := 0) (as := [.int (nI 1)]) (rest := []) rfl rfl rfl rfl rfl rfl rfl (Nat.le_of_ble_eq_true rfl) ?_
        refine c_prog1_1 (by omega) (n := n) (by exact hn22) hn1 hn60 ?_
        show am_G _ M_X10_ring _ 5 [some (.ref 0), some (.int (nI 1)), some (.int (nI u)), none, none, none, none, none, none] [.int (nI 1)] σ2
        refine am_if (ty := 8) (tn := 11) rfl (by decide) rfl rfl (fun (h_101 : nI 1 = 0) => ?_) (fun (h_101 : ¬ (nI 1 = 0)) => ?_)
        · exact absurd h_101 (by decide)
        refine am_run 3 (pc' := 16) (ls' := [some (.ref 0), some (.int (nI 1)), some (.int (nI u)), none, none, none, none, none, none]) (st' := [.int (nI 255), .int (nI 0), .int (nI u)]) (σ' := σ2) rfl ?_
        refine am_invs (y := 148) (as := [.int (nI u), .int (nI 0), .int (nI 255)]) (rest := []) rfl rfl rfl rfl rfl rfl (Nat.le_of_ble_eq_true rfl) ?_
        refine c_in1 (by omega) (by omega) (by omega) (by omega) ?_
        show am_G _ M_X10_ring _ 19 [some (.ref 0), some (.int (nI 1)), some (.int (nI u)), none, none, none, none, none, none] [.int (nI 1)] σ2
        refine am_if (ty := 22) (tn := 25) rfl (by decide) rfl rfl (fun (h_102 : nI 1 = 0) => ?_) (fun (h_102 : ¬ (nI 1 = 0)) => ?_)
        · exact absurd h_102 (by decide)
        refine am_run 5 (pc' := 32) (ls' := [some (.ref 0), some (.int (nI 1)), some (.int (nI u)), none, none, none, none, none, none]) (st' := [.int (nI 1), .ref 17, .int (nI 1), .ref 0]) (σ' := σ2) rfl ?_
        refine am_ialdN (n := 2) (v := nI s) rfl rfl rfl (by decide) b32 (by decide) ?_
        refine am_run 1 (pc' := 34) (ls' := [some (.ref 0), some (.int (nI 1)), some (.int (nI u)), none, none, none, none, none, none]) (st' := [.int (nI u), .int (nI s), .int (nI 1), .ref 0]) (σ' := σ2) rfl ?_
        refine am_invv (y := 229) (b := 0) (as := [.int (nI 1), .int (nI s), .int (nI u)]) (rest := []) rfl rfl rfl rfl rfl rfl rfl (Nat.le_of_ble_eq_true rfl) ?_
        refine c_settles0 (by omega) hM2 hs hv.2 hu hz hw0 (fun σ3 hS i38 i39 i40 i41 i29 => ?_)
        show am_G _ M_X10_ring _ 37 [some (.ref 0), some (.int (nI 1)), some (.int (nI u)), none, none, none, none, none, none] [.int (nI 0)] σ3
        refine am_run 2 (pc' := 39) (ls' := [some (.ref 0), some (.int (nI 1)), some (.int (nI u)), some (.int (nI 0)), none, none, none, none, none]) (st' := [.int (nI 0)]) (σ' := σ3) rfl ?_
        refine am_if (ty := 42) (tn := 53) rfl (by decide) rfl rfl (fun (h_103 : nI 0 = 0) => ?_) (fun (h_103 : ¬ (nI 0 = 0)) => ?_)
        rotate_left
        · exact absurd (by decide) h_103
        refine am_run 2 (pc' := 46) (ls' := [some (.ref 0), some (.int (nI 1)), some (.int (nI u)), some (.int (nI 0)), none, none, none, none, none]) (st' := [.int (σ3.1 0 41)]) (σ' := σ3) rfl ?_
        refine am_top (v' := nI 256) i41 ?_
        refine am_run 2 (pc' := 50) (ls' := [some (.ref 0), some (.int (nI 1)), some (.int (nI u)), some (.int (nI 0)), none, none, none, none, none]) (st' := [.int (nI 256 &&& nI 255)]) (σ' := σ3) rfl ?_
        refine am_top (v' := nI 0) (by decide) ?_
        refine am_if (ty := 53) (tn := 55) rfl (by decide) rfl rfl (fun (h_104 : nI 0 = 0) => ?_) (fun (h_104 : ¬ (nI 0 = 0)) => ?_)
        rotate_left
        · exact absurd (by decide) h_104
        refine am_run 1 (pc' := 54) (ls' := [some (.ref 0), some (.int (nI 1)), some (.int (nI u)), some (.int (nI 0)), none, none, none, none, none]) (st' := [.int (-1)]) (σ' := σ3) rfl ?_
        refine am_reti rfl rfl ?_
        exact ⟨rfl, ((hK.KI (Or.inl rfl)).tr hS.KI).inv hI⟩
      · have hwl : w ≤ 255 := by rw [ew]; exact dn_le _ _
        refine ⟨nI (cir (rF p (r + 1) s w P A) 8 0 (itr (rF p (r + 1) s w P A) 8 (lw w))), ?_⟩
        refine am_enter' (M := M_X9_ring) rfl rfl rfl (by omega) (ls := [some (.ref 41), some (.int (nI 1)), some (.int (nI u)), none]) rfl (fun d' hd' => ?_)
        refine am_run 2 (pc' := 2) (ls' := [some (.ref 41), some (.int (nI 1)), some (.int (nI u)), none]) (st' := [.int (nI 1), .ref 41]) (σ' := σ) rfl ?_
        refine am_invv (y := 140) (b := 41) (as := [.int (nI 1)]) (rest := []) rfl rfl rfl rfl rfl rfl rfl (Nat.le_of_ble_eq_true rfl) ?_
        refine c_filled1_1 (by omega) hf ?_
        show am_G _ M_X9_ring _ 5 [some (.ref 41), some (.int (nI 1)), some (.int (nI u)), none] [.ref 75] σ
        refine am_run 4 (pc' := 14) (ls' := [some (.ref 41), some (.int (nI 1)), some (.int (nI u)), some (.ref 75)]) (st' := [.int (nI u)]) (σ' := σ) rfl ?_
        refine am_invs (y := 141) (as := [.int (nI u)]) (rest := []) rfl rfl rfl rfl rfl rfl (Nat.le_of_ble_eq_true rfl) ?_
        refine c_sig1 (by omega) (by omega) ?_
        show am_G _ M_X9_ring _ 17 [some (.ref 41), some (.int (nI 1)), some (.int (nI u)), some (.ref 75)] [.int (nI 1)] σ
        refine am_if (ty := 20) (tn := 23) rfl (by decide) rfl rfl (fun (h_1 : nI 1 = 0) => ?_) (fun (h_1 : ¬ (nI 1 = 0)) => ?_)
        · exact absurd h_1 (by decide)
        refine am_run 3 (pc' := 28) (ls' := [some (.ref 41), some (.int (nI 1)), some (.int (nI u)), some (.ref 75)]) (st' := [.ref 75, .ref 77]) (σ' := σ) rfl ?_
        refine am_invv (y := 66) (b := 75) (as := []) (rest := [.ref 77]) rfl rfl rfl rfl rfl rfl rfl (Nat.le_of_ble_eq_true rfl) ?_
        refine am_enter' rfl rfl rfl (by omega) (ls := [some (.ref 75)]) rfl (fun d_2 hd_2 => ?_)
        refine am_run 2 (pc' := 4) (ls' := [some (.ref 75)]) (st' := [.ref (σ.2 75 1)]) (σ' := σ) rfl ?_
        refine am_reta rfl rfl (Or.inr ⟨_, rfl⟩) ?_
        show am_G _ M_X9_ring _ 31 [some (.ref 41), some (.int (nI 1)), some (.int (nI u)), some (.ref 75)] [.ref (σ.2 75 1), .ref 77] σ
        refine am_run 1 (pc' := 32) (ls' := [some (.ref 41), some (.int (nI 1)), some (.int (nI u)), some (.ref 75)]) (st' := [.ref 75, .ref (σ.2 75 1), .ref 77]) (σ' := σ) rfl ?_
        refine am_invv (y := 67) (b := 75) (as := []) (rest := [.ref (σ.2 75 1), .ref 77]) rfl rfl rfl rfl rfl rfl rfl (Nat.le_of_ble_eq_true rfl) ?_
        refine am_enter' rfl rfl rfl (by omega) (ls := [some (.ref 75)]) rfl (fun d_3 hd_3 => ?_)
        refine am_run 2 (pc' := 4) (ls' := [some (.ref 75)]) (st' := [.int (σ.1 75 3)]) (σ' := σ) rfl ?_
        refine am_top (v' := nI s) a3 ?_
        refine am_reti rfl rfl ?_
        show am_G _ M_X9_ring _ 35 [some (.ref 41), some (.int (nI 1)), some (.int (nI u)), some (.ref 75)] [.int (nI s), .ref (σ.2 75 1), .ref 77] σ
        refine am_run 1 (pc' := 36) (ls' := [some (.ref 41), some (.int (nI 1)), some (.int (nI u)), some (.ref 75)]) (st' := [.int (nI u), .int (nI s), .ref (σ.2 75 1), .ref 77]) (σ' := σ) rfl ?_
        refine am_invv (y := 56) (b := 77) (as := [.ref (σ.2 75 1), .int (nI s), .int (nI u)]) (rest := []) rfl rfl rfl rfl rfl rfl rfl (Nat.le_of_ble_eq_true rfl) ?_
        refine c_determine (by omega) hW hR (show r + 1 ≤ n by omega) hro (Or.inl rfl) hs hu (fun σ2 hK hO => ?_)
        rw [hz] at hO
        obtain ⟨o0, o1, o2, o3, o4⟩ : σ2.1 77 0 = nI (P + 256 * A) ∧ σ2.1 77 1 = nI w ∧ σ2.1 77 2 = nI c ∧ σ2.1 77 3 = nI nx ∧ σ2.1 77 4 = nI rd := hO
        have hM2 := hM.keep2 (σ' := σ2) (fun c a => hK.1 c (by omega))
        have b32 : σ2.1 17 1 = nI s := by rw [hK.1 17 (by decide)]; exact b3
        have hn22 : σ2.1 2 1 = nI n := hM2.1.2.2.2.1
        have a32 : σ2.1 75 3 = nI s := by rw [hK.1 75 (by decide)]; exact a3
        have hR2 : TR σ2 (σ2.2 75 1) p n := by rw [hK.2]; exact hK.TR (Or.inl rfl) hR
        have hro2 : ROOT σ2 (σ2.2 75 1) (r + 1) := by
          unfold ROOT
          rw [hK.2, hK.1 _ (by have := hR.t3; unfold T3 at this; omega)]
          exact hro
        show am_G _ M_X9_ring _ 39 [some (.ref 41), some (.int (nI 1)), some (.int (nI u)), some (.ref 75)] [] σ2
        refine am_run 2 (pc' := 43) (ls' := [some (.ref 41), some (.int (nI 1)), some (.int (nI u)), some (.ref 75)]) (st' := [.ref 77]) (σ' := σ2) rfl ?_
        refine am_invv (y := 51) (b := 77) (as := []) (rest := []) rfl rfl rfl rfl rfl rfl rfl (Nat.le_of_ble_eq_true rfl) ?_
        refine am_enter' rfl rfl rfl (by omega) (ls := [some (.ref 77)]) rfl (fun d_4 hd_4 => ?_)
        refine am_run 2 (pc' := 4) (ls' := [some (.ref 77)]) (st' := [.int (σ2.1 77 1)]) (σ' := σ2) rfl ?_
        refine am_top (v' := nI w) o1 ?_
        refine am_reti rfl rfl ?_
        show am_G _ M_X9_ring _ 46 [some (.ref 41), some (.int (nI 1)), some (.int (nI u)), some (.ref 75)] [.int (nI w)] σ2
        refine am_run 2 (pc' := 50) (ls' := [some (.ref 41), some (.int (nI 1)), some (.int (nI u)), some (.ref 75)]) (st' := [.int (nI w &&& nI 255)]) (σ' := σ2) rfl ?_
        refine am_top (v' := nI w) (by rw [show nI 255 = nI (256 - 1) from rfl, nx_mask (k := 8) _ rfl, Nat.mod_eq_of_lt (by omega)]) ?_
        refine am_if (ty := 53) (tn := 55) rfl (by decide) rfl rfl (fun (h_5 : nI w = 0) => ?_) (fun (h_5 : ¬ (nI w = 0)) => ?_)
        · have h_5 : w = 0 := (am_n0 (by omega)).mp h_5
          omega
        have h_5 : ¬ (w = 0) := fun z => h_5 ((am_n0 (by omega)).mpr z)
        refine am_run 3 (pc' := 60) (ls' := [some (.ref 41), some (.int (nI 1)), some (.int (nI u)), some (.ref 75)]) (st' := [.ref 75, .ref 77]) (σ' := σ2) rfl ?_
        refine am_invv (y := 66) (b := 75) (as := []) (rest := [.ref 77]) rfl rfl rfl rfl rfl rfl rfl (Nat.le_of_ble_eq_true rfl) ?_
        refine am_enter' rfl rfl rfl (by omega) (ls := [some (.ref 75)]) rfl (fun d_6 hd_6 => ?_)
        refine am_run 2 (pc' := 4) (ls' := [some (.ref 75)]) (st' := [.ref (σ2.2 75 1)]) (σ' := σ2) rfl ?_
        refine am_reta rfl rfl (Or.inr ⟨_, rfl⟩) ?_
        show am_G _ M_X9_ring _ 63 [some (.ref 41), some (.int (nI 1)), some (.int (nI u)), some (.ref 75)] [.ref (σ2.2 75 1), .ref 77] σ2
        refine am_run 1 (pc' := 64) (ls' := [some (.ref 41), some (.int (nI 1)), some (.int (nI u)), some (.ref 75)]) (st' := [.ref 75, .ref (σ2.2 75 1), .ref 77]) (σ' := σ2) rfl ?_
        refine am_invv (y := 67) (b := 75) (as := []) (rest := [.ref (σ2.2 75 1), .ref 77]) rfl rfl rfl rfl rfl rfl rfl (Nat.le_of_ble_eq_true rfl) ?_
        refine am_enter' rfl rfl rfl (by omega) (ls := [some (.ref 75)]) rfl (fun d_7 hd_7 => ?_)
        refine am_run 2 (pc' := 4) (ls' := [some (.ref 75)]) (st' := [.int (σ2.1 75 3)]) (σ' := σ2) rfl ?_
        refine am_top (v' := nI s) a32 ?_
        refine am_reti rfl rfl ?_
        show am_G _ M_X9_ring _ 67 [some (.ref 41), some (.int (nI 1)), some (.int (nI u)), some (.ref 75)] [.int (nI s), .ref (σ2.2 75 1), .ref 77] σ2
        refine am_invv (y := 63) (b := 77) (as := [.ref (σ2.2 75 1), .int (nI s)]) (rest := []) rfl rfl rfl rfl rfl rfl rfl (Nat.le_of_ble_eq_true rfl) ?_
        refine c_circle (by omega) hW hR2 (show r + 1 ≤ n by omega) hro2 hs b1 b2 (by omega) o0 o1 (by omega) ?_
        show am_G _ M_X9_ring _ 70 [some (.ref 41), some (.int (nI 1)), some (.int (nI u)), some (.ref 75)] [.int (nI (cir (rF p (r + 1) s w P A) 8 0 (itr (rF p (r + 1) s w P A) 8 (lw w))))] σ2
        refine am_reti rfl rfl ?_
        refine ⟨rfl, ?_⟩
        refine am_enter' (M := M_X10_ring) rfl rfl rfl (by omega) (ls := [some (.ref 0), some (.int (nI 1)), some (.int (nI u)), none, none, none, none, none, none]) rfl (fun d2 hd2 => ?_)
        refine am_run 2 (pc' := 2) (ls' := [some (.ref 0), some (.int (nI 1)), some (.int (nI u)), none, none, none, none, none, none]) (st' := [.int (nI 1), .ref 0]) (σ' := σ2) rfl ?_
        refine am_invv (y := 151) (b := 0) (as := [.int (nI 1)]) (rest := []) rfl rfl rfl rfl rfl rfl rfl (Nat.le_of_ble_eq_true rfl) ?_
        refine c_prog1_1 (by omega) (n := n) (by exact hn22) hn1 hn60 ?_
        show am_G _ M_X10_ring _ 5 [some (.ref 0), some (.int (nI 1)), some (.int (nI u)), none, none, none, none, none, none] [.int (nI 1)] σ2
        refine am_if (ty := 8) (tn := 11) rfl (by decide) rfl rfl (fun (h_101 : nI 1 = 0) => ?_) (fun (h_101 : ¬ (nI 1 = 0)) => ?_)
        · exact absurd h_101 (by decide)
        refine am_run 3 (pc' := 16) (ls' := [some (.ref 0), some (.int (nI 1)), some (.int (nI u)), none, none, none, none, none, none]) (st' := [.int (nI 255), .int (nI 0), .int (nI u)]) (σ' := σ2) rfl ?_
        refine am_invs (y := 148) (as := [.int (nI u), .int (nI 0), .int (nI 255)]) (rest := []) rfl rfl rfl rfl rfl rfl (Nat.le_of_ble_eq_true rfl) ?_
        refine c_in1 (by omega) (by omega) (by omega) (by omega) ?_
        show am_G _ M_X10_ring _ 19 [some (.ref 0), some (.int (nI 1)), some (.int (nI u)), none, none, none, none, none, none] [.int (nI 1)] σ2
        refine am_if (ty := 22) (tn := 25) rfl (by decide) rfl rfl (fun (h_102 : nI 1 = 0) => ?_) (fun (h_102 : ¬ (nI 1 = 0)) => ?_)
        · exact absurd h_102 (by decide)
        refine am_run 5 (pc' := 32) (ls' := [some (.ref 0), some (.int (nI 1)), some (.int (nI u)), none, none, none, none, none, none]) (st' := [.int (nI 1), .ref 17, .int (nI 1), .ref 0]) (σ' := σ2) rfl ?_
        refine am_ialdN (n := 2) (v := nI s) rfl rfl rfl (by decide) b32 (by decide) ?_
        refine am_run 1 (pc' := 34) (ls' := [some (.ref 0), some (.int (nI 1)), some (.int (nI u)), none, none, none, none, none, none]) (st' := [.int (nI u), .int (nI s), .int (nI 1), .ref 0]) (σ' := σ2) rfl ?_
        refine am_invv (y := 229) (b := 0) (as := [.int (nI 1), .int (nI s), .int (nI u)]) (rest := []) rfl rfl rfl rfl rfl rfl rfl (Nat.le_of_ble_eq_true rfl) ?_
        refine c_settles0 (by omega) hM2 hs hv.2 hu hz hw0 (fun σ3 hS i38 i39 i40 i41 i29 => ?_)
        show am_G _ M_X10_ring _ 37 [some (.ref 0), some (.int (nI 1)), some (.int (nI u)), none, none, none, none, none, none] [.int (nI 0)] σ3
        refine am_run 2 (pc' := 39) (ls' := [some (.ref 0), some (.int (nI 1)), some (.int (nI u)), some (.int (nI 0)), none, none, none, none, none]) (st' := [.int (nI 0)]) (σ' := σ3) rfl ?_
        refine am_if (ty := 42) (tn := 53) rfl (by decide) rfl rfl (fun (h_103 : nI 0 = 0) => ?_) (fun (h_103 : ¬ (nI 0 = 0)) => ?_)
        rotate_left
        · exact absurd (by decide) h_103
        refine am_run 2 (pc' := 46) (ls' := [some (.ref 0), some (.int (nI 1)), some (.int (nI u)), some (.int (nI 0)), none, none, none, none, none]) (st' := [.int (σ3.1 0 41)]) (σ' := σ3) rfl ?_
        refine am_top (v' := nI w) i41 ?_
        refine am_run 2 (pc' := 50) (ls' := [some (.ref 0), some (.int (nI 1)), some (.int (nI u)), some (.int (nI 0)), none, none, none, none, none]) (st' := [.int (nI w &&& nI 255)]) (σ' := σ3) rfl ?_
        refine am_top (v' := nI w) (by rw [show nI 255 = nI (256 - 1) from rfl, nx_mask (k := 8) _ rfl, Nat.mod_eq_of_lt (by omega)]) ?_
        refine am_if (ty := 53) (tn := 55) rfl (by decide) rfl rfl (fun (h_104 : nI w = 0) => ?_) (fun (h_104 : ¬ (nI w = 0)) => ?_)
        · have h_104 : w = 0 := (am_n0 (by omega)).mp h_104
          omega
        have h_104 : ¬ (w = 0) := fun z => h_104 ((am_n0 (by omega)).mpr z)
        refine am_run 6 (pc' := 65) (ls' := [some (.ref 0), some (.int (nI 1)), some (.int (nI u)), some (.int (nI 0)), some (.int (nI 0)), some (.int (nI 0)), none, none, none]) (st' := [.int (σ3.1 0 41)]) (σ' := σ3) rfl ?_
        refine am_top (v' := nI w) i41 ?_
        refine am_invs (y := 238) (as := [.int (nI w)]) (rest := []) rfl rfl rfl rfl rfl rfl (Nat.le_of_ble_eq_true rfl) ?_
        refine c_least (by omega) (by omega) ?_
        show am_G _ M_X10_ring _ 68 [some (.ref 0), some (.int (nI 1)), some (.int (nI u)), some (.int (nI 0)), some (.int (nI 0)), some (.int (nI 0)), none, none, none] [.int (oI (lw w))] σ3
        refine am_run 1 (pc' := 70) (ls' := [some (.ref 0), some (.int (nI 1)), some (.int (nI u)), some (.int (nI 0)), some (.int (nI 0)), some (.int (nI 0)), some (.int (oI (lw w))), none, none]) (st' := []) (σ' := σ3) rfl ?_
        have eW : (rF p (r + 1) s (dn 255 (P ||| A)) P A) = (rF p (r + 1) s w P A) := by rw [← ew]
        refine c_ring_walk (by omega) (hM2.keep hS.1) hs (hv.2.resolve_left hs0) hdj0 b1 b2 (q0 := lw w) (lw_le w) (fun c1 S σ4 hc8 hJ hwk hzk hend => ?_) 9 0 0 σ3 rfl (by decide) rfl (fun l => ⟨fun z => (by rw [Nat.zero_testBit] at z; cases z), fun ⟨i, z, _⟩ => absurd z (Nat.not_lt_zero _)⟩) ⟨fun c _ _ _ _ _ => rfl, fun _ _ => rfl, rfl, i38, i39, i29⟩ (fun k z => absurd z (Nat.not_lt_zero _)) (fun k z => absurd z (Nat.not_lt_zero _))
        rw [eW] at hwk hzk hend ⊢
        have hx8 : ∀ k, itr (rF p (r + 1) s w P A) k (lw w) ≤ 8 := fun k => by
          cases k with
          | zero => exact lw_le w
          | succ k => exact rF_le _ _ _ _ _ _ _
        by_cases hy0 : itr (rF p (r + 1) s w P A) c1 (lw w) = 0
        · have e8 : itr (rF p (r + 1) s w P A) 8 (lw w) = 0 := by rw [show 8 = (8 - c1) + c1 by omega, itr_add, hy0, itr_0 rfl]
          rw [hy0, oI_0]
          refine am_run 2 (pc' := 124) (ls' := [some (.ref 0), some (.int (nI 1)), some (.int (nI u)), some (.int (nI 0)), some (.int (nI S)), some (.int (nI c1)), some (.int (-1)), none, none]) (st' := [.int (-1), .int (-1)]) (σ' := σ4) rfl ?_
          refine am_ic (ty := 127) (tn := 129) rfl (by decide) rfl rfl (fun (h_301 : -1 = -1) => ?_) (fun (h_301 : ¬ (-1 = -1)) => ?_)
          rotate_left
          · exact absurd (by decide) h_301
          refine am_run 1 (pc' := 128) (ls' := [some (.ref 0), some (.int (nI 1)), some (.int (nI u)), some (.int (nI 0)), some (.int (nI S)), some (.int (nI c1)), some (.int (-1)), none, none]) (st' := [.int (nI 0)]) (σ' := σ4) rfl ?_
          refine am_reti rfl rfl ?_
          exact ⟨by rw [e8, cir_0], ((hK.KI (Or.inl rfl)).tr (hS.KI.tr hJ.KI)).inv hI⟩
        · obtain ⟨i, hi1, hi2, hi3⟩ := last_ex (P := fun i => itr (rF p (r + 1) s w P A) i (lw w) = itr (rF p (r + 1) s w P A) c1 (lw w)) (fun i => Decidable.em _) c1 (by
            obtain ⟨i, h1, h2⟩ := hend.resolve_left hy0
            exact ⟨i, h1, h2.symm⟩)
          have hi2 : itr (rF p (r + 1) s w P A) i (lw w) = itr (rF p (r + 1) s w P A) c1 (lw w) := hi2
          have hzn : ∀ k, k ≤ c1 → itr (rF p (r + 1) s w P A) k (lw w) ≠ 0 := fun k hk => by
            by_cases z : k = c1
            · rw [z]; exact hy0
            · exact hzk k (by omega)
          have hx8c := hx8 c1
          generalize hy : itr (rF p (r + 1) s w P A) c1 (lw w) = yy at hy0 hi2 hi3 hx8c
          obtain ⟨g, rfl⟩ : ∃ g, yy = g + 1 := ⟨yy - 1, by omega⟩
          have hg : g < 8 := by omega
          rw [oI_s]
          refine am_run 2 (pc' := 124) (ls' := [some (.ref 0), some (.int (nI 1)), some (.int (nI u)), some (.int (nI 0)), some (.int (nI S)), some (.int (nI c1)), some (.int (nI g)), none, none]) (st' := [.int (-1), .int (nI g)]) (σ' := σ4) rfl ?_
          refine am_ic (ty := 127) (tn := 129) rfl (by decide) rfl rfl (fun (h_301 : nI g = -1) => ?_) (fun (h_301 : ¬ (nI g = -1)) => ?_)
          · exact absurd h_301 (am_nm1 (by omega))
          refine am_run 4 (pc' := 135) (ls' := [some (.ref 0), some (.int (nI 1)), some (.int (nI u)), some (.int (nI 0)), some (.int (nI S)), some (.int (nI c1)), some (.int (nI g)), some (.int (nI 0)), some (.int (nI 0))]) (st' := []) (σ' := σ4) rfl ?_
          exact c_ring_set hc8 hg hwk (fun k hk => ⟨hzk k hk, hx8 k⟩) hi1 hi2 hi3 (y := lw w) (F := (rF p (r + 1) s w P A)) (Q := fun v'' σ'' => v'' = some (.int (nI (cir (rF p (r + 1) s w P A) 8 0 (itr (rF p (r + 1) s w P A) 8 (lw w))))) ∧ Inv σ'') ⟨by rw [ring_eq hi1 hc8 hzn (hy.trans hi2.symm)], ((hK.KI (Or.inl rfl)).tr (hS.KI.tr hJ.KI)).inv hI⟩ c1 0 0 (by omega) (by decide) (Or.inl (Nat.zero_le _))
    · skip
      refine ⟨-1000002, ?_⟩
      refine am_enter' (M := M_X9_ring) rfl rfl rfl (by omega) (ls := [some (.ref 41), some (.int (nI 1)), some (.int y), none]) rfl (fun d' hd' => ?_)
      refine am_run 2 (pc' := 2) (ls' := [some (.ref 41), some (.int (nI 1)), some (.int y), none]) (st' := [.int (nI 1), .ref 41]) (σ' := σ) rfl ?_
      refine am_invv (y := 140) (b := 41) (as := [.int (nI 1)]) (rest := []) rfl rfl rfl rfl rfl rfl rfl (Nat.le_of_ble_eq_true rfl) ?_
      refine c_filled1_1 (by omega) hf ?_
      show am_G _ M_X9_ring _ 5 [some (.ref 41), some (.int (nI 1)), some (.int y), none] [.ref 75] σ
      refine am_run 4 (pc' := 14) (ls' := [some (.ref 41), some (.int (nI 1)), some (.int y), some (.ref 75)]) (st' := [.int y]) (σ' := σ) rfl ?_
      refine am_invs (y := 141) (as := [.int y]) (rest := []) rfl rfl rfl rfl rfl rfl (Nat.le_of_ble_eq_true rfl) ?_
      refine c_sig0 (by omega) hy ?_
      show am_G _ M_X9_ring _ 17 [some (.ref 41), some (.int (nI 1)), some (.int y), some (.ref 75)] [.int (nI 0)] σ
      refine am_if (ty := 20) (tn := 23) rfl (by decide) rfl rfl (fun (h_1 : nI 0 = 0) => ?_) (fun (h_1 : ¬ (nI 0 = 0)) => ?_)
      rotate_left
      · exact absurd (by decide) h_1
      refine am_run 1 (pc' := 22) (ls' := [some (.ref 41), some (.int (nI 1)), some (.int y), some (.ref 75)]) (st' := [.int (-1000002)]) (σ' := σ) rfl ?_
      refine am_reti rfl rfl ?_
      refine ⟨rfl, ?_⟩
      refine am_enter' (M := M_X10_ring) rfl rfl rfl (by omega) (ls := [some (.ref 0), some (.int (nI 1)), some (.int y), none, none, none, none, none, none]) rfl (fun d2 hd2 => ?_)
      refine am_run 2 (pc' := 2) (ls' := [some (.ref 0), some (.int (nI 1)), some (.int y), none, none, none, none, none, none]) (st' := [.int (nI 1), .ref 0]) (σ' := σ) rfl ?_
      refine am_invv (y := 151) (b := 0) (as := [.int (nI 1)]) (rest := []) rfl rfl rfl rfl rfl rfl rfl (Nat.le_of_ble_eq_true rfl) ?_
      refine c_prog1_1 (by omega) (n := n) (by exact hn2) hn1 hn60 ?_
      show am_G _ M_X10_ring _ 5 [some (.ref 0), some (.int (nI 1)), some (.int y), none, none, none, none, none, none] [.int (nI 1)] σ
      refine am_if (ty := 8) (tn := 11) rfl (by decide) rfl rfl (fun (h_101 : nI 1 = 0) => ?_) (fun (h_101 : ¬ (nI 1 = 0)) => ?_)
      · exact absurd h_101 (by decide)
      refine am_run 3 (pc' := 16) (ls' := [some (.ref 0), some (.int (nI 1)), some (.int y), none, none, none, none, none, none]) (st' := [.int (nI 255), .int (nI 0), .int y]) (σ' := σ) rfl ?_
      refine am_invs (y := 148) (as := [.int y, .int (nI 0), .int (nI 255)]) (rest := []) rfl rfl rfl rfl rfl rfl (Nat.le_of_ble_eq_true rfl) ?_
      refine c_in0 (by omega) hy ?_
      show am_G _ M_X10_ring _ 19 [some (.ref 0), some (.int (nI 1)), some (.int y), none, none, none, none, none, none] [.int (nI 0)] σ
      refine am_if (ty := 22) (tn := 25) rfl (by decide) rfl rfl (fun (h_102 : nI 0 = 0) => ?_) (fun (h_102 : ¬ (nI 0 = 0)) => ?_)
      rotate_left
      · exact absurd (by decide) h_102
      refine am_run 1 (pc' := 24) (ls' := [some (.ref 0), some (.int (nI 1)), some (.int y), none, none, none, none, none, none]) (st' := [.int (-1000002)]) (σ' := σ) rfl ?_
      refine am_reti rfl rfl ?_
      exact ⟨rfl, hI⟩

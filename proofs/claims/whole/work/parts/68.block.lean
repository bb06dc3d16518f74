/-- the contract of an enclosed text -/
def ECt (d : Nat) (τ : Nat → Nat → Nat) (t L : Nat) (tx : Nat → Nat) (blk : Option (Nat → Nat → PS → RS)) (br m : Nat) : Prop := ∀ (μ : Nat → Nat → Int32) (S : PS) (op cl tr lc : Nat) (Q : am_Q), op < 256 → cl < 256 → XC μ L tx → CR μ t L S → lc ≤ 3 → tr + m ≤ 41 →
  (∀ μ' v k fp, p_enc tx L blk op cl tr lc S = .inl (k, fp) → KC μ μ' t → XC μ' L tx → FR μ' k fp → Q (some (.int v)) (μ', τ)) →
  (∀ μ' S' r, p_enc tx L blk op cl tr lc S = .inr (S', r) → KC μ μ' t → XC μ' L tx → CR μ' t L S' → S.2.1 ≤ r → r < S'.2.1 → Q (some (.int (nI r))) (μ', τ)) →
  am_C d 92 [.ref 44, .int (nI op), .int (nI cl), .int (nI tr), .int (nI lc), .int (nI br)] (μ, τ) Q
theorem ECt.n {d : Nat} (hd : 5 ≤ d) {τ : Nat → Nat → Nat} {t L : Nat} {tx : Nat → Nat} (hT3 : T3 t) : ECt d τ t L tx none 12 0 := fun μ S op cl tr lc Q hop hcl hX hC hlc _ hF hS => c_enc_n hd hT3 hX hC hop hcl hlc rfl hF hS
theorem ECt.s {d : Nat} (hd : 5 ≤ d) {τ : Nat → Nat → Nat} {t L br m : Nat} {tx : Nat → Nat} {f : Nat → Nat → PS → RS} (hT3 : T3 t) (hbr : br < 12) (hB : PCt d τ t L tx 87 f (br + 1) m) : ECt (d + 1) τ t L tx (some f) br (m + 1) := fun μ S op cl tr lc Q hop hcl hX hC hlc htr hF hS => c_enc_s hd hT3 hX hC hop hcl hlc hbr (by omega) hB hF hS
theorem c_setOpsN {d : Nat} (hd : 4 ≤ d) {μ : Nat → Nat → Int32} {τ : Nat → Nat → Nat} {t L : Nat} {S : PS} (hT3 : T3 t) (hC : CR μ t L S) {st l r : Nat} (hst : st < S.2.1) (hl : l < S.2.1) (hls : l ≠ st) (hr : r < S.2.1) (hrs : r ≠ st) {Q : am_Q} (hq : ∀ μ', KC μ μ' t → μ' 44 = μ 44 → CR μ' t L (ps_ops S st (l + 1) (r + 1)) → Q none (μ', τ)) : am_C d 111 [.ref t, .int (nI st), .int (nI l), .int (nI r)] (μ, τ) Q := by
  rw [← oI_s r]
  exact c_setOps hd hT3 hC hst hl hls (by omega) (by omega) hq
theorem isB_cases {c : Nat} (h : ¬ (isF c = false ∧ isB c = false)) (h40 : ¬ c = 40) : c = 48 ∨ c = 46 ∨ c = 120 ∨ c = 33 ∨ c = 38 ∨ c = 63 ∨ c = 42 ∨ c = 94 ∨ c = 64 ∨ c = 126 ∨ c = 36 := by
  unfold isF isB at h
  simp only [Bool.or_eq_false_iff, beq_eq_false_iff_ne, ne_eq] at h
  omega
set_option maxRecDepth 10000 in
set_option maxHeartbeats 2000000 in
theorem c_blk_63 {d : Nat} (hd : 5 ≤ d) {μ : Nat → Nat → Int32} {τ : Nat → Nat → Nat} {t L : Nat} {tx : Nat → Nat} {S : PS} (hT3 : T3 t) (hX : XC μ L tx) (hC : CR μ t L S) (ht : τ 44 1 = t) {blk : Option (Nat → Nat → PS → RS)} {br m tr lc st : Nat} (hE : ECt d τ t L tx blk br m) (htr : tr + m ≤ 40) (hlc : lc ≤ 3) (hst : st < S.2.1) {Q : am_Q} (hF : ∀ μ' v k fp, p_blk tx L blk 63 tr lc st S = .inl (k, fp) → KC μ μ' t → XC μ' L tx → FR μ' k fp → Q (some (.int v)) (μ', τ)) (hS : ∀ μ' S' r, p_blk tx L blk 63 tr lc st S = .inr (S', r) → KC μ μ' t → XC μ' L tx → CR μ' t L S' → r = st → r < S'.2.1 → Q (some (.int (nI r))) (μ', τ)) : am_G d M_X6_readPart Q 115 [some (.ref 44), some (.int (nI tr)), some (.int (nI lc)), some (.int (nI br)), some (.int (nI 63)), some (.int (nI st)), none, none, none, none, none] [] (μ, τ) := by
  have eb : p_blk tx L blk 63 tr lc st S = (match p_enc tx L blk 123 125 (tr) (lc) S with | .inl e => .inl e | .inr (S3, f) => if tk tx L (lk tx L S3.1) = 123 then (match p_enc tx L blk 123 125 tr lc (ps_at S3 (lk tx L S3.1)) with | .inl e => .inl e | .inr (S4, g) => .inr (ps_ops S4 st (f + 1) (g + 1), st)) else .inr (ps_ops (ps_at S3 (lk tx L S3.1)) st (f + 1) 0, st)) := rfl
  refine am_run 1 (pc' := 117) (ls' := [some (.ref 44), some (.int (nI tr)), some (.int (nI lc)), some (.int (nI br)), some (.int (nI 63)), some (.int (nI st)), none, none, none, none, none]) (st' := [.int (nI 63)]) (σ' := (μ, τ)) rfl ?_
  refine am_invs (y := 90) (as := [.int (nI 63)]) (rest := []) rfl rfl rfl rfl rfl rfl (Nat.le_of_ble_eq_true rfl) ?_
  rw [← tI_n (show 63 < 256 by decide)]
  refine c_hasBlock (by omega) (by decide) (fun _ => ?_) (fun z => absurd z (by decide))
  show am_G _ M_X6_readPart _ 120 [some (.ref 44), some (.int (nI tr)), some (.int (nI lc)), some (.int (nI br)), some (.int (nI 63)), some (.int (nI st)), none, none, none, none, none] [.int (nI 1)] (μ, τ)
  refine am_if (ty := 228) (tn := 123) rfl (by decide) rfl rfl (fun (h_1 : nI 1 = 0) => ?_) (fun (h_1 : ¬ (nI 1 = 0)) => ?_)
  · exact absurd h_1 (by decide)
  refine am_run 2 (pc' := 127) (ls' := [some (.ref 44), some (.int (nI tr)), some (.int (nI lc)), some (.int (nI br)), some (.int (nI 63)), some (.int (nI st)), none, none, none, none, none]) (st' := [.int (nI 94), .int (nI 63)]) (σ' := (μ, τ)) rfl ?_
  refine am_ic (ty := 130) (tn := 136) rfl (by decide) rfl rfl (fun (h_2 : nI 63 = nI 94) => ?_) (fun (h_2 : ¬ (nI 63 = nI 94)) => ?_)
  · exact absurd h_2 (by decide)
  refine am_run 4 (pc' := 143) (ls' := [some (.ref 44), some (.int (nI tr)), some (.int (nI lc)), some (.int (nI br)), some (.int (nI 63)), some (.int (nI st)), some (.int (nI tr)), none, none, none, none]) (st' := [.int (nI 36), .int (nI 63)]) (σ' := (μ, τ)) rfl ?_
  refine am_ic (ty := 146) (tn := 152) rfl (by decide) rfl rfl (fun (h_3 : nI 63 = nI 36) => ?_) (fun (h_3 : ¬ (nI 63 = nI 36)) => ?_)
  · exact absurd h_3 (by decide)
  refine am_run 8 (pc' := 165) (ls' := [some (.ref 44), some (.int (nI tr)), some (.int (nI lc)), some (.int (nI br)), some (.int (nI 63)), some (.int (nI st)), some (.int (nI tr)), some (.int (nI lc)), none, none, none]) (st' := [.int (nI br), .int (nI lc), .int (nI tr), .int (nI 125), .int (nI 123), .ref 44]) (σ' := (μ, τ)) rfl ?_
  refine am_invv (y := 92) (b := 44) (as := [.int (nI 123), .int (nI 125), .int (nI tr), .int (nI lc), .int (nI br)]) (rest := []) rfl rfl rfl rfl rfl rfl rfl (Nat.le_of_ble_eq_true rfl) ?_
  refine hE μ S 123 125 (tr) (lc) _ (by decide) (by decide) hX hC (by omega) (by omega) (fun μ3 v3 k3 fp3 e3 hK3 hX3 hF3 => ?_) (fun μ3 S3 r3 e3 hK3 hX3 hC3 hr3 hr3b => ?_)
  · show am_G _ M_X6_readPart _ 168 [some (.ref 44), some (.int (nI tr)), some (.int (nI lc)), some (.int (nI br)), some (.int (nI 63)), some (.int (nI st)), some (.int (nI tr)), some (.int (nI lc)), none, none, none] [.int v3] (μ3, τ)
    refine am_run 3 (pc' := 174) (ls' := [some (.ref 44), some (.int (nI tr)), some (.int (nI lc)), some (.int (nI br)), some (.int (nI 63)), some (.int (nI st)), some (.int (nI tr)), some (.int (nI lc)), some (.int v3), none, none]) (st' := [.int (nI 63), .int (nI 63)]) (σ' := (μ3, τ)) rfl ?_
    refine am_ic (ty := 177) (tn := 190) rfl (by decide) rfl rfl (fun (h_701 : nI 63 = nI 63) => ?_) (fun (h_701 : ¬ (nI 63 = nI 63)) => ?_)
    rotate_left
    · exact absurd (by decide) h_701
    refine am_run 2 (pc' := 180) (ls' := [some (.ref 44), some (.int (nI tr)), some (.int (nI lc)), some (.int (nI br)), some (.int (nI 63)), some (.int (nI st)), some (.int (nI tr)), some (.int (nI lc)), some (.int v3), none, none]) (st' := [.int (nI 123), .ref 44]) (σ' := (μ3, τ)) rfl ?_
    refine am_invv (y := 86) (b := 44) (as := [.int (nI 123)]) (rest := []) rfl rfl rfl rfl rfl rfl rfl (Nat.le_of_ble_eq_true rfl) ?_
    refine c_isNext_f (by omega) hT3 hX3 hF3 ?_
    show am_G _ M_X6_readPart _ 183 [some (.ref 44), some (.int (nI tr)), some (.int (nI lc)), some (.int (nI br)), some (.int (nI 63)), some (.int (nI st)), some (.int (nI tr)), some (.int (nI lc)), some (.int v3), none, none] [.int (nI 0)] (μ3, τ)
    refine am_if (ty := 190) (tn := 186) rfl (by decide) rfl rfl (fun (h_702 : nI 0 = 0) => ?_) (fun (h_702 : ¬ (nI 0 = 0)) => ?_)
    rotate_left
    · exact absurd (by decide) h_702
    refine am_run 3 (pc' := 195) (ls' := [some (.ref 44), some (.int (nI tr)), some (.int (nI lc)), some (.int (nI br)), some (.int (nI 63)), some (.int (nI st)), some (.int (nI tr)), some (.int (nI lc)), some (.int v3), some (.int (nI 0)), none]) (st' := [.int (nI 0)]) (σ' := (μ3, τ)) rfl ?_
    refine am_if (ty := 212) (tn := 198) rfl (by decide) rfl rfl (fun (h_703 : nI 0 = 0) => ?_) (fun (h_703 : ¬ (nI 0 = 0)) => ?_)
    rotate_left
    · exact absurd (by decide) h_703
    refine am_run 4 (pc' := 219) (ls' := [some (.ref 44), some (.int (nI tr)), some (.int (nI lc)), some (.int (nI br)), some (.int (nI 63)), some (.int (nI st)), some (.int (nI tr)), some (.int (nI lc)), some (.int v3), some (.int (nI 0)), some (.int (-1))]) (st' := [.ref (τ 44 1)]) (σ' := (μ3, τ)) rfl ?_
    refine am_stk (st' := [.ref t]) (by rw [ht]) ?_
    refine am_run 3 (pc' := 225) (ls' := [some (.ref 44), some (.int (nI tr)), some (.int (nI lc)), some (.int (nI br)), some (.int (nI 63)), some (.int (nI st)), some (.int (nI tr)), some (.int (nI lc)), some (.int v3), some (.int (nI 0)), some (.int (-1))]) (st' := [.int (-1), .int v3, .int (nI st), .ref t]) (σ' := (μ3, τ)) rfl ?_
    refine am_invv (y := 111) (b := t) (as := [.int (nI st), .int v3, .int (-1)]) (rest := []) rfl rfl rfl rfl rfl rfl (t3_kind hT3) (Nat.le_of_ble_eq_true rfl) ?_
    refine c_setOps_f (by omega) hT3 (fun μ9 hK9 h449 => ?_)
    have hF9 := hF3.of h449
    have hX9 := hK9.xc hT3 hX3
    show am_G _ M_X6_readPart _ 228 [some (.ref 44), some (.int (nI tr)), some (.int (nI lc)), some (.int (nI br)), some (.int (nI 63)), some (.int (nI st)), some (.int (nI tr)), some (.int (nI lc)), some (.int v3), some (.int (nI 0)), some (.int (-1))] [] (μ9, τ)
    refine am_run 1 (pc' := 230) (ls' := [some (.ref 44), some (.int (nI tr)), some (.int (nI lc)), some (.int (nI br)), some (.int (nI 63)), some (.int (nI st)), some (.int (nI tr)), some (.int (nI lc)), some (.int v3), some (.int (nI 0)), some (.int (-1))]) (st' := [.int (nI st)]) (σ' := (μ9, τ)) rfl ?_
    refine am_reti rfl rfl ?_
    exact hF μ9 _ _ _ (by rw [eb, e3]) (hK3.tr hK9) hX9 hF9
  · show am_G _ M_X6_readPart _ 168 [some (.ref 44), some (.int (nI tr)), some (.int (nI lc)), some (.int (nI br)), some (.int (nI 63)), some (.int (nI st)), some (.int (nI tr)), some (.int (nI lc)), none, none, none] [.int (nI r3)] (μ3, τ)
    refine am_run 3 (pc' := 174) (ls' := [some (.ref 44), some (.int (nI tr)), some (.int (nI lc)), some (.int (nI br)), some (.int (nI 63)), some (.int (nI st)), some (.int (nI tr)), some (.int (nI lc)), some (.int (nI r3)), none, none]) (st' := [.int (nI 63), .int (nI 63)]) (σ' := (μ3, τ)) rfl ?_
    refine am_ic (ty := 177) (tn := 190) rfl (by decide) rfl rfl (fun (h_801 : nI 63 = nI 63) => ?_) (fun (h_801 : ¬ (nI 63 = nI 63)) => ?_)
    rotate_left
    · exact absurd (by decide) h_801
    refine am_run 2 (pc' := 180) (ls' := [some (.ref 44), some (.int (nI tr)), some (.int (nI lc)), some (.int (nI br)), some (.int (nI 63)), some (.int (nI st)), some (.int (nI tr)), some (.int (nI lc)), some (.int (nI r3)), none, none]) (st' := [.int (nI 123), .ref 44]) (σ' := (μ3, τ)) rfl ?_
    refine am_invv (y := 86) (b := 44) (as := [.int (nI 123)]) (rest := []) rfl rfl rfl rfl rfl rfl rfl (Nat.le_of_ble_eq_true rfl) ?_
    refine c_isNext (by omega) hT3 hX3 hC3 (y := 123) (by decide) (fun μ4 en hK4 hX4 hC4 => ?_) (fun μ4 en hK4 hX4 hC4 => ?_)
    · show am_G _ M_X6_readPart _ 183 [some (.ref 44), some (.int (nI tr)), some (.int (nI lc)), some (.int (nI br)), some (.int (nI 63)), some (.int (nI st)), some (.int (nI tr)), some (.int (nI lc)), some (.int (nI r3)), none, none] [.int (nI 1)] (μ4, τ)
      refine am_if (ty := 190) (tn := 186) rfl (by decide) rfl rfl (fun (h_802 : nI 1 = 0) => ?_) (fun (h_802 : ¬ (nI 1 = 0)) => ?_)
      · exact absurd h_802 (by decide)
      refine am_run 4 (pc' := 195) (ls' := [some (.ref 44), some (.int (nI tr)), some (.int (nI lc)), some (.int (nI br)), some (.int (nI 63)), some (.int (nI st)), some (.int (nI tr)), some (.int (nI lc)), some (.int (nI r3)), some (.int (nI 1)), none]) (st' := [.int (nI 1)]) (σ' := (μ4, τ)) rfl ?_
      refine am_if (ty := 212) (tn := 198) rfl (by decide) rfl rfl (fun (h_803 : nI 1 = 0) => ?_) (fun (h_803 : ¬ (nI 1 = 0)) => ?_)
      · exact absurd h_803 (by decide)
      refine am_run 6 (pc' := 206) (ls' := [some (.ref 44), some (.int (nI tr)), some (.int (nI lc)), some (.int (nI br)), some (.int (nI 63)), some (.int (nI st)), some (.int (nI tr)), some (.int (nI lc)), some (.int (nI r3)), some (.int (nI 1)), none]) (st' := [.int (nI br), .int (nI lc), .int (nI tr), .int (nI 125), .int (nI 123), .ref 44]) (σ' := (μ4, τ)) rfl ?_
      refine am_invv (y := 92) (b := 44) (as := [.int (nI 123), .int (nI 125), .int (nI tr), .int (nI lc), .int (nI br)]) (rest := []) rfl rfl rfl rfl rfl rfl rfl (Nat.le_of_ble_eq_true rfl) ?_
      refine hE μ4 (ps_at S3 (lk tx L S3.1)) 123 125 tr lc _ (by decide) (by decide) hX4 hC4 (by omega) (by omega) (fun μ5 v5 k5 fp5 e5 hK5 hX5 hF5 => ?_) (fun μ5 S5 r5 e5 hK5 hX5 hC5 hr5 hr5b => ?_)
      · show am_G _ M_X6_readPart _ 209 [some (.ref 44), some (.int (nI tr)), some (.int (nI lc)), some (.int (nI br)), some (.int (nI 63)), some (.int (nI st)), some (.int (nI tr)), some (.int (nI lc)), some (.int (nI r3)), some (.int (nI 1)), none] [.int v5] (μ5, τ)
        refine am_run 4 (pc' := 219) (ls' := [some (.ref 44), some (.int (nI tr)), some (.int (nI lc)), some (.int (nI br)), some (.int (nI 63)), some (.int (nI st)), some (.int (nI tr)), some (.int (nI lc)), some (.int (nI r3)), some (.int (nI 1)), some (.int v5)]) (st' := [.ref (τ 44 1)]) (σ' := (μ5, τ)) rfl ?_
        refine am_stk (st' := [.ref t]) (by rw [ht]) ?_
        refine am_run 3 (pc' := 225) (ls' := [some (.ref 44), some (.int (nI tr)), some (.int (nI lc)), some (.int (nI br)), some (.int (nI 63)), some (.int (nI st)), some (.int (nI tr)), some (.int (nI lc)), some (.int (nI r3)), some (.int (nI 1)), some (.int v5)]) (st' := [.int v5, .int (nI r3), .int (nI st), .ref t]) (σ' := (μ5, τ)) rfl ?_
        refine am_invv (y := 111) (b := t) (as := [.int (nI st), .int (nI r3), .int v5]) (rest := []) rfl rfl rfl rfl rfl rfl (t3_kind hT3) (Nat.le_of_ble_eq_true rfl) ?_
        refine c_setOps_f (by omega) hT3 (fun μ9 hK9 h449 => ?_)
        have hF9 := hF5.of h449
        have hX9 := hK9.xc hT3 hX5
        show am_G _ M_X6_readPart _ 228 [some (.ref 44), some (.int (nI tr)), some (.int (nI lc)), some (.int (nI br)), some (.int (nI 63)), some (.int (nI st)), some (.int (nI tr)), some (.int (nI lc)), some (.int (nI r3)), some (.int (nI 1)), some (.int v5)] [] (μ9, τ)
        refine am_run 1 (pc' := 230) (ls' := [some (.ref 44), some (.int (nI tr)), some (.int (nI lc)), some (.int (nI br)), some (.int (nI 63)), some (.int (nI st)), some (.int (nI tr)), some (.int (nI lc)), some (.int (nI r3)), some (.int (nI 1)), some (.int v5)]) (st' := [.int (nI st)]) (σ' := (μ9, τ)) rfl ?_
        refine am_reti rfl rfl ?_
        exact hF μ9 _ _ _ (by rw [eb, e3]; show (if _ then _ else _) = _; rw [if_pos en, e5]) ((hK3.tr (hK4.tr hK5)).tr hK9) hX9 hF9
      · show am_G _ M_X6_readPart _ 209 [some (.ref 44), some (.int (nI tr)), some (.int (nI lc)), some (.int (nI br)), some (.int (nI 63)), some (.int (nI st)), some (.int (nI tr)), some (.int (nI lc)), some (.int (nI r3)), some (.int (nI 1)), none] [.int (nI r5)] (μ5, τ)
        refine am_run 4 (pc' := 219) (ls' := [some (.ref 44), some (.int (nI tr)), some (.int (nI lc)), some (.int (nI br)), some (.int (nI 63)), some (.int (nI st)), some (.int (nI tr)), some (.int (nI lc)), some (.int (nI r3)), some (.int (nI 1)), some (.int (nI r5))]) (st' := [.ref (τ 44 1)]) (σ' := (μ5, τ)) rfl ?_
        refine am_stk (st' := [.ref t]) (by rw [ht]) ?_
        refine am_run 3 (pc' := 225) (ls' := [some (.ref 44), some (.int (nI tr)), some (.int (nI lc)), some (.int (nI br)), some (.int (nI 63)), some (.int (nI st)), some (.int (nI tr)), some (.int (nI lc)), some (.int (nI r3)), some (.int (nI 1)), some (.int (nI r5))]) (st' := [.int (nI r5), .int (nI r3), .int (nI st), .ref t]) (σ' := (μ5, τ)) rfl ?_
        refine am_invv (y := 111) (b := t) (as := [.int (nI st), .int (nI r3), .int (nI r5)]) (rest := []) rfl rfl rfl rfl rfl rfl (t3_kind hT3) (Nat.le_of_ble_eq_true rfl) ?_
        refine c_setOpsN (by omega) hT3 hC5 (st := st) (l := r3) (r := r5) (by have : S.2.1 ≤ r3 := hr3; have : S3.2.1 ≤ r5 := hr5; omega) (by have : S3.2.1 ≤ r5 := hr5; omega) (by have : S.2.1 ≤ r3 := hr3; omega) (by omega) (by have : S3.2.1 ≤ r5 := hr5; have : S.2.1 ≤ r3 := hr3; omega) (fun μ9 hK9 h449 hC9 => ?_)
        show am_G _ M_X6_readPart _ 228 [some (.ref 44), some (.int (nI tr)), some (.int (nI lc)), some (.int (nI br)), some (.int (nI 63)), some (.int (nI st)), some (.int (nI tr)), some (.int (nI lc)), some (.int (nI r3)), some (.int (nI 1)), some (.int (nI r5))] [] (μ9, τ)
        refine am_run 1 (pc' := 230) (ls' := [some (.ref 44), some (.int (nI tr)), some (.int (nI lc)), some (.int (nI br)), some (.int (nI 63)), some (.int (nI st)), some (.int (nI tr)), some (.int (nI lc)), some (.int (nI r3)), some (.int (nI 1)), some (.int (nI r5))]) (st' := [.int (nI st)]) (σ' := (μ9, τ)) rfl ?_
        refine am_reti rfl rfl ?_
        have hK10 : KC μ μ9 t := ((hK3.tr (hK4.tr hK5)).tr hK9)
        exact hS μ9 _ st (by rw [eb, e3]; show (if _ then _ else _) = _; rw [if_pos en, e5]) hK10 (hK10.xc hT3 hX) hC9 rfl (by have : S.2.1 ≤ r3 := hr3; have : S3.2.1 ≤ r5 := hr5; show st < _; show st < S5.2.1; omega)
    · show am_G _ M_X6_readPart _ 183 [some (.ref 44), some (.int (nI tr)), some (.int (nI lc)), some (.int (nI br)), some (.int (nI 63)), some (.int (nI st)), some (.int (nI tr)), some (.int (nI lc)), some (.int (nI r3)), none, none] [.int (nI 0)] (μ4, τ)
      refine am_if (ty := 190) (tn := 186) rfl (by decide) rfl rfl (fun (h_804 : nI 0 = 0) => ?_) (fun (h_804 : ¬ (nI 0 = 0)) => ?_)
      rotate_left
      · exact absurd (by decide) h_804
      refine am_run 3 (pc' := 195) (ls' := [some (.ref 44), some (.int (nI tr)), some (.int (nI lc)), some (.int (nI br)), some (.int (nI 63)), some (.int (nI st)), some (.int (nI tr)), some (.int (nI lc)), some (.int (nI r3)), some (.int (nI 0)), none]) (st' := [.int (nI 0)]) (σ' := (μ4, τ)) rfl ?_
      refine am_if (ty := 212) (tn := 198) rfl (by decide) rfl rfl (fun (h_805 : nI 0 = 0) => ?_) (fun (h_805 : ¬ (nI 0 = 0)) => ?_)
      rotate_left
      · exact absurd (by decide) h_805
      refine am_run 4 (pc' := 219) (ls' := [some (.ref 44), some (.int (nI tr)), some (.int (nI lc)), some (.int (nI br)), some (.int (nI 63)), some (.int (nI st)), some (.int (nI tr)), some (.int (nI lc)), some (.int (nI r3)), some (.int (nI 0)), some (.int (-1))]) (st' := [.ref (τ 44 1)]) (σ' := (μ4, τ)) rfl ?_
      refine am_stk (st' := [.ref t]) (by rw [ht]) ?_
      refine am_run 3 (pc' := 225) (ls' := [some (.ref 44), some (.int (nI tr)), some (.int (nI lc)), some (.int (nI br)), some (.int (nI 63)), some (.int (nI st)), some (.int (nI tr)), some (.int (nI lc)), some (.int (nI r3)), some (.int (nI 0)), some (.int (-1))]) (st' := [.int (-1), .int (nI r3), .int (nI st), .ref t]) (σ' := (μ4, τ)) rfl ?_
      refine am_invv (y := 111) (b := t) (as := [.int (nI st), .int (nI r3), .int (-1)]) (rest := []) rfl rfl rfl rfl rfl rfl (t3_kind hT3) (Nat.le_of_ble_eq_true rfl) ?_
      rw [← oI_0]
      refine c_setOps (by omega) hT3 hC4 (st := st) (l := r3) (r := 0) (show st < S3.2.1 by have : S.2.1 ≤ r3 := hr3; omega) (show r3 < S3.2.1 from hr3b) (by omega) (by omega) (by omega) (fun μ9 hK9 h449 hC9 => ?_)
      show am_G _ M_X6_readPart _ 228 [some (.ref 44), some (.int (nI tr)), some (.int (nI lc)), some (.int (nI br)), some (.int (nI 63)), some (.int (nI st)), some (.int (nI tr)), some (.int (nI lc)), some (.int (nI r3)), some (.int (nI 0)), some (.int (-1))] [] (μ9, τ)
      refine am_run 1 (pc' := 230) (ls' := [some (.ref 44), some (.int (nI tr)), some (.int (nI lc)), some (.int (nI br)), some (.int (nI 63)), some (.int (nI st)), some (.int (nI tr)), some (.int (nI lc)), some (.int (nI r3)), some (.int (nI 0)), some (.int (-1))]) (st' := [.int (nI st)]) (σ' := (μ9, τ)) rfl ?_
      refine am_reti rfl rfl ?_
      have hK10 : KC μ μ9 t := ((hK3.tr hK4).tr hK9)
      exact hS μ9 _ st (by rw [eb, e3]; show (if _ then _ else _) = _; rw [if_neg en]) hK10 (hK10.xc hT3 hX) hC9 rfl (by have : S.2.1 ≤ r3 := hr3; show st < _; show st < S3.2.1; omega)
set_option maxRecDepth 10000 in
set_option maxHeartbeats 2000000 in
theorem c_blk_42 {d : Nat} (hd : 5 ≤ d) {μ : Nat → Nat → Int32} {τ : Nat → Nat → Nat} {t L : Nat} {tx : Nat → Nat} {S : PS} (hT3 : T3 t) (hX : XC μ L tx) (hC : CR μ t L S) (ht : τ 44 1 = t) {blk : Option (Nat → Nat → PS → RS)} {br m tr lc st : Nat} (hE : ECt d τ t L tx blk br m) (htr : tr + m ≤ 40) (hlc : lc ≤ 3) (hst : st < S.2.1) {Q : am_Q} (hF : ∀ μ' v k fp, p_blk tx L blk 42 tr lc st S = .inl (k, fp) → KC μ μ' t → XC μ' L tx → FR μ' k fp → Q (some (.int v)) (μ', τ)) (hS : ∀ μ' S' r, p_blk tx L blk 42 tr lc st S = .inr (S', r) → KC μ μ' t → XC μ' L tx → CR μ' t L S' → r = st → r < S'.2.1 → Q (some (.int (nI r))) (μ', τ)) : am_G d M_X6_readPart Q 115 [some (.ref 44), some (.int (nI tr)), some (.int (nI lc)), some (.int (nI br)), some (.int (nI 42)), some (.int (nI st)), none, none, none, none, none] [] (μ, τ) := by
  have eb : p_blk tx L blk 42 tr lc st S = (match p_enc tx L blk 123 125 (tr) (lc) S with | .inl e => .inl e | .inr (S3, f) => .inr (ps_ops S3 st (f + 1) 0, st)) := rfl
  refine am_run 1 (pc' := 117) (ls' := [some (.ref 44), some (.int (nI tr)), some (.int (nI lc)), some (.int (nI br)), some (.int (nI 42)), some (.int (nI st)), none, none, none, none, none]) (st' := [.int (nI 42)]) (σ' := (μ, τ)) rfl ?_
  refine am_invs (y := 90) (as := [.int (nI 42)]) (rest := []) rfl rfl rfl rfl rfl rfl (Nat.le_of_ble_eq_true rfl) ?_
  rw [← tI_n (show 42 < 256 by decide)]
  refine c_hasBlock (by omega) (by decide) (fun _ => ?_) (fun z => absurd z (by decide))
  show am_G _ M_X6_readPart _ 120 [some (.ref 44), some (.int (nI tr)), some (.int (nI lc)), some (.int (nI br)), some (.int (nI 42)), some (.int (nI st)), none, none, none, none, none] [.int (nI 1)] (μ, τ)
  refine am_if (ty := 228) (tn := 123) rfl (by decide) rfl rfl (fun (h_1 : nI 1 = 0) => ?_) (fun (h_1 : ¬ (nI 1 = 0)) => ?_)
  · exact absurd h_1 (by decide)
  refine am_run 2 (pc' := 127) (ls' := [some (.ref 44), some (.int (nI tr)), some (.int (nI lc)), some (.int (nI br)), some (.int (nI 42)), some (.int (nI st)), none, none, none, none, none]) (st' := [.int (nI 94), .int (nI 42)]) (σ' := (μ, τ)) rfl ?_
  refine am_ic (ty := 130) (tn := 136) rfl (by decide) rfl rfl (fun (h_2 : nI 42 = nI 94) => ?_) (fun (h_2 : ¬ (nI 42 = nI 94)) => ?_)
  · exact absurd h_2 (by decide)
  refine am_run 4 (pc' := 143) (ls' := [some (.ref 44), some (.int (nI tr)), some (.int (nI lc)), some (.int (nI br)), some (.int (nI 42)), some (.int (nI st)), some (.int (nI tr)), none, none, none, none]) (st' := [.int (nI 36), .int (nI 42)]) (σ' := (μ, τ)) rfl ?_
  refine am_ic (ty := 146) (tn := 152) rfl (by decide) rfl rfl (fun (h_3 : nI 42 = nI 36) => ?_) (fun (h_3 : ¬ (nI 42 = nI 36)) => ?_)
  · exact absurd h_3 (by decide)
  refine am_run 8 (pc' := 165) (ls' := [some (.ref 44), some (.int (nI tr)), some (.int (nI lc)), some (.int (nI br)), some (.int (nI 42)), some (.int (nI st)), some (.int (nI tr)), some (.int (nI lc)), none, none, none]) (st' := [.int (nI br), .int (nI lc), .int (nI tr), .int (nI 125), .int (nI 123), .ref 44]) (σ' := (μ, τ)) rfl ?_
  refine am_invv (y := 92) (b := 44) (as := [.int (nI 123), .int (nI 125), .int (nI tr), .int (nI lc), .int (nI br)]) (rest := []) rfl rfl rfl rfl rfl rfl rfl (Nat.le_of_ble_eq_true rfl) ?_
  refine hE μ S 123 125 (tr) (lc) _ (by decide) (by decide) hX hC (by omega) (by omega) (fun μ3 v3 k3 fp3 e3 hK3 hX3 hF3 => ?_) (fun μ3 S3 r3 e3 hK3 hX3 hC3 hr3 hr3b => ?_)
  · show am_G _ M_X6_readPart _ 168 [some (.ref 44), some (.int (nI tr)), some (.int (nI lc)), some (.int (nI br)), some (.int (nI 42)), some (.int (nI st)), some (.int (nI tr)), some (.int (nI lc)), none, none, none] [.int v3] (μ3, τ)
    refine am_run 3 (pc' := 174) (ls' := [some (.ref 44), some (.int (nI tr)), some (.int (nI lc)), some (.int (nI br)), some (.int (nI 42)), some (.int (nI st)), some (.int (nI tr)), some (.int (nI lc)), some (.int v3), none, none]) (st' := [.int (nI 63), .int (nI 42)]) (σ' := (μ3, τ)) rfl ?_
    refine am_ic (ty := 177) (tn := 190) rfl (by decide) rfl rfl (fun (h_701 : nI 42 = nI 63) => ?_) (fun (h_701 : ¬ (nI 42 = nI 63)) => ?_)
    · exact absurd h_701 (by decide)
    refine am_run 3 (pc' := 195) (ls' := [some (.ref 44), some (.int (nI tr)), some (.int (nI lc)), some (.int (nI br)), some (.int (nI 42)), some (.int (nI st)), some (.int (nI tr)), some (.int (nI lc)), some (.int v3), some (.int (nI 0)), none]) (st' := [.int (nI 0)]) (σ' := (μ3, τ)) rfl ?_
    refine am_if (ty := 212) (tn := 198) rfl (by decide) rfl rfl (fun (h_702 : nI 0 = 0) => ?_) (fun (h_702 : ¬ (nI 0 = 0)) => ?_)
    rotate_left
    · exact absurd (by decide) h_702
    refine am_run 4 (pc' := 219) (ls' := [some (.ref 44), some (.int (nI tr)), some (.int (nI lc)), some (.int (nI br)), some (.int (nI 42)), some (.int (nI st)), some (.int (nI tr)), some (.int (nI lc)), some (.int v3), some (.int (nI 0)), some (.int (-1))]) (st' := [.ref (τ 44 1)]) (σ' := (μ3, τ)) rfl ?_
    refine am_stk (st' := [.ref t]) (by rw [ht]) ?_
    refine am_run 3 (pc' := 225) (ls' := [some (.ref 44), some (.int (nI tr)), some (.int (nI lc)), some (.int (nI br)), some (.int (nI 42)), some (.int (nI st)), some (.int (nI tr)), some (.int (nI lc)), some (.int v3), some (.int (nI 0)), some (.int (-1))]) (st' := [.int (-1), .int v3, .int (nI st), .ref t]) (σ' := (μ3, τ)) rfl ?_
    refine am_invv (y := 111) (b := t) (as := [.int (nI st), .int v3, .int (-1)]) (rest := []) rfl rfl rfl rfl rfl rfl (t3_kind hT3) (Nat.le_of_ble_eq_true rfl) ?_
    refine c_setOps_f (by omega) hT3 (fun μ9 hK9 h449 => ?_)
    have hF9 := hF3.of h449
    have hX9 := hK9.xc hT3 hX3
    show am_G _ M_X6_readPart _ 228 [some (.ref 44), some (.int (nI tr)), some (.int (nI lc)), some (.int (nI br)), some (.int (nI 42)), some (.int (nI st)), some (.int (nI tr)), some (.int (nI lc)), some (.int v3), some (.int (nI 0)), some (.int (-1))] [] (μ9, τ)
    refine am_run 1 (pc' := 230) (ls' := [some (.ref 44), some (.int (nI tr)), some (.int (nI lc)), some (.int (nI br)), some (.int (nI 42)), some (.int (nI st)), some (.int (nI tr)), some (.int (nI lc)), some (.int v3), some (.int (nI 0)), some (.int (-1))]) (st' := [.int (nI st)]) (σ' := (μ9, τ)) rfl ?_
    refine am_reti rfl rfl ?_
    exact hF μ9 _ _ _ (by rw [eb, e3]) (hK3.tr hK9) hX9 hF9
  · show am_G _ M_X6_readPart _ 168 [some (.ref 44), some (.int (nI tr)), some (.int (nI lc)), some (.int (nI br)), some (.int (nI 42)), some (.int (nI st)), some (.int (nI tr)), some (.int (nI lc)), none, none, none] [.int (nI r3)] (μ3, τ)
    refine am_run 3 (pc' := 174) (ls' := [some (.ref 44), some (.int (nI tr)), some (.int (nI lc)), some (.int (nI br)), some (.int (nI 42)), some (.int (nI st)), some (.int (nI tr)), some (.int (nI lc)), some (.int (nI r3)), none, none]) (st' := [.int (nI 63), .int (nI 42)]) (σ' := (μ3, τ)) rfl ?_
    refine am_ic (ty := 177) (tn := 190) rfl (by decide) rfl rfl (fun (h_801 : nI 42 = nI 63) => ?_) (fun (h_801 : ¬ (nI 42 = nI 63)) => ?_)
    · exact absurd h_801 (by decide)
    refine am_run 3 (pc' := 195) (ls' := [some (.ref 44), some (.int (nI tr)), some (.int (nI lc)), some (.int (nI br)), some (.int (nI 42)), some (.int (nI st)), some (.int (nI tr)), some (.int (nI lc)), some (.int (nI r3)), some (.int (nI 0)), none]) (st' := [.int (nI 0)]) (σ' := (μ3, τ)) rfl ?_
    refine am_if (ty := 212) (tn := 198) rfl (by decide) rfl rfl (fun (h_802 : nI 0 = 0) => ?_) (fun (h_802 : ¬ (nI 0 = 0)) => ?_)
    rotate_left
    · exact absurd (by decide) h_802
    refine am_run 4 (pc' := 219) (ls' := [some (.ref 44), some (.int (nI tr)), some (.int (nI lc)), some (.int (nI br)), some (.int (nI 42)), some (.int (nI st)), some (.int (nI tr)), some (.int (nI lc)), some (.int (nI r3)), some (.int (nI 0)), some (.int (-1))]) (st' := [.ref (τ 44 1)]) (σ' := (μ3, τ)) rfl ?_
    refine am_stk (st' := [.ref t]) (by rw [ht]) ?_
    refine am_run 3 (pc' := 225) (ls' := [some (.ref 44), some (.int (nI tr)), some (.int (nI lc)), some (.int (nI br)), some (.int (nI 42)), some (.int (nI st)), some (.int (nI tr)), some (.int (nI lc)), some (.int (nI r3)), some (.int (nI 0)), some (.int (-1))]) (st' := [.int (-1), .int (nI r3), .int (nI st), .ref t]) (σ' := (μ3, τ)) rfl ?_
    refine am_invv (y := 111) (b := t) (as := [.int (nI st), .int (nI r3), .int (-1)]) (rest := []) rfl rfl rfl rfl rfl rfl (t3_kind hT3) (Nat.le_of_ble_eq_true rfl) ?_
    rw [← oI_0]
    refine c_setOps (by omega) hT3 hC3 (st := st) (l := r3) (r := 0) (show st < S3.2.1 by have : S.2.1 ≤ r3 := hr3; omega) (show r3 < S3.2.1 from hr3b) (by omega) (by omega) (by omega) (fun μ9 hK9 h449 hC9 => ?_)
    show am_G _ M_X6_readPart _ 228 [some (.ref 44), some (.int (nI tr)), some (.int (nI lc)), some (.int (nI br)), some (.int (nI 42)), some (.int (nI st)), some (.int (nI tr)), some (.int (nI lc)), some (.int (nI r3)), some (.int (nI 0)), some (.int (-1))] [] (μ9, τ)
    refine am_run 1 (pc' := 230) (ls' := [some (.ref 44), some (.int (nI tr)), some (.int (nI lc)), some (.int (nI br)), some (.int (nI 42)), some (.int (nI st)), some (.int (nI tr)), some (.int (nI lc)), some (.int (nI r3)), some (.int (nI 0)), some (.int (-1))]) (st' := [.int (nI st)]) (σ' := (μ9, τ)) rfl ?_
    refine am_reti rfl rfl ?_
    have hK10 : KC μ μ9 t := (hK3.tr hK9)
    exact hS μ9 _ st (by rw [eb, e3]) hK10 (hK10.xc hT3 hX) hC9 rfl (by have : S.2.1 ≤ r3 := hr3; show st < _; show st < S3.2.1; omega)
set_option maxRecDepth 10000 in
set_option maxHeartbeats 2000000 in
theorem c_blk_94 {d : Nat} (hd : 5 ≤ d) {μ : Nat → Nat → Int32} {τ : Nat → Nat → Nat} {t L : Nat} {tx : Nat → Nat} {S : PS} (hT3 : T3 t) (hX : XC μ L tx) (hC : CR μ t L S) (ht : τ 44 1 = t) {blk : Option (Nat → Nat → PS → RS)} {br m tr lc st : Nat} (hE : ECt d τ t L tx blk br m) (htr : tr + m ≤ 40) (hlc : lc ≤ 3) (hst : st < S.2.1) {Q : am_Q} (hF : ∀ μ' v k fp, p_blk tx L blk 94 tr lc st S = .inl (k, fp) → KC μ μ' t → XC μ' L tx → FR μ' k fp → Q (some (.int v)) (μ', τ)) (hS : ∀ μ' S' r, p_blk tx L blk 94 tr lc st S = .inr (S', r) → KC μ μ' t → XC μ' L tx → CR μ' t L S' → r = st → r < S'.2.1 → Q (some (.int (nI r))) (μ', τ)) : am_G d M_X6_readPart Q 115 [some (.ref 44), some (.int (nI tr)), some (.int (nI lc)), some (.int (nI br)), some (.int (nI 94)), some (.int (nI st)), none, none, none, none, none] [] (μ, τ) := by
  have eb : p_blk tx L blk 94 tr lc st S = (match p_enc tx L blk 123 125 (tr + 1) (lc) S with | .inl e => .inl e | .inr (S3, f) => .inr (ps_ops S3 st (f + 1) 0, st)) := rfl
  refine am_run 1 (pc' := 117) (ls' := [some (.ref 44), some (.int (nI tr)), some (.int (nI lc)), some (.int (nI br)), some (.int (nI 94)), some (.int (nI st)), none, none, none, none, none]) (st' := [.int (nI 94)]) (σ' := (μ, τ)) rfl ?_
  refine am_invs (y := 90) (as := [.int (nI 94)]) (rest := []) rfl rfl rfl rfl rfl rfl (Nat.le_of_ble_eq_true rfl) ?_
  rw [← tI_n (show 94 < 256 by decide)]
  refine c_hasBlock (by omega) (by decide) (fun _ => ?_) (fun z => absurd z (by decide))
  show am_G _ M_X6_readPart _ 120 [some (.ref 44), some (.int (nI tr)), some (.int (nI lc)), some (.int (nI br)), some (.int (nI 94)), some (.int (nI st)), none, none, none, none, none] [.int (nI 1)] (μ, τ)
  refine am_if (ty := 228) (tn := 123) rfl (by decide) rfl rfl (fun (h_1 : nI 1 = 0) => ?_) (fun (h_1 : ¬ (nI 1 = 0)) => ?_)
  · exact absurd h_1 (by decide)
  refine am_run 2 (pc' := 127) (ls' := [some (.ref 44), some (.int (nI tr)), some (.int (nI lc)), some (.int (nI br)), some (.int (nI 94)), some (.int (nI st)), none, none, none, none, none]) (st' := [.int (nI 94), .int (nI 94)]) (σ' := (μ, τ)) rfl ?_
  refine am_ic (ty := 130) (tn := 136) rfl (by decide) rfl rfl (fun (h_2 : nI 94 = nI 94) => ?_) (fun (h_2 : ¬ (nI 94 = nI 94)) => ?_)
  rotate_left
  · exact absurd (by decide) h_2
  refine am_run 3 (pc' := 133) (ls' := [some (.ref 44), some (.int (nI tr)), some (.int (nI lc)), some (.int (nI br)), some (.int (nI 94)), some (.int (nI st)), none, none, none, none, none]) (st' := [.int (nI tr + nI 1)]) (σ' := (μ, τ)) rfl ?_
  refine am_top (v' := nI (tr + 1)) (nI_add _ _) ?_
  refine am_run 4 (pc' := 143) (ls' := [some (.ref 44), some (.int (nI tr)), some (.int (nI lc)), some (.int (nI br)), some (.int (nI 94)), some (.int (nI st)), some (.int (nI (tr + 1))), none, none, none, none]) (st' := [.int (nI 36), .int (nI 94)]) (σ' := (μ, τ)) rfl ?_
  refine am_ic (ty := 146) (tn := 152) rfl (by decide) rfl rfl (fun (h_3 : nI 94 = nI 36) => ?_) (fun (h_3 : ¬ (nI 94 = nI 36)) => ?_)
  · exact absurd h_3 (by decide)
  refine am_run 8 (pc' := 165) (ls' := [some (.ref 44), some (.int (nI tr)), some (.int (nI lc)), some (.int (nI br)), some (.int (nI 94)), some (.int (nI st)), some (.int (nI (tr + 1))), some (.int (nI lc)), none, none, none]) (st' := [.int (nI br), .int (nI lc), .int (nI (tr + 1)), .int (nI 125), .int (nI 123), .ref 44]) (σ' := (μ, τ)) rfl ?_
  refine am_invv (y := 92) (b := 44) (as := [.int (nI 123), .int (nI 125), .int (nI (tr + 1)), .int (nI lc), .int (nI br)]) (rest := []) rfl rfl rfl rfl rfl rfl rfl (Nat.le_of_ble_eq_true rfl) ?_
  refine hE μ S 123 125 (tr + 1) (lc) _ (by decide) (by decide) hX hC (by omega) (by omega) (fun μ3 v3 k3 fp3 e3 hK3 hX3 hF3 => ?_) (fun μ3 S3 r3 e3 hK3 hX3 hC3 hr3 hr3b => ?_)
  · show am_G _ M_X6_readPart _ 168 [some (.ref 44), some (.int (nI tr)), some (.int (nI lc)), some (.int (nI br)), some (.int (nI 94)), some (.int (nI st)), some (.int (nI (tr + 1))), some (.int (nI lc)), none, none, none] [.int v3] (μ3, τ)
    refine am_run 3 (pc' := 174) (ls' := [some (.ref 44), some (.int (nI tr)), some (.int (nI lc)), some (.int (nI br)), some (.int (nI 94)), some (.int (nI st)), some (.int (nI (tr + 1))), some (.int (nI lc)), some (.int v3), none, none]) (st' := [.int (nI 63), .int (nI 94)]) (σ' := (μ3, τ)) rfl ?_
    refine am_ic (ty := 177) (tn := 190) rfl (by decide) rfl rfl (fun (h_701 : nI 94 = nI 63) => ?_) (fun (h_701 : ¬ (nI 94 = nI 63)) => ?_)
    · exact absurd h_701 (by decide)
    refine am_run 3 (pc' := 195) (ls' := [some (.ref 44), some (.int (nI tr)), some (.int (nI lc)), some (.int (nI br)), some (.int (nI 94)), some (.int (nI st)), some (.int (nI (tr + 1))), some (.int (nI lc)), some (.int v3), some (.int (nI 0)), none]) (st' := [.int (nI 0)]) (σ' := (μ3, τ)) rfl ?_
    refine am_if (ty := 212) (tn := 198) rfl (by decide) rfl rfl (fun (h_702 : nI 0 = 0) => ?_) (fun (h_702 : ¬ (nI 0 = 0)) => ?_)
    rotate_left
    · exact absurd (by decide) h_702
    refine am_run 4 (pc' := 219) (ls' := [some (.ref 44), some (.int (nI tr)), some (.int (nI lc)), some (.int (nI br)), some (.int (nI 94)), some (.int (nI st)), some (.int (nI (tr + 1))), some (.int (nI lc)), some (.int v3), some (.int (nI 0)), some (.int (-1))]) (st' := [.ref (τ 44 1)]) (σ' := (μ3, τ)) rfl ?_
    refine am_stk (st' := [.ref t]) (by rw [ht]) ?_
    refine am_run 3 (pc' := 225) (ls' := [some (.ref 44), some (.int (nI tr)), some (.int (nI lc)), some (.int (nI br)), some (.int (nI 94)), some (.int (nI st)), some (.int (nI (tr + 1))), some (.int (nI lc)), some (.int v3), some (.int (nI 0)), some (.int (-1))]) (st' := [.int (-1), .int v3, .int (nI st), .ref t]) (σ' := (μ3, τ)) rfl ?_
    refine am_invv (y := 111) (b := t) (as := [.int (nI st), .int v3, .int (-1)]) (rest := []) rfl rfl rfl rfl rfl rfl (t3_kind hT3) (Nat.le_of_ble_eq_true rfl) ?_
    refine c_setOps_f (by omega) hT3 (fun μ9 hK9 h449 => ?_)
    have hF9 := hF3.of h449
    have hX9 := hK9.xc hT3 hX3
    show am_G _ M_X6_readPart _ 228 [some (.ref 44), some (.int (nI tr)), some (.int (nI lc)), some (.int (nI br)), some (.int (nI 94)), some (.int (nI st)), some (.int (nI (tr + 1))), some (.int (nI lc)), some (.int v3), some (.int (nI 0)), some (.int (-1))] [] (μ9, τ)
    refine am_run 1 (pc' := 230) (ls' := [some (.ref 44), some (.int (nI tr)), some (.int (nI lc)), some (.int (nI br)), some (.int (nI 94)), some (.int (nI st)), some (.int (nI (tr + 1))), some (.int (nI lc)), some (.int v3), some (.int (nI 0)), some (.int (-1))]) (st' := [.int (nI st)]) (σ' := (μ9, τ)) rfl ?_
    refine am_reti rfl rfl ?_
    exact hF μ9 _ _ _ (by rw [eb, e3]) (hK3.tr hK9) hX9 hF9
  · show am_G _ M_X6_readPart _ 168 [some (.ref 44), some (.int (nI tr)), some (.int (nI lc)), some (.int (nI br)), some (.int (nI 94)), some (.int (nI st)), some (.int (nI (tr + 1))), some (.int (nI lc)), none, none, none] [.int (nI r3)] (μ3, τ)
    refine am_run 3 (pc' := 174) (ls' := [some (.ref 44), some (.int (nI tr)), some (.int (nI lc)), some (.int (nI br)), some (.int (nI 94)), some (.int (nI st)), some (.int (nI (tr + 1))), some (.int (nI lc)), some (.int (nI r3)), none, none]) (st' := [.int (nI 63), .int (nI 94)]) (σ' := (μ3, τ)) rfl ?_
    refine am_ic (ty := 177) (tn := 190) rfl (by decide) rfl rfl (fun (h_801 : nI 94 = nI 63) => ?_) (fun (h_801 : ¬ (nI 94 = nI 63)) => ?_)
    · exact absurd h_801 (by decide)
    refine am_run 3 (pc' := 195) (ls' := [some (.ref 44), some (.int (nI tr)), some (.int (nI lc)), some (.int (nI br)), some (.int (nI 94)), some (.int (nI st)), some (.int (nI (tr + 1))), some (.int (nI lc)), some (.int (nI r3)), some (.int (nI 0)), none]) (st' := [.int (nI 0)]) (σ' := (μ3, τ)) rfl ?_
    refine am_if (ty := 212) (tn := 198) rfl (by decide) rfl rfl (fun (h_802 : nI 0 = 0) => ?_) (fun (h_802 : ¬ (nI 0 = 0)) => ?_)
    rotate_left
    · exact absurd (by decide) h_802
    refine am_run 4 (pc' := 219) (ls' := [some (.ref 44), some (.int (nI tr)), some (.int (nI lc)), some (.int (nI br)), some (.int (nI 94)), some (.int (nI st)), some (.int (nI (tr + 1))), some (.int (nI lc)), some (.int (nI r3)), some (.int (nI 0)), some (.int (-1))]) (st' := [.ref (τ 44 1)]) (σ' := (μ3, τ)) rfl ?_
    refine am_stk (st' := [.ref t]) (by rw [ht]) ?_
    refine am_run 3 (pc' := 225) (ls' := [some (.ref 44), some (.int (nI tr)), some (.int (nI lc)), some (.int (nI br)), some (.int (nI 94)), some (.int (nI st)), some (.int (nI (tr + 1))), some (.int (nI lc)), some (.int (nI r3)), some (.int (nI 0)), some (.int (-1))]) (st' := [.int (-1), .int (nI r3), .int (nI st), .ref t]) (σ' := (μ3, τ)) rfl ?_
    refine am_invv (y := 111) (b := t) (as := [.int (nI st), .int (nI r3), .int (-1)]) (rest := []) rfl rfl rfl rfl rfl rfl (t3_kind hT3) (Nat.le_of_ble_eq_true rfl) ?_
    rw [← oI_0]
    refine c_setOps (by omega) hT3 hC3 (st := st) (l := r3) (r := 0) (show st < S3.2.1 by have : S.2.1 ≤ r3 := hr3; omega) (show r3 < S3.2.1 from hr3b) (by omega) (by omega) (by omega) (fun μ9 hK9 h449 hC9 => ?_)
    show am_G _ M_X6_readPart _ 228 [some (.ref 44), some (.int (nI tr)), some (.int (nI lc)), some (.int (nI br)), some (.int (nI 94)), some (.int (nI st)), some (.int (nI (tr + 1))), some (.int (nI lc)), some (.int (nI r3)), some (.int (nI 0)), some (.int (-1))] [] (μ9, τ)
    refine am_run 1 (pc' := 230) (ls' := [some (.ref 44), some (.int (nI tr)), some (.int (nI lc)), some (.int (nI br)), some (.int (nI 94)), some (.int (nI st)), some (.int (nI (tr + 1))), some (.int (nI lc)), some (.int (nI r3)), some (.int (nI 0)), some (.int (-1))]) (st' := [.int (nI st)]) (σ' := (μ9, τ)) rfl ?_
    refine am_reti rfl rfl ?_
    have hK10 : KC μ μ9 t := (hK3.tr hK9)
    exact hS μ9 _ st (by rw [eb, e3]) hK10 (hK10.xc hT3 hX) hC9 rfl (by have : S.2.1 ≤ r3 := hr3; show st < _; show st < S3.2.1; omega)
set_option maxRecDepth 10000 in
set_option maxHeartbeats 2000000 in
theorem c_blk_64 {d : Nat} (hd : 5 ≤ d) {μ : Nat → Nat → Int32} {τ : Nat → Nat → Nat} {t L : Nat} {tx : Nat → Nat} {S : PS} (hT3 : T3 t) (hX : XC μ L tx) (hC : CR μ t L S) (ht : τ 44 1 = t) {blk : Option (Nat → Nat → PS → RS)} {br m tr lc st : Nat} (hE : ECt d τ t L tx blk br m) (htr : tr + m ≤ 40) (hlc : lc ≤ 3) (hst : st < S.2.1) {Q : am_Q} (hF : ∀ μ' v k fp, p_blk tx L blk 64 tr lc st S = .inl (k, fp) → KC μ μ' t → XC μ' L tx → FR μ' k fp → Q (some (.int v)) (μ', τ)) (hS : ∀ μ' S' r, p_blk tx L blk 64 tr lc st S = .inr (S', r) → KC μ μ' t → XC μ' L tx → CR μ' t L S' → r = st → r < S'.2.1 → Q (some (.int (nI r))) (μ', τ)) : am_G d M_X6_readPart Q 115 [some (.ref 44), some (.int (nI tr)), some (.int (nI lc)), some (.int (nI br)), some (.int (nI 64)), some (.int (nI st)), none, none, none, none, none] [] (μ, τ) := by
  have eb : p_blk tx L blk 64 tr lc st S = (match p_enc tx L blk 123 125 (tr) (lc) S with | .inl e => .inl e | .inr (S3, f) => .inr (ps_ops S3 st (f + 1) 0, st)) := rfl
  refine am_run 1 (pc' := 117) (ls' := [some (.ref 44), some (.int (nI tr)), some (.int (nI lc)), some (.int (nI br)), some (.int (nI 64)), some (.int (nI st)), none, none, none, none, none]) (st' := [.int (nI 64)]) (σ' := (μ, τ)) rfl ?_
  refine am_invs (y := 90) (as := [.int (nI 64)]) (rest := []) rfl rfl rfl rfl rfl rfl (Nat.le_of_ble_eq_true rfl) ?_
  rw [← tI_n (show 64 < 256 by decide)]
  refine c_hasBlock (by omega) (by decide) (fun _ => ?_) (fun z => absurd z (by decide))
  show am_G _ M_X6_readPart _ 120 [some (.ref 44), some (.int (nI tr)), some (.int (nI lc)), some (.int (nI br)), some (.int (nI 64)), some (.int (nI st)), none, none, none, none, none] [.int (nI 1)] (μ, τ)
  refine am_if (ty := 228) (tn := 123) rfl (by decide) rfl rfl (fun (h_1 : nI 1 = 0) => ?_) (fun (h_1 : ¬ (nI 1 = 0)) => ?_)
  · exact absurd h_1 (by decide)
  refine am_run 2 (pc' := 127) (ls' := [some (.ref 44), some (.int (nI tr)), some (.int (nI lc)), some (.int (nI br)), some (.int (nI 64)), some (.int (nI st)), none, none, none, none, none]) (st' := [.int (nI 94), .int (nI 64)]) (σ' := (μ, τ)) rfl ?_
  refine am_ic (ty := 130) (tn := 136) rfl (by decide) rfl rfl (fun (h_2 : nI 64 = nI 94) => ?_) (fun (h_2 : ¬ (nI 64 = nI 94)) => ?_)
  · exact absurd h_2 (by decide)
  refine am_run 4 (pc' := 143) (ls' := [some (.ref 44), some (.int (nI tr)), some (.int (nI lc)), some (.int (nI br)), some (.int (nI 64)), some (.int (nI st)), some (.int (nI tr)), none, none, none, none]) (st' := [.int (nI 36), .int (nI 64)]) (σ' := (μ, τ)) rfl ?_
  refine am_ic (ty := 146) (tn := 152) rfl (by decide) rfl rfl (fun (h_3 : nI 64 = nI 36) => ?_) (fun (h_3 : ¬ (nI 64 = nI 36)) => ?_)
  · exact absurd h_3 (by decide)
  refine am_run 8 (pc' := 165) (ls' := [some (.ref 44), some (.int (nI tr)), some (.int (nI lc)), some (.int (nI br)), some (.int (nI 64)), some (.int (nI st)), some (.int (nI tr)), some (.int (nI lc)), none, none, none]) (st' := [.int (nI br), .int (nI lc), .int (nI tr), .int (nI 125), .int (nI 123), .ref 44]) (σ' := (μ, τ)) rfl ?_
  refine am_invv (y := 92) (b := 44) (as := [.int (nI 123), .int (nI 125), .int (nI tr), .int (nI lc), .int (nI br)]) (rest := []) rfl rfl rfl rfl rfl rfl rfl (Nat.le_of_ble_eq_true rfl) ?_
  refine hE μ S 123 125 (tr) (lc) _ (by decide) (by decide) hX hC (by omega) (by omega) (fun μ3 v3 k3 fp3 e3 hK3 hX3 hF3 => ?_) (fun μ3 S3 r3 e3 hK3 hX3 hC3 hr3 hr3b => ?_)
  · show am_G _ M_X6_readPart _ 168 [some (.ref 44), some (.int (nI tr)), some (.int (nI lc)), some (.int (nI br)), some (.int (nI 64)), some (.int (nI st)), some (.int (nI tr)), some (.int (nI lc)), none, none, none] [.int v3] (μ3, τ)
    refine am_run 3 (pc' := 174) (ls' := [some (.ref 44), some (.int (nI tr)), some (.int (nI lc)), some (.int (nI br)), some (.int (nI 64)), some (.int (nI st)), some (.int (nI tr)), some (.int (nI lc)), some (.int v3), none, none]) (st' := [.int (nI 63), .int (nI 64)]) (σ' := (μ3, τ)) rfl ?_
    refine am_ic (ty := 177) (tn := 190) rfl (by decide) rfl rfl (fun (h_701 : nI 64 = nI 63) => ?_) (fun (h_701 : ¬ (nI 64 = nI 63)) => ?_)
    · exact absurd h_701 (by decide)
    refine am_run 3 (pc' := 195) (ls' := [some (.ref 44), some (.int (nI tr)), some (.int (nI lc)), some (.int (nI br)), some (.int (nI 64)), some (.int (nI st)), some (.int (nI tr)), some (.int (nI lc)), some (.int v3), some (.int (nI 0)), none]) (st' := [.int (nI 0)]) (σ' := (μ3, τ)) rfl ?_
    refine am_if (ty := 212) (tn := 198) rfl (by decide) rfl rfl (fun (h_702 : nI 0 = 0) => ?_) (fun (h_702 : ¬ (nI 0 = 0)) => ?_)
    rotate_left
    · exact absurd (by decide) h_702
    refine am_run 4 (pc' := 219) (ls' := [some (.ref 44), some (.int (nI tr)), some (.int (nI lc)), some (.int (nI br)), some (.int (nI 64)), some (.int (nI st)), some (.int (nI tr)), some (.int (nI lc)), some (.int v3), some (.int (nI 0)), some (.int (-1))]) (st' := [.ref (τ 44 1)]) (σ' := (μ3, τ)) rfl ?_
    refine am_stk (st' := [.ref t]) (by rw [ht]) ?_
    refine am_run 3 (pc' := 225) (ls' := [some (.ref 44), some (.int (nI tr)), some (.int (nI lc)), some (.int (nI br)), some (.int (nI 64)), some (.int (nI st)), some (.int (nI tr)), some (.int (nI lc)), some (.int v3), some (.int (nI 0)), some (.int (-1))]) (st' := [.int (-1), .int v3, .int (nI st), .ref t]) (σ' := (μ3, τ)) rfl ?_
    refine am_invv (y := 111) (b := t) (as := [.int (nI st), .int v3, .int (-1)]) (rest := []) rfl rfl rfl rfl rfl rfl (t3_kind hT3) (Nat.le_of_ble_eq_true rfl) ?_
    refine c_setOps_f (by omega) hT3 (fun μ9 hK9 h449 => ?_)
    have hF9 := hF3.of h449
    have hX9 := hK9.xc hT3 hX3
    show am_G _ M_X6_readPart _ 228 [some (.ref 44), some (.int (nI tr)), some (.int (nI lc)), some (.int (nI br)), some (.int (nI 64)), some (.int (nI st)), some (.int (nI tr)), some (.int (nI lc)), some (.int v3), some (.int (nI 0)), some (.int (-1))] [] (μ9, τ)
    refine am_run 1 (pc' := 230) (ls' := [some (.ref 44), some (.int (nI tr)), some (.int (nI lc)), some (.int (nI br)), some (.int (nI 64)), some (.int (nI st)), some (.int (nI tr)), some (.int (nI lc)), some (.int v3), some (.int (nI 0)), some (.int (-1))]) (st' := [.int (nI st)]) (σ' := (μ9, τ)) rfl ?_
    refine am_reti rfl rfl ?_
    exact hF μ9 _ _ _ (by rw [eb, e3]) (hK3.tr hK9) hX9 hF9
  · show am_G _ M_X6_readPart _ 168 [some (.ref 44), some (.int (nI tr)), some (.int (nI lc)), some (.int (nI br)), some (.int (nI 64)), some (.int (nI st)), some (.int (nI tr)), some (.int (nI lc)), none, none, none] [.int (nI r3)] (μ3, τ)
    refine am_run 3 (pc' := 174) (ls' := [some (.ref 44), some (.int (nI tr)), some (.int (nI lc)), some (.int (nI br)), some (.int (nI 64)), some (.int (nI st)), some (.int (nI tr)), some (.int (nI lc)), some (.int (nI r3)), none, none]) (st' := [.int (nI 63), .int (nI 64)]) (σ' := (μ3, τ)) rfl ?_
    refine am_ic (ty := 177) (tn := 190) rfl (by decide) rfl rfl (fun (h_801 : nI 64 = nI 63) => ?_) (fun (h_801 : ¬ (nI 64 = nI 63)) => ?_)
    · exact absurd h_801 (by decide)
    refine am_run 3 (pc' := 195) (ls' := [some (.ref 44), some (.int (nI tr)), some (.int (nI lc)), some (.int (nI br)), some (.int (nI 64)), some (.int (nI st)), some (.int (nI tr)), some (.int (nI lc)), some (.int (nI r3)), some (.int (nI 0)), none]) (st' := [.int (nI 0)]) (σ' := (μ3, τ)) rfl ?_
    refine am_if (ty := 212) (tn := 198) rfl (by decide) rfl rfl (fun (h_802 : nI 0 = 0) => ?_) (fun (h_802 : ¬ (nI 0 = 0)) => ?_)
    rotate_left
    · exact absurd (by decide) h_802
    refine am_run 4 (pc' := 219) (ls' := [some (.ref 44), some (.int (nI tr)), some (.int (nI lc)), some (.int (nI br)), some (.int (nI 64)), some (.int (nI st)), some (.int (nI tr)), some (.int (nI lc)), some (.int (nI r3)), some (.int (nI 0)), some (.int (-1))]) (st' := [.ref (τ 44 1)]) (σ' := (μ3, τ)) rfl ?_
    refine am_stk (st' := [.ref t]) (by rw [ht]) ?_
    refine am_run 3 (pc' := 225) (ls' := [some (.ref 44), some (.int (nI tr)), some (.int (nI lc)), some (.int (nI br)), some (.int (nI 64)), some (.int (nI st)), some (.int (nI tr)), some (.int (nI lc)), some (.int (nI r3)), some (.int (nI 0)), some (.int (-1))]) (st' := [.int (-1), .int (nI r3), .int (nI st), .ref t]) (σ' := (μ3, τ)) rfl ?_
    refine am_invv (y := 111) (b := t) (as := [.int (nI st), .int (nI r3), .int (-1)]) (rest := []) rfl rfl rfl rfl rfl rfl (t3_kind hT3) (Nat.le_of_ble_eq_true rfl) ?_
    rw [← oI_0]
    refine c_setOps (by omega) hT3 hC3 (st := st) (l := r3) (r := 0) (show st < S3.2.1 by have : S.2.1 ≤ r3 := hr3; omega) (show r3 < S3.2.1 from hr3b) (by omega) (by omega) (by omega) (fun μ9 hK9 h449 hC9 => ?_)
    show am_G _ M_X6_readPart _ 228 [some (.ref 44), some (.int (nI tr)), some (.int (nI lc)), some (.int (nI br)), some (.int (nI 64)), some (.int (nI st)), some (.int (nI tr)), some (.int (nI lc)), some (.int (nI r3)), some (.int (nI 0)), some (.int (-1))] [] (μ9, τ)
    refine am_run 1 (pc' := 230) (ls' := [some (.ref 44), some (.int (nI tr)), some (.int (nI lc)), some (.int (nI br)), some (.int (nI 64)), some (.int (nI st)), some (.int (nI tr)), some (.int (nI lc)), some (.int (nI r3)), some (.int (nI 0)), some (.int (-1))]) (st' := [.int (nI st)]) (σ' := (μ9, τ)) rfl ?_
    refine am_reti rfl rfl ?_
    have hK10 : KC μ μ9 t := (hK3.tr hK9)
    exact hS μ9 _ st (by rw [eb, e3]) hK10 (hK10.xc hT3 hX) hC9 rfl (by have : S.2.1 ≤ r3 := hr3; show st < _; show st < S3.2.1; omega)
set_option maxRecDepth 10000 in
set_option maxHeartbeats 2000000 in
theorem c_blk_126 {d : Nat} (hd : 5 ≤ d) {μ : Nat → Nat → Int32} {τ : Nat → Nat → Nat} {t L : Nat} {tx : Nat → Nat} {S : PS} (hT3 : T3 t) (hX : XC μ L tx) (hC : CR μ t L S) (ht : τ 44 1 = t) {blk : Option (Nat → Nat → PS → RS)} {br m tr lc st : Nat} (hE : ECt d τ t L tx blk br m) (htr : tr + m ≤ 40) (hlc : lc ≤ 3) (hst : st < S.2.1) {Q : am_Q} (hF : ∀ μ' v k fp, p_blk tx L blk 126 tr lc st S = .inl (k, fp) → KC μ μ' t → XC μ' L tx → FR μ' k fp → Q (some (.int v)) (μ', τ)) (hS : ∀ μ' S' r, p_blk tx L blk 126 tr lc st S = .inr (S', r) → KC μ μ' t → XC μ' L tx → CR μ' t L S' → r = st → r < S'.2.1 → Q (some (.int (nI r))) (μ', τ)) : am_G d M_X6_readPart Q 115 [some (.ref 44), some (.int (nI tr)), some (.int (nI lc)), some (.int (nI br)), some (.int (nI 126)), some (.int (nI st)), none, none, none, none, none] [] (μ, τ) := by
  have eb : p_blk tx L blk 126 tr lc st S = (match p_enc tx L blk 123 125 (tr) (lc) S with | .inl e => .inl e | .inr (S3, f) => .inr (ps_ops S3 st (f + 1) 0, st)) := rfl
  refine am_run 1 (pc' := 117) (ls' := [some (.ref 44), some (.int (nI tr)), some (.int (nI lc)), some (.int (nI br)), some (.int (nI 126)), some (.int (nI st)), none, none, none, none, none]) (st' := [.int (nI 126)]) (σ' := (μ, τ)) rfl ?_
  refine am_invs (y := 90) (as := [.int (nI 126)]) (rest := []) rfl rfl rfl rfl rfl rfl (Nat.le_of_ble_eq_true rfl) ?_
  rw [← tI_n (show 126 < 256 by decide)]
  refine c_hasBlock (by omega) (by decide) (fun _ => ?_) (fun z => absurd z (by decide))
  show am_G _ M_X6_readPart _ 120 [some (.ref 44), some (.int (nI tr)), some (.int (nI lc)), some (.int (nI br)), some (.int (nI 126)), some (.int (nI st)), none, none, none, none, none] [.int (nI 1)] (μ, τ)
  refine am_if (ty := 228) (tn := 123) rfl (by decide) rfl rfl (fun (h_1 : nI 1 = 0) => ?_) (fun (h_1 : ¬ (nI 1 = 0)) => ?_)
  · exact absurd h_1 (by decide)
  refine am_run 2 (pc' := 127) (ls' := [some (.ref 44), some (.int (nI tr)), some (.int (nI lc)), some (.int (nI br)), some (.int (nI 126)), some (.int (nI st)), none, none, none, none, none]) (st' := [.int (nI 94), .int (nI 126)]) (σ' := (μ, τ)) rfl ?_
  refine am_ic (ty := 130) (tn := 136) rfl (by decide) rfl rfl (fun (h_2 : nI 126 = nI 94) => ?_) (fun (h_2 : ¬ (nI 126 = nI 94)) => ?_)
  · exact absurd h_2 (by decide)
  refine am_run 4 (pc' := 143) (ls' := [some (.ref 44), some (.int (nI tr)), some (.int (nI lc)), some (.int (nI br)), some (.int (nI 126)), some (.int (nI st)), some (.int (nI tr)), none, none, none, none]) (st' := [.int (nI 36), .int (nI 126)]) (σ' := (μ, τ)) rfl ?_
  refine am_ic (ty := 146) (tn := 152) rfl (by decide) rfl rfl (fun (h_3 : nI 126 = nI 36) => ?_) (fun (h_3 : ¬ (nI 126 = nI 36)) => ?_)
  · exact absurd h_3 (by decide)
  refine am_run 8 (pc' := 165) (ls' := [some (.ref 44), some (.int (nI tr)), some (.int (nI lc)), some (.int (nI br)), some (.int (nI 126)), some (.int (nI st)), some (.int (nI tr)), some (.int (nI lc)), none, none, none]) (st' := [.int (nI br), .int (nI lc), .int (nI tr), .int (nI 125), .int (nI 123), .ref 44]) (σ' := (μ, τ)) rfl ?_
  refine am_invv (y := 92) (b := 44) (as := [.int (nI 123), .int (nI 125), .int (nI tr), .int (nI lc), .int (nI br)]) (rest := []) rfl rfl rfl rfl rfl rfl rfl (Nat.le_of_ble_eq_true rfl) ?_
  refine hE μ S 123 125 (tr) (lc) _ (by decide) (by decide) hX hC (by omega) (by omega) (fun μ3 v3 k3 fp3 e3 hK3 hX3 hF3 => ?_) (fun μ3 S3 r3 e3 hK3 hX3 hC3 hr3 hr3b => ?_)
  · show am_G _ M_X6_readPart _ 168 [some (.ref 44), some (.int (nI tr)), some (.int (nI lc)), some (.int (nI br)), some (.int (nI 126)), some (.int (nI st)), some (.int (nI tr)), some (.int (nI lc)), none, none, none] [.int v3] (μ3, τ)
    refine am_run 3 (pc' := 174) (ls' := [some (.ref 44), some (.int (nI tr)), some (.int (nI lc)), some (.int (nI br)), some (.int (nI 126)), some (.int (nI st)), some (.int (nI tr)), some (.int (nI lc)), some (.int v3), none, none]) (st' := [.int (nI 63), .int (nI 126)]) (σ' := (μ3, τ)) rfl ?_
    refine am_ic (ty := 177) (tn := 190) rfl (by decide) rfl rfl (fun (h_701 : nI 126 = nI 63) => ?_) (fun (h_701 : ¬ (nI 126 = nI 63)) => ?_)
    · exact absurd h_701 (by decide)
    refine am_run 3 (pc' := 195) (ls' := [some (.ref 44), some (.int (nI tr)), some (.int (nI lc)), some (.int (nI br)), some (.int (nI 126)), some (.int (nI st)), some (.int (nI tr)), some (.int (nI lc)), some (.int v3), some (.int (nI 0)), none]) (st' := [.int (nI 0)]) (σ' := (μ3, τ)) rfl ?_
    refine am_if (ty := 212) (tn := 198) rfl (by decide) rfl rfl (fun (h_702 : nI 0 = 0) => ?_) (fun (h_702 : ¬ (nI 0 = 0)) => ?_)
    rotate_left
    · exact absurd (by decide) h_702
    refine am_run 4 (pc' := 219) (ls' := [some (.ref 44), some (.int (nI tr)), some (.int (nI lc)), some (.int (nI br)), some (.int (nI 126)), some (.int (nI st)), some (.int (nI tr)), some (.int (nI lc)), some (.int v3), some (.int (nI 0)), some (.int (-1))]) (st' := [.ref (τ 44 1)]) (σ' := (μ3, τ)) rfl ?_
    refine am_stk (st' := [.ref t]) (by rw [ht]) ?_
    refine am_run 3 (pc' := 225) (ls' := [some (.ref 44), some (.int (nI tr)), some (.int (nI lc)), some (.int (nI br)), some (.int (nI 126)), some (.int (nI st)), some (.int (nI tr)), some (.int (nI lc)), some (.int v3), some (.int (nI 0)), some (.int (-1))]) (st' := [.int (-1), .int v3, .int (nI st), .ref t]) (σ' := (μ3, τ)) rfl ?_
    refine am_invv (y := 111) (b := t) (as := [.int (nI st), .int v3, .int (-1)]) (rest := []) rfl rfl rfl rfl rfl rfl (t3_kind hT3) (Nat.le_of_ble_eq_true rfl) ?_
    refine c_setOps_f (by omega) hT3 (fun μ9 hK9 h449 => ?_)
    have hF9 := hF3.of h449
    have hX9 := hK9.xc hT3 hX3
    show am_G _ M_X6_readPart _ 228 [some (.ref 44), some (.int (nI tr)), some (.int (nI lc)), some (.int (nI br)), some (.int (nI 126)), some (.int (nI st)), some (.int (nI tr)), some (.int (nI lc)), some (.int v3), some (.int (nI 0)), some (.int (-1))] [] (μ9, τ)
    refine am_run 1 (pc' := 230) (ls' := [some (.ref 44), some (.int (nI tr)), some (.int (nI lc)), some (.int (nI br)), some (.int (nI 126)), some (.int (nI st)), some (.int (nI tr)), some (.int (nI lc)), some (.int v3), some (.int (nI 0)), some (.int (-1))]) (st' := [.int (nI st)]) (σ' := (μ9, τ)) rfl ?_
    refine am_reti rfl rfl ?_
    exact hF μ9 _ _ _ (by rw [eb, e3]) (hK3.tr hK9) hX9 hF9
  · show am_G _ M_X6_readPart _ 168 [some (.ref 44), some (.int (nI tr)), some (.int (nI lc)), some (.int (nI br)), some (.int (nI 126)), some (.int (nI st)), some (.int (nI tr)), some (.int (nI lc)), none, none, none] [.int (nI r3)] (μ3, τ)
    refine am_run 3 (pc' := 174) (ls' := [some (.ref 44), some (.int (nI tr)), some (.int (nI lc)), some (.int (nI br)), some (.int (nI 126)), some (.int (nI st)), some (.int (nI tr)), some (.int (nI lc)), some (.int (nI r3)), none, none]) (st' := [.int (nI 63), .int (nI 126)]) (σ' := (μ3, τ)) rfl ?_
    refine am_ic (ty := 177) (tn := 190) rfl (by decide) rfl rfl (fun (h_801 : nI 126 = nI 63) => ?_) (fun (h_801 : ¬ (nI 126 = nI 63)) => ?_)
    · exact absurd h_801 (by decide)
    refine am_run 3 (pc' := 195) (ls' := [some (.ref 44), some (.int (nI tr)), some (.int (nI lc)), some (.int (nI br)), some (.int (nI 126)), some (.int (nI st)), some (.int (nI tr)), some (.int (nI lc)), some (.int (nI r3)), some (.int (nI 0)), none]) (st' := [.int (nI 0)]) (σ' := (μ3, τ)) rfl ?_
    refine am_if (ty := 212) (tn := 198) rfl (by decide) rfl rfl (fun (h_802 : nI 0 = 0) => ?_) (fun (h_802 : ¬ (nI 0 = 0)) => ?_)
    rotate_left
    · exact absurd (by decide) h_802
    refine am_run 4 (pc' := 219) (ls' := [some (.ref 44), some (.int (nI tr)), some (.int (nI lc)), some (.int (nI br)), some (.int (nI 126)), some (.int (nI st)), some (.int (nI tr)), some (.int (nI lc)), some (.int (nI r3)), some (.int (nI 0)), some (.int (-1))]) (st' := [.ref (τ 44 1)]) (σ' := (μ3, τ)) rfl ?_
    refine am_stk (st' := [.ref t]) (by rw [ht]) ?_
    refine am_run 3 (pc' := 225) (ls' := [some (.ref 44), some (.int (nI tr)), some (.int (nI lc)), some (.int (nI br)), some (.int (nI 126)), some (.int (nI st)), some (.int (nI tr)), some (.int (nI lc)), some (.int (nI r3)), some (.int (nI 0)), some (.int (-1))]) (st' := [.int (-1), .int (nI r3), .int (nI st), .ref t]) (σ' := (μ3, τ)) rfl ?_
    refine am_invv (y := 111) (b := t) (as := [.int (nI st), .int (nI r3), .int (-1)]) (rest := []) rfl rfl rfl rfl rfl rfl (t3_kind hT3) (Nat.le_of_ble_eq_true rfl) ?_
    rw [← oI_0]
    refine c_setOps (by omega) hT3 hC3 (st := st) (l := r3) (r := 0) (show st < S3.2.1 by have : S.2.1 ≤ r3 := hr3; omega) (show r3 < S3.2.1 from hr3b) (by omega) (by omega) (by omega) (fun μ9 hK9 h449 hC9 => ?_)
    show am_G _ M_X6_readPart _ 228 [some (.ref 44), some (.int (nI tr)), some (.int (nI lc)), some (.int (nI br)), some (.int (nI 126)), some (.int (nI st)), some (.int (nI tr)), some (.int (nI lc)), some (.int (nI r3)), some (.int (nI 0)), some (.int (-1))] [] (μ9, τ)
    refine am_run 1 (pc' := 230) (ls' := [some (.ref 44), some (.int (nI tr)), some (.int (nI lc)), some (.int (nI br)), some (.int (nI 126)), some (.int (nI st)), some (.int (nI tr)), some (.int (nI lc)), some (.int (nI r3)), some (.int (nI 0)), some (.int (-1))]) (st' := [.int (nI st)]) (σ' := (μ9, τ)) rfl ?_
    refine am_reti rfl rfl ?_
    have hK10 : KC μ μ9 t := (hK3.tr hK9)
    exact hS μ9 _ st (by rw [eb, e3]) hK10 (hK10.xc hT3 hX) hC9 rfl (by have : S.2.1 ≤ r3 := hr3; show st < _; show st < S3.2.1; omega)
set_option maxRecDepth 10000 in
set_option maxHeartbeats 2000000 in
theorem c_blk_36 {d : Nat} (hd : 5 ≤ d) {μ : Nat → Nat → Int32} {τ : Nat → Nat → Nat} {t L : Nat} {tx : Nat → Nat} {S : PS} (hT3 : T3 t) (hX : XC μ L tx) (hC : CR μ t L S) (ht : τ 44 1 = t) {blk : Option (Nat → Nat → PS → RS)} {br m tr lc st : Nat} (hE : ECt d τ t L tx blk br m) (htr : tr + m ≤ 40) (hlc : lc ≤ 2) (hst : st < S.2.1) {Q : am_Q} (hF : ∀ μ' v k fp, p_blk tx L blk 36 tr lc st S = .inl (k, fp) → KC μ μ' t → XC μ' L tx → FR μ' k fp → Q (some (.int v)) (μ', τ)) (hS : ∀ μ' S' r, p_blk tx L blk 36 tr lc st S = .inr (S', r) → KC μ μ' t → XC μ' L tx → CR μ' t L S' → r = st → r < S'.2.1 → Q (some (.int (nI r))) (μ', τ)) : am_G d M_X6_readPart Q 115 [some (.ref 44), some (.int (nI tr)), some (.int (nI lc)), some (.int (nI br)), some (.int (nI 36)), some (.int (nI st)), none, none, none, none, none] [] (μ, τ) := by
  have eb : p_blk tx L blk 36 tr lc st S = (match p_enc tx L blk 123 125 (tr) (lc + 1) S with | .inl e => .inl e | .inr (S3, f) => .inr (ps_ops S3 st (f + 1) 0, st)) := rfl
  refine am_run 1 (pc' := 117) (ls' := [some (.ref 44), some (.int (nI tr)), some (.int (nI lc)), some (.int (nI br)), some (.int (nI 36)), some (.int (nI st)), none, none, none, none, none]) (st' := [.int (nI 36)]) (σ' := (μ, τ)) rfl ?_
  refine am_invs (y := 90) (as := [.int (nI 36)]) (rest := []) rfl rfl rfl rfl rfl rfl (Nat.le_of_ble_eq_true rfl) ?_
  rw [← tI_n (show 36 < 256 by decide)]
  refine c_hasBlock (by omega) (by decide) (fun _ => ?_) (fun z => absurd z (by decide))
  show am_G _ M_X6_readPart _ 120 [some (.ref 44), some (.int (nI tr)), some (.int (nI lc)), some (.int (nI br)), some (.int (nI 36)), some (.int (nI st)), none, none, none, none, none] [.int (nI 1)] (μ, τ)
  refine am_if (ty := 228) (tn := 123) rfl (by decide) rfl rfl (fun (h_1 : nI 1 = 0) => ?_) (fun (h_1 : ¬ (nI 1 = 0)) => ?_)
  · exact absurd h_1 (by decide)
  refine am_run 2 (pc' := 127) (ls' := [some (.ref 44), some (.int (nI tr)), some (.int (nI lc)), some (.int (nI br)), some (.int (nI 36)), some (.int (nI st)), none, none, none, none, none]) (st' := [.int (nI 94), .int (nI 36)]) (σ' := (μ, τ)) rfl ?_
  refine am_ic (ty := 130) (tn := 136) rfl (by decide) rfl rfl (fun (h_2 : nI 36 = nI 94) => ?_) (fun (h_2 : ¬ (nI 36 = nI 94)) => ?_)
  · exact absurd h_2 (by decide)
  refine am_run 4 (pc' := 143) (ls' := [some (.ref 44), some (.int (nI tr)), some (.int (nI lc)), some (.int (nI br)), some (.int (nI 36)), some (.int (nI st)), some (.int (nI tr)), none, none, none, none]) (st' := [.int (nI 36), .int (nI 36)]) (σ' := (μ, τ)) rfl ?_
  refine am_ic (ty := 146) (tn := 152) rfl (by decide) rfl rfl (fun (h_3 : nI 36 = nI 36) => ?_) (fun (h_3 : ¬ (nI 36 = nI 36)) => ?_)
  rotate_left
  · exact absurd (by decide) h_3
  refine am_run 3 (pc' := 149) (ls' := [some (.ref 44), some (.int (nI tr)), some (.int (nI lc)), some (.int (nI br)), some (.int (nI 36)), some (.int (nI st)), some (.int (nI tr)), none, none, none, none]) (st' := [.int (nI lc + nI 1)]) (σ' := (μ, τ)) rfl ?_
  refine am_top (v' := nI (lc + 1)) (nI_add _ _) ?_
  refine am_run 8 (pc' := 165) (ls' := [some (.ref 44), some (.int (nI tr)), some (.int (nI lc)), some (.int (nI br)), some (.int (nI 36)), some (.int (nI st)), some (.int (nI tr)), some (.int (nI (lc + 1))), none, none, none]) (st' := [.int (nI br), .int (nI (lc + 1)), .int (nI tr), .int (nI 125), .int (nI 123), .ref 44]) (σ' := (μ, τ)) rfl ?_
  refine am_invv (y := 92) (b := 44) (as := [.int (nI 123), .int (nI 125), .int (nI tr), .int (nI (lc + 1)), .int (nI br)]) (rest := []) rfl rfl rfl rfl rfl rfl rfl (Nat.le_of_ble_eq_true rfl) ?_
  refine hE μ S 123 125 (tr) (lc + 1) _ (by decide) (by decide) hX hC (by omega) (by omega) (fun μ3 v3 k3 fp3 e3 hK3 hX3 hF3 => ?_) (fun μ3 S3 r3 e3 hK3 hX3 hC3 hr3 hr3b => ?_)
  · show am_G _ M_X6_readPart _ 168 [some (.ref 44), some (.int (nI tr)), some (.int (nI lc)), some (.int (nI br)), some (.int (nI 36)), some (.int (nI st)), some (.int (nI tr)), some (.int (nI (lc + 1))), none, none, none] [.int v3] (μ3, τ)
    refine am_run 3 (pc' := 174) (ls' := [some (.ref 44), some (.int (nI tr)), some (.int (nI lc)), some (.int (nI br)), some (.int (nI 36)), some (.int (nI st)), some (.int (nI tr)), some (.int (nI (lc + 1))), some (.int v3), none, none]) (st' := [.int (nI 63), .int (nI 36)]) (σ' := (μ3, τ)) rfl ?_
    refine am_ic (ty := 177) (tn := 190) rfl (by decide) rfl rfl (fun (h_701 : nI 36 = nI 63) => ?_) (fun (h_701 : ¬ (nI 36 = nI 63)) => ?_)
    · exact absurd h_701 (by decide)
    refine am_run 3 (pc' := 195) (ls' := [some (.ref 44), some (.int (nI tr)), some (.int (nI lc)), some (.int (nI br)), some (.int (nI 36)), some (.int (nI st)), some (.int (nI tr)), some (.int (nI (lc + 1))), some (.int v3), some (.int (nI 0)), none]) (st' := [.int (nI 0)]) (σ' := (μ3, τ)) rfl ?_
    refine am_if (ty := 212) (tn := 198) rfl (by decide) rfl rfl (fun (h_702 : nI 0 = 0) => ?_) (fun (h_702 : ¬ (nI 0 = 0)) => ?_)
    rotate_left
    · exact absurd (by decide) h_702
    refine am_run 4 (pc' := 219) (ls' := [some (.ref 44), some (.int (nI tr)), some (.int (nI lc)), some (.int (nI br)), some (.int (nI 36)), some (.int (nI st)), some (.int (nI tr)), some (.int (nI (lc + 1))), some (.int v3), some (.int (nI 0)), some (.int (-1))]) (st' := [.ref (τ 44 1)]) (σ' := (μ3, τ)) rfl ?_
    refine am_stk (st' := [.ref t]) (by rw [ht]) ?_
    refine am_run 3 (pc' := 225) (ls' := [some (.ref 44), some (.int (nI tr)), some (.int (nI lc)), some (.int (nI br)), some (.int (nI 36)), some (.int (nI st)), some (.int (nI tr)), some (.int (nI (lc + 1))), some (.int v3), some (.int (nI 0)), some (.int (-1))]) (st' := [.int (-1), .int v3, .int (nI st), .ref t]) (σ' := (μ3, τ)) rfl ?_
    refine am_invv (y := 111) (b := t) (as := [.int (nI st), .int v3, .int (-1)]) (rest := []) rfl rfl rfl rfl rfl rfl (t3_kind hT3) (Nat.le_of_ble_eq_true rfl) ?_
    refine c_setOps_f (by omega) hT3 (fun μ9 hK9 h449 => ?_)
    have hF9 := hF3.of h449
    have hX9 := hK9.xc hT3 hX3
    show am_G _ M_X6_readPart _ 228 [some (.ref 44), some (.int (nI tr)), some (.int (nI lc)), some (.int (nI br)), some (.int (nI 36)), some (.int (nI st)), some (.int (nI tr)), some (.int (nI (lc + 1))), some (.int v3), some (.int (nI 0)), some (.int (-1))] [] (μ9, τ)
    refine am_run 1 (pc' := 230) (ls' := [some (.ref 44), some (.int (nI tr)), some (.int (nI lc)), some (.int (nI br)), some (.int (nI 36)), some (.int (nI st)), some (.int (nI tr)), some (.int (nI (lc + 1))), some (.int v3), some (.int (nI 0)), some (.int (-1))]) (st' := [.int (nI st)]) (σ' := (μ9, τ)) rfl ?_
    refine am_reti rfl rfl ?_
    exact hF μ9 _ _ _ (by rw [eb, e3]) (hK3.tr hK9) hX9 hF9
  · show am_G _ M_X6_readPart _ 168 [some (.ref 44), some (.int (nI tr)), some (.int (nI lc)), some (.int (nI br)), some (.int (nI 36)), some (.int (nI st)), some (.int (nI tr)), some (.int (nI (lc + 1))), none, none, none] [.int (nI r3)] (μ3, τ)
    refine am_run 3 (pc' := 174) (ls' := [some (.ref 44), some (.int (nI tr)), some (.int (nI lc)), some (.int (nI br)), some (.int (nI 36)), some (.int (nI st)), some (.int (nI tr)), some (.int (nI (lc + 1))), some (.int (nI r3)), none, none]) (st' := [.int (nI 63), .int (nI 36)]) (σ' := (μ3, τ)) rfl ?_
    refine am_ic (ty := 177) (tn := 190) rfl (by decide) rfl rfl (fun (h_801 : nI 36 = nI 63) => ?_) (fun (h_801 : ¬ (nI 36 = nI 63)) => ?_)
    · exact absurd h_801 (by decide)
    refine am_run 3 (pc' := 195) (ls' := [some (.ref 44), some (.int (nI tr)), some (.int (nI lc)), some (.int (nI br)), some (.int (nI 36)), some (.int (nI st)), some (.int (nI tr)), some (.int (nI (lc + 1))), some (.int (nI r3)), some (.int (nI 0)), none]) (st' := [.int (nI 0)]) (σ' := (μ3, τ)) rfl ?_
    refine am_if (ty := 212) (tn := 198) rfl (by decide) rfl rfl (fun (h_802 : nI 0 = 0) => ?_) (fun (h_802 : ¬ (nI 0 = 0)) => ?_)
    rotate_left
    · exact absurd (by decide) h_802
    refine am_run 4 (pc' := 219) (ls' := [some (.ref 44), some (.int (nI tr)), some (.int (nI lc)), some (.int (nI br)), some (.int (nI 36)), some (.int (nI st)), some (.int (nI tr)), some (.int (nI (lc + 1))), some (.int (nI r3)), some (.int (nI 0)), some (.int (-1))]) (st' := [.ref (τ 44 1)]) (σ' := (μ3, τ)) rfl ?_
    refine am_stk (st' := [.ref t]) (by rw [ht]) ?_
    refine am_run 3 (pc' := 225) (ls' := [some (.ref 44), some (.int (nI tr)), some (.int (nI lc)), some (.int (nI br)), some (.int (nI 36)), some (.int (nI st)), some (.int (nI tr)), some (.int (nI (lc + 1))), some (.int (nI r3)), some (.int (nI 0)), some (.int (-1))]) (st' := [.int (-1), .int (nI r3), .int (nI st), .ref t]) (σ' := (μ3, τ)) rfl ?_
    refine am_invv (y := 111) (b := t) (as := [.int (nI st), .int (nI r3), .int (-1)]) (rest := []) rfl rfl rfl rfl rfl rfl (t3_kind hT3) (Nat.le_of_ble_eq_true rfl) ?_
    rw [← oI_0]
    refine c_setOps (by omega) hT3 hC3 (st := st) (l := r3) (r := 0) (show st < S3.2.1 by have : S.2.1 ≤ r3 := hr3; omega) (show r3 < S3.2.1 from hr3b) (by omega) (by omega) (by omega) (fun μ9 hK9 h449 hC9 => ?_)
    show am_G _ M_X6_readPart _ 228 [some (.ref 44), some (.int (nI tr)), some (.int (nI lc)), some (.int (nI br)), some (.int (nI 36)), some (.int (nI st)), some (.int (nI tr)), some (.int (nI (lc + 1))), some (.int (nI r3)), some (.int (nI 0)), some (.int (-1))] [] (μ9, τ)
    refine am_run 1 (pc' := 230) (ls' := [some (.ref 44), some (.int (nI tr)), some (.int (nI lc)), some (.int (nI br)), some (.int (nI 36)), some (.int (nI st)), some (.int (nI tr)), some (.int (nI (lc + 1))), some (.int (nI r3)), some (.int (nI 0)), some (.int (-1))]) (st' := [.int (nI st)]) (σ' := (μ9, τ)) rfl ?_
    refine am_reti rfl rfl ?_
    have hK10 : KC μ μ9 t := (hK3.tr hK9)
    exact hS μ9 _ st (by rw [eb, e3]) hK10 (hK10.xc hT3 hX) hC9 rfl (by have : S.2.1 ≤ r3 := hr3; show st < _; show st < S3.2.1; omega)

theorem pk_max3 {a b : Nat} (ha : 256 * a < 2 ^ 31) (hb : 256 * b < 2 ^ 31) : am_mx true (nI (256 * a)) (nI (256 * b)) = nI (256 * max a b) := by
  rw [pq_max ha hb]
  congr 1
  rcases Nat.le_total a b with h | h
  · rw [Nat.max_eq_right h, Nat.max_eq_right (by omega)]
  · rw [Nat.max_eq_left h, Nat.max_eq_left (by omega)]
set_option maxRecDepth 10000 in
theorem c_a_knowledge {d : Nat} (hd : 1 ≤ d) {σ : am_M} {Q : am_Q} {a b : Nat} (ha : a < 256) (hq : Q (some (.int (nI (a + 256 * b)))) σ) : am_C d 2 [.int (nI a), .int (nI b)] σ Q := by
  refine am_enter' (M := M_X0_knowledge) rfl rfl rfl (by omega) (ls := [some (.int (nI a)), some (.int (nI b))]) rfl (fun d' hd' => ?_)
  refine am_run 5 (pc' := 6) (ls' := [some (.int (nI a)), some (.int (nI b))]) (st' := [.int (nI a ||| ((nI b) <<< ((nI 8) &&& 31)))]) (σ' := σ) rfl ?_
  refine am_top (v' := nI (a + 256 * b)) (pq_kn b ha) ?_
  refine am_reti rfl rfl ?_
  exact hq
set_option maxRecDepth 10000 in
theorem c_a_must {d : Nat} (hd : 1 ≤ d) {σ : am_M} {Q : am_Q} {r : R4} (hr : ok4 r) (hq : Q (some (.int (nI (r.1 + 256 * r.2.2.1)))) σ) : am_C d 3 [.int (nI (eC r))] σ Q := by
  refine am_enter' (M := M_X0_must) rfl rfl rfl (by omega) (ls := [some (.int (nI (eC r)))]) rfl (fun d' hd' => ?_)
  refine am_run 3 (pc' := 5) (ls' := [some (.int (nI (eC r)))]) (st' := [.int (nI (eC r) &&& nI 32767)]) (σ' := σ) rfl ?_
  refine am_top (v' := nI (r.1 + 256 * r.2.2.1)) (pq_must (by have := hr.1; have := hr.2.2.1; omega)) ?_
  refine am_reti rfl rfl ?_
  exact hq
set_option maxRecDepth 10000 in
theorem c_a_can {d : Nat} (hd : 1 ≤ d) {σ : am_M} {Q : am_Q} {r : R4} (hr : ok4 r) (hq : Q (some (.int (nI (r.2.1 + 256 * r.2.2.2)))) σ) : am_C d 4 [.int (nI (eC r))] σ Q := by
  refine am_enter' (M := M_X0_can) rfl rfl rfl (by omega) (ls := [some (.int (nI (eC r)))]) rfl (fun d' hd' => ?_)
  refine am_run 5 (pc' := 8) (ls' := [some (.int (nI (eC r)))]) (st' := [.int (((nI (eC r)) >>> ((nI 15) &&& 31)) &&& nI 32767)]) (σ' := σ) rfl ?_
  refine am_top (v' := nI (r.2.1 + 256 * r.2.2.2)) (pq_can (by have := hr.1; have := hr.2.2.1; omega) (by have := hr.2.1; have := hr.2.2.2; omega)) ?_
  refine am_reti rfl rfl ?_
  exact hq
set_option maxRecDepth 10000 in
theorem c_a_result {d : Nat} (hd : 1 ≤ d) {σ : am_M} {Q : am_Q} {m k c q : Nat} (hm : m < 256) (hk : k < 128) (hq : Q (some (.int (nI (eC (m, c, k, q))))) σ) : am_C d 7 [.int (nI (m + 256 * k)), .int (nI (c + 256 * q))] σ Q := by
  refine am_enter' (M := M_X0_result) rfl rfl rfl (by omega) (ls := [some (.int (nI (m + 256 * k))), some (.int (nI (c + 256 * q)))]) rfl (fun d' hd' => ?_)
  refine am_run 5 (pc' := 6) (ls' := [some (.int (nI (m + 256 * k))), some (.int (nI (c + 256 * q)))]) (st' := [.int (nI (m + 256 * k) ||| ((nI (c + 256 * q)) <<< ((nI 15) &&& 31)))]) (σ' := σ) rfl ?_
  refine am_top (v' := nI (eC (m, c, k, q))) (pq_res _ (by omega)) ?_
  refine am_reti rfl rfl ?_
  exact hq
set_option maxRecDepth 10000 in
theorem c_a_certainly {d : Nat} (hd : 1 ≤ d) {σ : am_M} {Q : am_Q} {m k : Nat} (hm : m < 256) (hk : k < 128) (hq : Q (some (.int (nI (eC (m, m, k, k))))) σ) : am_C d 8 [.int (nI (m + 256 * k))] σ Q := by
  refine am_enter' (M := M_X0_certainly) rfl rfl rfl (by omega) (ls := [some (.int (nI (m + 256 * k)))]) rfl (fun d' hd' => ?_)
  refine am_run 5 (pc' := 6) (ls' := [some (.int (nI (m + 256 * k)))]) (st' := [.int (nI (m + 256 * k) ||| ((nI (m + 256 * k)) <<< ((nI 15) &&& 31)))]) (σ' := σ) rfl ?_
  refine am_top (v' := nI (eC (m, m, k, k))) (pq_res _ (by omega)) ?_
  refine am_reti rfl rfl ?_
  exact hq
set_option maxRecDepth 10000 in
theorem c_a_signals {d : Nat} (hd : 1 ≤ d) {σ : am_M} {Q : am_Q} {m k : Nat} (hm : m < 256) (hq : Q (some (.int (nI m))) σ) : am_C d 5 [.int (nI (m + 256 * k))] σ Q := by
  refine am_enter' (M := M_X0_signals) rfl rfl rfl (by omega) (ls := [some (.int (nI (m + 256 * k)))]) rfl (fun d' hd' => ?_)
  refine am_run 3 (pc' := 5) (ls' := [some (.int (nI (m + 256 * k)))]) (st' := [.int (nI (m + 256 * k) &&& nI 255)]) (σ' := σ) rfl ?_
  refine am_top (v' := nI m) (pq_lo hm) ?_
  refine am_reti rfl rfl ?_
  exact hq
set_option maxRecDepth 10000 in
theorem c_a_codes {d : Nat} (hd : 1 ≤ d) {σ : am_M} {Q : am_Q} {m k : Nat} (hm : m < 256) (hk : k < 128) (hq : Q (some (.int (nI k))) σ) : am_C d 6 [.int (nI (m + 256 * k))] σ Q := by
  refine am_enter' (M := M_X0_codes) rfl rfl rfl (by omega) (ls := [some (.int (nI (m + 256 * k)))]) rfl (fun d' hd' => ?_)
  refine am_run 3 (pc' := 4) (ls' := [some (.int (nI (m + 256 * k)))]) (st' := [.int ((nI (m + 256 * k)) >>> ((nI 8) &&& 31))]) (σ' := σ) rfl ?_
  refine am_top (v' := nI k) (pq_hi hm (by omega)) ?_
  refine am_reti rfl rfl ?_
  exact hq
set_option maxRecDepth 10000 in
theorem c_a_ended {d : Nat} (hd : 1 ≤ d) {σ : am_M} {Q : am_Q} {m k : Nat} (hm : m < 256) (hk : k < 128) (hq : Q (some (.int (nI (m + 256 * en k)))) σ) : am_C d 24 [.int (nI (m + 256 * k))] σ Q := by
  refine am_enter' (M := M_X0_ended) rfl rfl rfl (by omega) (ls := [some (.int (nI (m + 256 * k)))]) rfl (fun d' hd' => ?_)
  refine am_run 3 (pc' := 5) (ls' := [some (.int (nI (m + 256 * k)))]) (st' := [.int (nI (m + 256 * k) &&& nI 512)]) (σ' := σ) rfl ?_
  refine am_if (ty := 16) (tn := 8) rfl (by decide) rfl rfl (fun (h_1 : nI (m + 256 * k) &&& nI 512 = 0) => ?_) (fun (h_1 : ¬ (nI (m + 256 * k) &&& nI 512 = 0)) => ?_)
  · refine am_run 1 (pc' := 17) (ls' := [some (.int (nI (m + 256 * k)))]) (st' := [.int (nI (m + 256 * k))]) (σ' := σ) rfl ?_
    refine am_reti rfl rfl ?_
    have h_1 : k.testBit 1 = false := (pq_hasC (g := 1) hm (by omega) (by decide)).mp h_1
    have e : en k = k := by unfold en; rw [h_1]; rfl
    rw [e] at hq
    exact hq
  · refine am_run 4 (pc' := 17) (ls' := [some (.int (nI (m + 256 * k)))]) (st' := [.int (nI (m + 256 * k) ||| nI 256)]) (σ' := σ) rfl ?_
    refine am_reti rfl rfl ?_
    have h_1 : ¬ k.testBit 1 = false := fun z => h_1 ((pq_hasC (g := 1) hm (by omega) (by decide)).mpr z)
    have e : nI (m + 256 * k) ||| nI 256 = nI (m + 256 * en k) := by
      unfold en
      rw [if_pos (by simpa using h_1), nx_or, show (256 : Nat) = 0 + 256 * 1 from rfl, pq_or hm (by decide), Nat.or_zero]
    rw [e]
    exact hq
set_option maxRecDepth 10000 in
theorem c_a_isPresent {d : Nat} (hd : 1 ≤ d) {σ : am_M} {Q : am_Q} {P A g : Nat} (hP : P < 256) (hA : A < 256) (hg : g < 8) (h1 : P.testBit g = true → Q (some (.int (nI 1))) σ) (h0 : P.testBit g = false → Q (some (.int (nI 0))) σ) : am_C d 9 [.int (nI (2 ^ g)), .int (nI (P + 256 * A))] σ Q := by
  refine am_enter' (M := M_X0_isPresent) rfl rfl rfl (by omega) (ls := [some (.int (nI (2 ^ g))), some (.int (nI (P + 256 * A)))]) rfl (fun d' hd' => ?_)
  refine am_run 3 (pc' := 3) (ls' := [some (.int (nI (2 ^ g))), some (.int (nI (P + 256 * A)))]) (st' := [.int (nI (P + 256 * A) &&& nI (2 ^ g))]) (σ' := σ) rfl ?_
  refine am_if (ty := 10) (tn := 6) rfl (by decide) rfl rfl (fun (h_1 : nI (P + 256 * A) &&& nI (2 ^ g) = 0) => ?_) (fun (h_1 : ¬ (nI (P + 256 * A) &&& nI (2 ^ g) = 0)) => ?_)
  · refine am_run 1 (pc' := 11) (ls' := [some (.int (nI (2 ^ g))), some (.int (nI (P + 256 * A)))]) (st' := [.int (nI 0)]) (σ' := σ) rfl ?_
    refine am_retz rfl rfl (by decide) ?_
    exact h0 ((pq_hasS hP (by omega) hg).mp h_1)
  · refine am_run 2 (pc' := 11) (ls' := [some (.int (nI (2 ^ g))), some (.int (nI (P + 256 * A)))]) (st' := [.int (nI 1)]) (σ' := σ) rfl ?_
    refine am_retz rfl rfl (by decide) ?_
    exact h1 (by simpa using fun z => h_1 ((pq_hasS hP (by omega) hg).mpr z))
set_option maxRecDepth 10000 in
theorem c_a_isAbsent {d : Nat} (hd : 1 ≤ d) {σ : am_M} {Q : am_Q} {P A g : Nat} (hP : P < 256) (hA : A < 256) (hg : g < 8) (h1 : A.testBit g = true → Q (some (.int (nI 1))) σ) (h0 : A.testBit g = false → Q (some (.int (nI 0))) σ) : am_C d 10 [.int (nI (2 ^ g)), .int (nI (P + 256 * A))] σ Q := by
  refine am_enter' (M := M_X0_isAbsent) rfl rfl rfl (by omega) (ls := [some (.int (nI (2 ^ g))), some (.int (nI (P + 256 * A)))]) rfl (fun d' hd' => ?_)
  refine am_run 3 (pc' := 4) (ls' := [some (.int (nI (2 ^ g))), some (.int (nI (P + 256 * A)))]) (st' := [.int ((nI (P + 256 * A)) >>> ((nI 8) &&& 31))]) (σ' := σ) rfl ?_
  refine am_top (v' := nI A) (pq_hi hP (by omega)) ?_
  refine am_run 2 (pc' := 6) (ls' := [some (.int (nI (2 ^ g))), some (.int (nI (P + 256 * A)))]) (st' := [.int (nI A &&& nI (2 ^ g))]) (σ' := σ) rfl ?_
  refine am_if (ty := 13) (tn := 9) rfl (by decide) rfl rfl (fun (h_1 : nI A &&& nI (2 ^ g) = 0) => ?_) (fun (h_1 : ¬ (nI A &&& nI (2 ^ g) = 0)) => ?_)
  · refine am_run 1 (pc' := 14) (ls' := [some (.int (nI (2 ^ g))), some (.int (nI (P + 256 * A)))]) (st' := [.int (nI 0)]) (σ' := σ) rfl ?_
    refine am_retz rfl rfl (by decide) ?_
    exact h0 ((nx_has (by omega) (by omega)).mp h_1)
  · refine am_run 2 (pc' := 14) (ls' := [some (.int (nI (2 ^ g))), some (.int (nI (P + 256 * A)))]) (st' := [.int (nI 1)]) (σ' := σ) rfl ?_
    refine am_retz rfl rfl (by decide) ?_
    exact h1 (by simpa using fun z => h_1 ((nx_has (by omega) (by omega)).mpr z))
set_option maxRecDepth 10000 in
theorem c_a_together {d : Nat} (hd : 1 ≤ d) {σ : am_M} {Q : am_Q} {m k c q : Nat} (hm : m < 256) (hk : k < 128) (hc : c < 256) (hq7 : q < 128) (hq : Q (some (.int (nI ((m ||| c) + 256 * mx k q)))) σ) : am_C d 18 [.int (nI (m + 256 * k)), .int (nI (c + 256 * q))] σ Q := by
  have hl1 := (lb_lt k hk)
  have hl2 := (lb_lt q hq7)
  have h7 := or_lt7 hk hq7
  have h8 := or_lt8 hm hc
  refine am_enter' (M := M_X0_together) rfl rfl rfl (by omega) (ls := [some (.int (nI (m + 256 * k))), some (.int (nI (c + 256 * q))), none, none, none]) rfl (fun d' hd' => ?_)
  refine am_run 3 (pc' := 5) (ls' := [some (.int (nI (m + 256 * k))), some (.int (nI (c + 256 * q))), none, none, none]) (st' := [.int (nI (m + 256 * k) &&& nI 32512)]) (σ' := σ) rfl ?_
  refine am_top (v' := nI (256 * k)) (pq_codes hm hk) ?_
  refine am_run 3 (pc' := 10) (ls' := [some (.int (nI (m + 256 * k))), some (.int (nI (c + 256 * q))), none, none, none]) (st' := [.int (nI (m + 256 * k) &&& nI 32512), .int (nI (256 * k))]) (σ' := σ) rfl ?_
  refine am_top (v' := nI (256 * k)) (pq_codes hm hk) ?_
  refine am_run 2 (pc' := 12) (ls' := [some (.int (nI (m + 256 * k))), some (.int (nI (c + 256 * q))), none, none, none]) (st' := [.int (nI (256 * k) &&& (-(nI (256 * k))))]) (σ' := σ) rfl ?_
  refine am_top (v' := nI (256 * lb k)) (pq_low k hk) ?_
  refine am_run 4 (pc' := 18) (ls' := [some (.int (nI (m + 256 * k))), some (.int (nI (c + 256 * q))), some (.int (nI (256 * lb k))), none, none]) (st' := [.int (nI (c + 256 * q) &&& nI 32512)]) (σ' := σ) rfl ?_
  refine am_top (v' := nI (256 * q)) (pq_codes hc hq7) ?_
  refine am_run 3 (pc' := 23) (ls' := [some (.int (nI (m + 256 * k))), some (.int (nI (c + 256 * q))), some (.int (nI (256 * lb k))), none, none]) (st' := [.int (nI (c + 256 * q) &&& nI 32512), .int (nI (256 * q))]) (σ' := σ) rfl ?_
  refine am_top (v' := nI (256 * q)) (pq_codes hc hq7) ?_
  refine am_run 2 (pc' := 25) (ls' := [some (.int (nI (m + 256 * k))), some (.int (nI (c + 256 * q))), some (.int (nI (256 * lb k))), none, none]) (st' := [.int (nI (256 * q) &&& (-(nI (256 * q))))]) (σ' := σ) rfl ?_
  refine am_top (v' := nI (256 * lb q)) (pq_low q hq7) ?_
  refine am_run 4 (pc' := 29) (ls' := [some (.int (nI (m + 256 * k))), some (.int (nI (c + 256 * q))), some (.int (nI (256 * lb k))), some (.int (nI (256 * lb q))), none]) (st' := [.int (nI (m + 256 * k) ||| nI (c + 256 * q))]) (σ' := σ) rfl ?_
  refine am_top (v' := nI ((m ||| c) + 256 * (k ||| q))) (by rw [nx_or, pq_or hm hc]) ?_
  refine am_run 2 (pc' := 32) (ls' := [some (.int (nI (m + 256 * k))), some (.int (nI (c + 256 * q))), some (.int (nI (256 * lb k))), some (.int (nI (256 * lb q))), some (.int (nI ((m ||| c) + 256 * (k ||| q))))]) (st' := [.int (nI (256 * lb k))]) (σ' := σ) rfl ?_
  refine am_if (ty := 39) (tn := 35) rfl (by decide) rfl rfl (fun (h_1 : nI (256 * lb k) = 0) => ?_) (fun (h_1 : ¬ (nI (256 * lb k) = 0)) => ?_)
  · have h_1 : 256 * lb k = 0 := (am_n0 (by omega)).mp h_1
    refine am_run 3 (pc' := 45) (ls' := [some (.int (nI (m + 256 * k))), some (.int (nI (c + 256 * q))), some (.int (nI (256 * lb k))), some (.int (nI (256 * lb q))), some (.int (nI ((m ||| c) + 256 * (k ||| q))))]) (st' := [.int (nI ((m ||| c) + 256 * (k ||| q)) &&& nI 255)]) (σ' := σ) rfl ?_
    refine am_top (v' := nI ((m ||| c) + 256 * 0)) (by rw [pq_lo (or_lt8 hm hc)]; rfl) ?_
    refine am_reti rfl rfl ?_
    have e : mx k q = 0 := by
      unfold mx
      exact if_pos (by first | exact Or.inl ((lb_lt k hk).2.mp (by omega)) | exact Or.inr ((lb_lt q hq7).2.mp (by omega)))
    rw [e] at hq
    exact hq
  · have h_1 : ¬ (256 * lb k = 0) := fun z => h_1 ((am_n0 (by omega)).mpr z)
    refine am_run 1 (pc' := 36) (ls' := [some (.int (nI (m + 256 * k))), some (.int (nI (c + 256 * q))), some (.int (nI (256 * lb k))), some (.int (nI (256 * lb q))), some (.int (nI ((m ||| c) + 256 * (k ||| q))))]) (st' := [.int (nI (256 * lb q))]) (σ' := σ) rfl ?_
    refine am_if (ty := 39) (tn := 46) rfl (by decide) rfl rfl (fun (h_2 : nI (256 * lb q) = 0) => ?_) (fun (h_2 : ¬ (nI (256 * lb q) = 0)) => ?_)
    · have h_2 : 256 * lb q = 0 := (am_n0 (by omega)).mp h_2
      refine am_run 3 (pc' := 45) (ls' := [some (.int (nI (m + 256 * k))), some (.int (nI (c + 256 * q))), some (.int (nI (256 * lb k))), some (.int (nI (256 * lb q))), some (.int (nI ((m ||| c) + 256 * (k ||| q))))]) (st' := [.int (nI ((m ||| c) + 256 * (k ||| q)) &&& nI 255)]) (σ' := σ) rfl ?_
      refine am_top (v' := nI ((m ||| c) + 256 * 0)) (by rw [pq_lo (or_lt8 hm hc)]; rfl) ?_
      refine am_reti rfl rfl ?_
      have e : mx k q = 0 := by
        unfold mx
        exact if_pos (by first | exact Or.inl ((lb_lt k hk).2.mp (by omega)) | exact Or.inr ((lb_lt q hq7).2.mp (by omega)))
      rw [e] at hq
      exact hq
    · have h_2 : ¬ (256 * lb q = 0) := fun z => h_2 ((am_n0 (by omega)).mpr z)
      refine am_run 6 (pc' := 56) (ls' := [some (.int (nI (m + 256 * k))), some (.int (nI (c + 256 * q))), some (.int (nI (256 * lb k))), some (.int (nI (256 * lb q))), some (.int (nI ((m ||| c) + 256 * (k ||| q))))]) (st' := [.int (nI (256 * lb q)), .int (nI (256 * lb k)), .int (nI ((m ||| c) + 256 * (k ||| q))), .int (nI ((m ||| c) + 256 * (k ||| q)) &&& nI 255)]) (σ' := σ) rfl ?_
      refine am_mxr (b := true) rfl rfl (Nat.le_of_ble_eq_true rfl) ?_
      refine am_top (v' := nI (256 * max (lb k) (lb q))) (by rw [pk_max3 (by omega) (by omega)]) ?_
      refine am_run 3 (pc' := 62) (ls' := [some (.int (nI (m + 256 * k))), some (.int (nI (c + 256 * q))), some (.int (nI (256 * lb k))), some (.int (nI (256 * lb q))), some (.int (nI ((m ||| c) + 256 * (k ||| q))))]) (st' := [.int ((nI ((m ||| c) + 256 * (k ||| q)) &&& nI 255) ||| (nI ((m ||| c) + 256 * (k ||| q)) &&& (-(nI (256 * max (lb k) (lb q))))))]) (σ' := σ) rfl ?_
      refine am_reti rfl rfl ?_
      have hk0 : ¬ k = 0 := fun z => h_1 (by rw [z]; rfl)
      have hq0 : ¬ q = 0 := fun z => h_2 (by rw [z]; rfl)
      rw [pq_tog (or_lt8 hm hc) hk hq7 hk0 hq0]
      exact hq
set_option maxRecDepth 10000 in
theorem c_a_caught {d : Nat} (hd : 1 ≤ d) {σ : am_M} {Q : am_Q} {m k : Nat} (hm : m < 256) (hk : k < 128) (hq : Q (some (.int (nI (m + 256 * ct k)))) σ) : am_C d 21 [.int (nI (m + 256 * k))] σ Q := by
  refine am_enter' (M := M_X0_caught) rfl rfl rfl (by omega) (ls := [some (.int (nI (m + 256 * k))), none, none, none]) rfl (fun d' hd' => ?_)
  refine am_run 7 (pc' := 11) (ls' := [some (.int (nI (m + 256 * k))), some (.int (nI (m + 256 * k) &&& nI 1023)), none, none]) (st' := [.int (nI (m + 256 * k) &&& nI 1024)]) (σ' := σ) rfl ?_
  refine am_if (ty := 20) (tn := 14) rfl (by decide) rfl rfl (fun (h_1 : nI (m + 256 * k) &&& nI 1024 = 0) => ?_) (fun (h_1 : ¬ (nI (m + 256 * k) &&& nI 1024 = 0)) => ?_)
  · refine am_run 13 (pc' := 35) (ls' := [some (.int (nI (m + 256 * k))), some (.int (nI (m + 256 * k) &&& nI 1023)), some (.int (nI 0)), some (.int (nI (m + 256 * k) &&& (Int32.ofInt (-2048))))]) (st' := [.int (((nI (m + 256 * k) &&& nI 1023) ||| nI 0) ||| ((nI (m + 256 * k) &&& (Int32.ofInt (-2048))) >>> ((nI 1) &&& 31)))]) (σ' := σ) rfl ?_
    refine am_reti rfl rfl ?_
    have e := pq_trap hm hk
    rw [show k / 4 % 2 = 0 by have := nx_tb k 2; first | (rw [(pq_hasC (g := 2) hm (by omega) (by decide)).mp h_1] at this; simp at this; omega) | (rw [show k.testBit 2 = true by simpa using fun z => h_1 ((pq_hasC (g := 2) hm (by omega) (by decide)).mpr z)] at this; simp at this; omega)] at e
    rw [← e] at hq
    exact hq
  · refine am_run 14 (pc' := 35) (ls' := [some (.int (nI (m + 256 * k))), some (.int (nI (m + 256 * k) &&& nI 1023)), some (.int (nI 256)), some (.int (nI (m + 256 * k) &&& (Int32.ofInt (-2048))))]) (st' := [.int (((nI (m + 256 * k) &&& nI 1023) ||| nI 256) ||| ((nI (m + 256 * k) &&& (Int32.ofInt (-2048))) >>> ((nI 1) &&& 31)))]) (σ' := σ) rfl ?_
    refine am_reti rfl rfl ?_
    have e := pq_trap hm hk
    rw [show k / 4 % 2 = 1 by have := nx_tb k 2; first | (rw [(pq_hasC (g := 2) hm (by omega) (by decide)).mp h_1] at this; simp at this; omega) | (rw [show k.testBit 2 = true by simpa using fun z => h_1 ((pq_hasC (g := 2) hm (by omega) (by decide)).mpr z)] at this; simp at this; omega)] at e
    rw [← e] at hq
    exact hq
set_option maxRecDepth 10000 in
theorem c_a_ofTrap {d : Nat} (hd : 3 ≤ d) {σ : am_M} {Q : am_Q} {r : R4} (ok : ok4 r) (hq : Q (some (.int (nI (eC (r_trap r))))) σ) : am_C d 20 [.int (nI (eC r))] σ Q := by
  obtain ⟨oka, okb, okc, okd⟩ := id ok
  refine am_enter' (M := M_X0_ofTrap) rfl rfl rfl (by omega) (ls := [some (.int (nI (eC r)))]) rfl (fun d' hd' => ?_)
  refine am_run 1 (pc' := 1) (ls' := [some (.int (nI (eC r)))]) (st' := [.int (nI (eC r))]) (σ' := σ) rfl ?_
  refine am_invs (y := 3) (as := [.int (nI (eC r))]) (rest := []) rfl rfl rfl rfl rfl rfl (Nat.le_of_ble_eq_true rfl) ?_
  refine c_a_must (by omega) (r := r) ok ?_
  show am_G _ M_X0_ofTrap _ 4 [some (.int (nI (eC r)))] [.int (nI (r.1 + 256 * r.2.2.1))] σ
  refine am_invs (y := 21) (as := [.int (nI (r.1 + 256 * r.2.2.1))]) (rest := []) rfl rfl rfl rfl rfl rfl (Nat.le_of_ble_eq_true rfl) ?_
  refine c_a_caught (by omega) (m := r.1) (k := r.2.2.1) (by first | decide | omega | exact pow_lt_256 (by omega) | (exact or_lt8 (by omega) (by omega)) | (exact or_lt7 (by omega) (by omega)) | (exact mx_lt (by omega) (by omega)) | (exact ct_lt (by omega)) | (exact en_lt (by omega)) | (exact cl_lt (by omega)) | (exact or_lt7 (cl_lt (by omega)) (by omega)) | (exact or_lt8 (cl_lt (by omega)) (pow_lt_256 (by omega))) | (exact cl_lt (en_lt (by omega)))) (by first | decide | omega | exact pow_lt_256 (by omega) | (exact or_lt8 (by omega) (by omega)) | (exact or_lt7 (by omega) (by omega)) | (exact mx_lt (by omega) (by omega)) | (exact ct_lt (by omega)) | (exact en_lt (by omega)) | (exact cl_lt (by omega)) | (exact or_lt7 (cl_lt (by omega)) (by omega)) | (exact or_lt8 (cl_lt (by omega)) (pow_lt_256 (by omega))) | (exact cl_lt (en_lt (by omega)))) ?_
  show am_G _ M_X0_ofTrap _ 7 [some (.int (nI (eC r)))] [.int (nI (r.1 + 256 * ct r.2.2.1))] σ
  refine am_run 1 (pc' := 8) (ls' := [some (.int (nI (eC r)))]) (st' := [.int (nI (eC r)), .int (nI (r.1 + 256 * ct r.2.2.1))]) (σ' := σ) rfl ?_
  refine am_invs (y := 4) (as := [.int (nI (eC r))]) (rest := [.int (nI (r.1 + 256 * ct r.2.2.1))]) rfl rfl rfl rfl rfl rfl (Nat.le_of_ble_eq_true rfl) ?_
  refine c_a_can (by omega) (r := r) ok ?_
  show am_G _ M_X0_ofTrap _ 11 [some (.int (nI (eC r)))] [.int (nI (r.2.1 + 256 * r.2.2.2)), .int (nI (r.1 + 256 * ct r.2.2.1))] σ
  refine am_invs (y := 21) (as := [.int (nI (r.2.1 + 256 * r.2.2.2))]) (rest := [.int (nI (r.1 + 256 * ct r.2.2.1))]) rfl rfl rfl rfl rfl rfl (Nat.le_of_ble_eq_true rfl) ?_
  refine c_a_caught (by omega) (m := r.2.1) (k := r.2.2.2) (by first | decide | omega | exact pow_lt_256 (by omega) | (exact or_lt8 (by omega) (by omega)) | (exact or_lt7 (by omega) (by omega)) | (exact mx_lt (by omega) (by omega)) | (exact ct_lt (by omega)) | (exact en_lt (by omega)) | (exact cl_lt (by omega)) | (exact or_lt7 (cl_lt (by omega)) (by omega)) | (exact or_lt8 (cl_lt (by omega)) (pow_lt_256 (by omega))) | (exact cl_lt (en_lt (by omega)))) (by first | decide | omega | exact pow_lt_256 (by omega) | (exact or_lt8 (by omega) (by omega)) | (exact or_lt7 (by omega) (by omega)) | (exact mx_lt (by omega) (by omega)) | (exact ct_lt (by omega)) | (exact en_lt (by omega)) | (exact cl_lt (by omega)) | (exact or_lt7 (cl_lt (by omega)) (by omega)) | (exact or_lt8 (cl_lt (by omega)) (pow_lt_256 (by omega))) | (exact cl_lt (en_lt (by omega)))) ?_
  show am_G _ M_X0_ofTrap _ 14 [some (.int (nI (eC r)))] [.int (nI (r.2.1 + 256 * ct r.2.2.2)), .int (nI (r.1 + 256 * ct r.2.2.1))] σ
  refine am_invs (y := 7) (as := [.int (nI (r.1 + 256 * ct r.2.2.1)), .int (nI (r.2.1 + 256 * ct r.2.2.2))]) (rest := []) rfl rfl rfl rfl rfl rfl (Nat.le_of_ble_eq_true rfl) ?_
  refine c_a_result (by omega) (m := r.1) (k := ct r.2.2.1) (c := r.2.1) (q := ct r.2.2.2) (by first | decide | omega | exact pow_lt_256 (by omega) | (exact or_lt8 (by omega) (by omega)) | (exact or_lt7 (by omega) (by omega)) | (exact mx_lt (by omega) (by omega)) | (exact ct_lt (by omega)) | (exact en_lt (by omega)) | (exact cl_lt (by omega)) | (exact or_lt7 (cl_lt (by omega)) (by omega)) | (exact or_lt8 (cl_lt (by omega)) (pow_lt_256 (by omega))) | (exact cl_lt (en_lt (by omega)))) (by first | decide | omega | exact pow_lt_256 (by omega) | (exact or_lt8 (by omega) (by omega)) | (exact or_lt7 (by omega) (by omega)) | (exact mx_lt (by omega) (by omega)) | (exact ct_lt (by omega)) | (exact en_lt (by omega)) | (exact cl_lt (by omega)) | (exact or_lt7 (cl_lt (by omega)) (by omega)) | (exact or_lt8 (cl_lt (by omega)) (pow_lt_256 (by omega))) | (exact cl_lt (en_lt (by omega)))) ?_
  show am_G _ M_X0_ofTrap _ 17 [some (.int (nI (eC r)))] [.int (nI (eC (r.1, r.2.1, ct r.2.2.1, ct r.2.2.2)))] σ
  refine am_reti rfl rfl ?_
  exact hq

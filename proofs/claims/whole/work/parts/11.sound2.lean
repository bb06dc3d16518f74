section Sound
variable {p : Program} {l : Launch} {e : Env} {R : Room} {s : State} {m : MethodId} {args : Array Value} {below : List Frame} {meth : Method} {c : Code} {D : va_G} {ad : Nat → Nat} {cA cR : ClassId} {A : Nat → Prop} {M : am_I} {Z : State → Prop}
theorem am_sim_if (hx : p.tables.exec = Jvm.exec) (hb : c.code = am_b M) {cnd : Jvm.ClassFile.Cond} {pc : Nat} {off : Int} {x : Int32} {H : Heap} {locs : List Loc} {a : Array Slot} {rest : List Value} (hn : 0 ≤ (pc : Int) + off) (hdg : decode (am_b M) pc = .ok (.ifCond cnd off, 3))
    (kt : am_cmp cnd x 0 → W p l e R s m args below meth c H locs 0 0 Z (F0 m (am_tg pc off) a rest)) (kf : ¬ am_cmp cnd x 0 → W p l e R s m args below meth c H locs 0 0 Z (F0 m (pc + 3) a rest)) : W p l e R s m args below meth c H locs 0 0 Z (F0 m pc a (.int x :: rest)) := by
  cases cnd with
  | eq => exact lv_if_eq hx hb hdg (am_tg_eq hn) kt kf
  | ne => exact lv_if_ne hx hb hdg (am_tg_eq hn) kt (fun h => kf (fun q => q h))
  | lt => exact lv_if_lt hx hb hdg (am_tg_eq hn) kt kf
  | ge => exact lv_if_ge hx hb hdg (am_tg_eq hn) kt kf
  | gt => exact lv_if_gt hx hb hdg (am_tg_eq hn) kt kf
  | le => exact lv_if_le hx hb hdg (am_tg_eq hn) kt kf
theorem am_sim_icmp (hx : p.tables.exec = Jvm.exec) (hb : c.code = am_b M) {cnd : Jvm.ClassFile.Cond} {pc : Nat} {off : Int} {x y : Int32} {H : Heap} {locs : List Loc} {a : Array Slot} {rest : List Value} (hn : 0 ≤ (pc : Int) + off) (hdg : decode (am_b M) pc = .ok (.if_icmp cnd off, 3))
    (kt : am_cmp cnd x y → W p l e R s m args below meth c H locs 0 0 Z (F0 m (am_tg pc off) a rest)) (kf : ¬ am_cmp cnd x y → W p l e R s m args below meth c H locs 0 0 Z (F0 m (pc + 3) a rest)) : W p l e R s m args below meth c H locs 0 0 Z (F0 m pc a (.int y :: .int x :: rest)) := by
  cases cnd with
  | eq => exact lv_icmp_eq hx hb hdg (am_tg_eq hn) kt kf
  | ne => exact lv_icmp_ne hx hb hdg (am_tg_eq hn) kt (fun h => kf (fun q => q h))
  | lt => exact lv_icmp_lt hx hb hdg (am_tg_eq hn) kt kf
  | ge => exact lv_icmp_ge hx hb hdg (am_tg_eq hn) kt kf
  | gt => exact lv_icmp_gt hx hb hdg (am_tg_eq hn) kt kf
  | le => exact lv_icmp_le hx hb hdg (am_tg_eq hn) kt kf
/-- a switch: where it goes -/
theorem am_sw_off {X : am_X} {pc : Nat} {x : Int32} {d : Int} {ls : am_L} {st : List Value} {σ : am_M} : ∀ {ps : List (Int × Int)}, am_sw X pc x d ls st σ ps → 0 ≤ (pc : Int) + Op.lookupswitch.offset ps d x.toInt ∧ X (am_tg pc (Op.lookupswitch.offset ps d x.toInt)) ls st σ
  | [], q => q
  | (a, o) :: r, q => by
    obtain ⟨q1, q2, q3, q4⟩ := q
    by_cases h : x = am_k a
    · rw [Op.lookupswitch.offset_cons, if_pos (by rw [h, q1])]
      exact ⟨q2, q3 h⟩
    · rw [lv_osw h q1]
      exact am_sw_off (q4 h)
theorem am_tb_off {d : Int} {k : Int} : ∀ {os : List Int} {lo : Int}, (k < lo ∨ lo + os.length ≤ k → Op.lookupswitch.offset (am_tb lo os) d k = d) ∧ (∀ i : Nat, k = lo + i → ∀ o, os[i]? = some o → Op.lookupswitch.offset (am_tb lo os) d k = o)
  | [], lo => ⟨fun _ => rfl, fun i _ o h => by simp at h⟩
  | o :: r, lo => by
    have ih := am_tb_off (d := d) (k := k) (os := r) (lo := lo + 1)
    refine ⟨fun h => ?_, fun i hi o' h => ?_⟩
    · unfold am_tb
      rw [Op.lookupswitch.offset_cons, if_neg (by simp only [List.length_cons] at h; omega)]
      exact ih.1 (by simp only [List.length_cons] at h; omega)
    · unfold am_tb
      cases i with
      | zero =>
        rw [Op.lookupswitch.offset_cons, if_pos (by omega)]
        simpa using h
      | succ i =>
        rw [Op.lookupswitch.offset_cons, if_neg (by omega)]
        exact ih.2 i (by omega) o' (by simpa using h)
/-- a call behind which the small machine goes on -/
theorem am_call {Q : am_Q} {H : Heap} {locs : List Loc} {a : Array Slot} {rest st0 : List Value} {as : Array Value} {pc : Nat} {sz : Nat} (hK : va_K D vwCl (am_tys cA cR) s) (hA : A = am_A ad sz) (hs : s.heap.size = sz) (hS : va_S A s.heap H locs)
    (hr : va_Run p l e R s m args below meth c H locs 0 0 0 0 (F0 m pc a st0) rest (am_Qc D ad cA cR H.size Q as) (am_A ad H.size))
    (kk : ∀ v σ' H1 locs1, Q v σ' → va_P D vwCl (am_world ad cA cR σ') H1 → va_D A (am_world ad cA cR σ') → va_S A s.heap H1 locs1 → W p l e R s m args below meth c H1 locs1 0 0 Z (F0 m (pc + 3) a ((v.map (am_cv ad)).toList ++ rest))) : W p l e R s m args below meth c H locs 0 0 Z (F0 m pc a st0) := by
  have hAA : ∀ q, am_A ad H.size q → A q := by
    intro q hq
    rw [hA]
    rcases hq with h | h
    · exact Or.inl h
    · exact Or.inr (Nat.le_trans (by rw [← hs]; exact hS.1) h)
  intro T hT X
  obtain ⟨v, st₀, t, T', L, h0, X', hL, e1, e2, ⟨⟨v', σ', hv, hq, hP1, hK1, hD1⟩, hz, hk⟩, st⟩ := hr T hT X
  obtain rfl : v = v'.map (am_cv ad) := Outcome.returned.inj hv
  rw [h0] at hz hk
  obtain ⟨t2, a1, b1⟩ := kk v' σ' T'.heap (locs ++ L) hq (by rw [e1]; exact hP1) (hD1.weaken (fun k q _ h => hAA _ h))
    ⟨Nat.le_trans hS.1 (by rw [e1]; exact hz), fun q h1 h2 => by rw [e1, hk q (Nat.lt_of_lt_of_le h1 hS.1) (fun z => h2 (hAA q z))]; exact hS.2.1 q h1 h2, fun q hq => by
      rcases List.mem_append.mp hq with h | h
      · exact hS.2.2 q h
      · exact hAA _ (hL q h)⟩ T' rfl X'
  exact ⟨t2, st t2 a1, b1⟩
theorem am_blind {as : List Value} {σ : am_M} {sz : Nat} : FrameBlind (am_Pc D ad cA cR sz as σ) := by
  intro a U g mk q
  obtain ⟨q0, q1, qP, qK, qD, qN⟩ := q
  exact ⟨q0, q1, qP, va_K.moved (u := U) (U := U.calling g mk a) (Vm.Alike.refl U.vm) qK, qD, va_Nw.same rfl (u := U) rfl qN⟩
theorem am_preOf {as : List Value} {σ : am_M} {H : Heap} {B : Nat → Prop} (hN : va_Nw am_nw s) (hK : va_K D vwCl (am_tys cA cR) s) (hP : va_P D vwCl (am_world ad cA cR σ) H) (hD : va_D B (am_world ad cA cR σ)) : ∀ U : State, U.heap = H → s.WarmedH U.vm → am_Pc D ad cA cR H.size as σ (as.map (am_cv ad)).toArray U :=
  fun U hU hW => ⟨rfl, by rw [hU], by rw [hU]; exact hP, va_K.moved hW.alike hK, hD.weaken (fun _ _ _ _ => trivial), hN.warmM hW⟩
end Sound

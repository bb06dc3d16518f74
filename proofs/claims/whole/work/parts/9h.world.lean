/-! the first memory, and the law from its entry -/
def sT : Nat → Int32 := fun k => match k with
  | 10 => -1
  | _ => 0
def sP : Nat → Int32 := fun k => match k with
  | 3 => nI 1048576
  | _ => 0
def sR : Nat → Int32 := fun k => match k with
  | 4 => nI 200
  | _ => 0
def s0 : am_M := (fun c => match c with
  | 45 => sT
  | 54 => sT
  | 63 => sT
  | 73 => sP
  | 75 => sP
  | 79 => sR
  | _ => fun _ => 0, fun c k => if c = 44 ∧ k = 1 then 45 else if c = 73 ∧ k = 1 then 54 else if c = 75 ∧ k = 1 then 63 else if c = 83 ∧ k = 2 then 86 else if c = 83 ∧ k = 3 then 87 else 0)
theorem inv0 : Inv s0 := ⟨⟨0, by decide, rfl, rfl, fun i hi => absurd hi (Nat.not_lt_zero _)⟩, rfl, ⟨Or.inl rfl, Or.inr (Or.inl rfl), Or.inr (Or.inr rfl), by decide, by decide, by decide⟩, Or.inl ⟨rfl, rfl⟩, Or.inl ⟨rfl, rfl⟩, Or.inl ⟨rfl, rfl⟩⟩
def ad0 (qm : Nat) (am : Nat → Nat) (qx : Nat) (ax : Nat → Nat) : Nat → Nat := fun c => if c = 0 then qm else if c ≤ 40 then am (c - 1) else if c = 41 then qx else ax (c - 42)
theorem kn_two {cR : ClassId} {f g : Nat → Option Nat} (h0 : f 0 = g 0) (h1 : f 1 = g 1) : vp_cell cR (2, .inr (.inr (.inr (.inr f)))) = vp_cell cR (2, .inr (.inr (.inr (.inr g)))) := by
  rw [vp_cell_q, vp_cell_q]
  unfold arrV
  have : (fun j : Fin 2 => va_rf (f j.val)) = fun j => va_rf (g j.val) := by
    funext j
    match j with
    | ⟨0, _⟩ => exact congrArg va_rf h0
    | ⟨1, _⟩ => exact congrArg va_rf h1
  rw [this]
def KeyC (D : va_G) (cA cR : ClassId) (qm : Nat) (am : Nat → Nat) (qx : Nat) (ax : Nat → Nat) (H : Heap) (k : Nat) : Prop := ∃ e, (mW cA qm am ++ xW cA cR qx ax)[k]? = some (ad0 qm am qx ax k, e) ∧ (va_at D vwCl (ad0 qm am qx ax k, e) H → va_at D vwCl (ad0 qm am qx ax k, am_cell (ad0 qm am qx ax) cA cR s0 k) H)
set_option maxRecDepth 100000 in
theorem key_0 {D : va_G} {cA cR : ClassId} {qm : Nat} {am : Nat → Nat} {qx : Nat} {ax : Nat → Nat} {H : Heap} : KeyC D cA cR qm am qx ax H 0 := ⟨_, rfl, id⟩
set_option maxRecDepth 100000 in
theorem key_1 {D : va_G} {cA cR : ClassId} {qm : Nat} {am : Nat → Nat} {qx : Nat} {ax : Nat → Nat} {H : Heap} : KeyC D cA cR qm am qx ax H 1 := ⟨_, rfl, id⟩
set_option maxRecDepth 100000 in
theorem key_2 {D : va_G} {cA cR : ClassId} {qm : Nat} {am : Nat → Nat} {qx : Nat} {ax : Nat → Nat} {H : Heap} : KeyC D cA cR qm am qx ax H 2 := ⟨_, rfl, id⟩
set_option maxRecDepth 100000 in
theorem key_3 {D : va_G} {cA cR : ClassId} {qm : Nat} {am : Nat → Nat} {qx : Nat} {ax : Nat → Nat} {H : Heap} : KeyC D cA cR qm am qx ax H 3 := ⟨_, rfl, id⟩
set_option maxRecDepth 100000 in
theorem key_4 {D : va_G} {cA cR : ClassId} {qm : Nat} {am : Nat → Nat} {qx : Nat} {ax : Nat → Nat} {H : Heap} : KeyC D cA cR qm am qx ax H 4 := ⟨_, rfl, id⟩
set_option maxRecDepth 100000 in
theorem key_5 {D : va_G} {cA cR : ClassId} {qm : Nat} {am : Nat → Nat} {qx : Nat} {ax : Nat → Nat} {H : Heap} : KeyC D cA cR qm am qx ax H 5 := ⟨_, rfl, id⟩
set_option maxRecDepth 100000 in
theorem key_6 {D : va_G} {cA cR : ClassId} {qm : Nat} {am : Nat → Nat} {qx : Nat} {ax : Nat → Nat} {H : Heap} : KeyC D cA cR qm am qx ax H 6 := ⟨_, rfl, id⟩
set_option maxRecDepth 100000 in
theorem key_7 {D : va_G} {cA cR : ClassId} {qm : Nat} {am : Nat → Nat} {qx : Nat} {ax : Nat → Nat} {H : Heap} : KeyC D cA cR qm am qx ax H 7 := ⟨_, rfl, id⟩
set_option maxRecDepth 100000 in
theorem key_8 {D : va_G} {cA cR : ClassId} {qm : Nat} {am : Nat → Nat} {qx : Nat} {ax : Nat → Nat} {H : Heap} : KeyC D cA cR qm am qx ax H 8 := ⟨_, rfl, id⟩
set_option maxRecDepth 100000 in
theorem key_9 {D : va_G} {cA cR : ClassId} {qm : Nat} {am : Nat → Nat} {qx : Nat} {ax : Nat → Nat} {H : Heap} : KeyC D cA cR qm am qx ax H 9 := ⟨_, rfl, id⟩
set_option maxRecDepth 100000 in
theorem key_10 {D : va_G} {cA cR : ClassId} {qm : Nat} {am : Nat → Nat} {qx : Nat} {ax : Nat → Nat} {H : Heap} : KeyC D cA cR qm am qx ax H 10 := ⟨_, rfl, id⟩
set_option maxRecDepth 100000 in
theorem key_11 {D : va_G} {cA cR : ClassId} {qm : Nat} {am : Nat → Nat} {qx : Nat} {ax : Nat → Nat} {H : Heap} : KeyC D cA cR qm am qx ax H 11 := ⟨_, rfl, id⟩
set_option maxRecDepth 100000 in
theorem key_12 {D : va_G} {cA cR : ClassId} {qm : Nat} {am : Nat → Nat} {qx : Nat} {ax : Nat → Nat} {H : Heap} : KeyC D cA cR qm am qx ax H 12 := ⟨_, rfl, id⟩
set_option maxRecDepth 100000 in
theorem key_13 {D : va_G} {cA cR : ClassId} {qm : Nat} {am : Nat → Nat} {qx : Nat} {ax : Nat → Nat} {H : Heap} : KeyC D cA cR qm am qx ax H 13 := ⟨_, rfl, id⟩
set_option maxRecDepth 100000 in
theorem key_14 {D : va_G} {cA cR : ClassId} {qm : Nat} {am : Nat → Nat} {qx : Nat} {ax : Nat → Nat} {H : Heap} : KeyC D cA cR qm am qx ax H 14 := ⟨_, rfl, id⟩
set_option maxRecDepth 100000 in
theorem key_15 {D : va_G} {cA cR : ClassId} {qm : Nat} {am : Nat → Nat} {qx : Nat} {ax : Nat → Nat} {H : Heap} : KeyC D cA cR qm am qx ax H 15 := ⟨_, rfl, id⟩
set_option maxRecDepth 100000 in
theorem key_16 {D : va_G} {cA cR : ClassId} {qm : Nat} {am : Nat → Nat} {qx : Nat} {ax : Nat → Nat} {H : Heap} : KeyC D cA cR qm am qx ax H 16 := ⟨_, rfl, id⟩
set_option maxRecDepth 100000 in
theorem key_17 {D : va_G} {cA cR : ClassId} {qm : Nat} {am : Nat → Nat} {qx : Nat} {ax : Nat → Nat} {H : Heap} : KeyC D cA cR qm am qx ax H 17 := ⟨_, rfl, id⟩
set_option maxRecDepth 100000 in
theorem key_18 {D : va_G} {cA cR : ClassId} {qm : Nat} {am : Nat → Nat} {qx : Nat} {ax : Nat → Nat} {H : Heap} : KeyC D cA cR qm am qx ax H 18 := ⟨_, rfl, id⟩
set_option maxRecDepth 100000 in
theorem key_19 {D : va_G} {cA cR : ClassId} {qm : Nat} {am : Nat → Nat} {qx : Nat} {ax : Nat → Nat} {H : Heap} : KeyC D cA cR qm am qx ax H 19 := ⟨_, rfl, id⟩
set_option maxRecDepth 100000 in
theorem key_20 {D : va_G} {cA cR : ClassId} {qm : Nat} {am : Nat → Nat} {qx : Nat} {ax : Nat → Nat} {H : Heap} : KeyC D cA cR qm am qx ax H 20 := ⟨_, rfl, id⟩
set_option maxRecDepth 100000 in
theorem key_21 {D : va_G} {cA cR : ClassId} {qm : Nat} {am : Nat → Nat} {qx : Nat} {ax : Nat → Nat} {H : Heap} : KeyC D cA cR qm am qx ax H 21 := ⟨_, rfl, id⟩
set_option maxRecDepth 100000 in
theorem key_22 {D : va_G} {cA cR : ClassId} {qm : Nat} {am : Nat → Nat} {qx : Nat} {ax : Nat → Nat} {H : Heap} : KeyC D cA cR qm am qx ax H 22 := ⟨_, rfl, id⟩
set_option maxRecDepth 100000 in
theorem key_23 {D : va_G} {cA cR : ClassId} {qm : Nat} {am : Nat → Nat} {qx : Nat} {ax : Nat → Nat} {H : Heap} : KeyC D cA cR qm am qx ax H 23 := ⟨_, rfl, id⟩
set_option maxRecDepth 100000 in
theorem key_24 {D : va_G} {cA cR : ClassId} {qm : Nat} {am : Nat → Nat} {qx : Nat} {ax : Nat → Nat} {H : Heap} : KeyC D cA cR qm am qx ax H 24 := ⟨_, rfl, id⟩
set_option maxRecDepth 100000 in
theorem key_25 {D : va_G} {cA cR : ClassId} {qm : Nat} {am : Nat → Nat} {qx : Nat} {ax : Nat → Nat} {H : Heap} : KeyC D cA cR qm am qx ax H 25 := ⟨_, rfl, id⟩
set_option maxRecDepth 100000 in
theorem key_26 {D : va_G} {cA cR : ClassId} {qm : Nat} {am : Nat → Nat} {qx : Nat} {ax : Nat → Nat} {H : Heap} : KeyC D cA cR qm am qx ax H 26 := ⟨_, rfl, id⟩
set_option maxRecDepth 100000 in
theorem key_27 {D : va_G} {cA cR : ClassId} {qm : Nat} {am : Nat → Nat} {qx : Nat} {ax : Nat → Nat} {H : Heap} : KeyC D cA cR qm am qx ax H 27 := ⟨_, rfl, id⟩
set_option maxRecDepth 100000 in
theorem key_28 {D : va_G} {cA cR : ClassId} {qm : Nat} {am : Nat → Nat} {qx : Nat} {ax : Nat → Nat} {H : Heap} : KeyC D cA cR qm am qx ax H 28 := ⟨_, rfl, id⟩
set_option maxRecDepth 100000 in
theorem key_29 {D : va_G} {cA cR : ClassId} {qm : Nat} {am : Nat → Nat} {qx : Nat} {ax : Nat → Nat} {H : Heap} : KeyC D cA cR qm am qx ax H 29 := ⟨_, rfl, id⟩
set_option maxRecDepth 100000 in
theorem key_30 {D : va_G} {cA cR : ClassId} {qm : Nat} {am : Nat → Nat} {qx : Nat} {ax : Nat → Nat} {H : Heap} : KeyC D cA cR qm am qx ax H 30 := ⟨_, rfl, id⟩
set_option maxRecDepth 100000 in
theorem key_31 {D : va_G} {cA cR : ClassId} {qm : Nat} {am : Nat → Nat} {qx : Nat} {ax : Nat → Nat} {H : Heap} : KeyC D cA cR qm am qx ax H 31 := ⟨_, rfl, id⟩
set_option maxRecDepth 100000 in
theorem key_32 {D : va_G} {cA cR : ClassId} {qm : Nat} {am : Nat → Nat} {qx : Nat} {ax : Nat → Nat} {H : Heap} : KeyC D cA cR qm am qx ax H 32 := ⟨_, rfl, id⟩
set_option maxRecDepth 100000 in
theorem key_33 {D : va_G} {cA cR : ClassId} {qm : Nat} {am : Nat → Nat} {qx : Nat} {ax : Nat → Nat} {H : Heap} : KeyC D cA cR qm am qx ax H 33 := ⟨_, rfl, id⟩
set_option maxRecDepth 100000 in
theorem key_34 {D : va_G} {cA cR : ClassId} {qm : Nat} {am : Nat → Nat} {qx : Nat} {ax : Nat → Nat} {H : Heap} : KeyC D cA cR qm am qx ax H 34 := ⟨_, rfl, id⟩
set_option maxRecDepth 100000 in
theorem key_35 {D : va_G} {cA cR : ClassId} {qm : Nat} {am : Nat → Nat} {qx : Nat} {ax : Nat → Nat} {H : Heap} : KeyC D cA cR qm am qx ax H 35 := ⟨_, rfl, id⟩
set_option maxRecDepth 100000 in
theorem key_36 {D : va_G} {cA cR : ClassId} {qm : Nat} {am : Nat → Nat} {qx : Nat} {ax : Nat → Nat} {H : Heap} : KeyC D cA cR qm am qx ax H 36 := ⟨_, rfl, id⟩
set_option maxRecDepth 100000 in
theorem key_37 {D : va_G} {cA cR : ClassId} {qm : Nat} {am : Nat → Nat} {qx : Nat} {ax : Nat → Nat} {H : Heap} : KeyC D cA cR qm am qx ax H 37 := ⟨_, rfl, id⟩
set_option maxRecDepth 100000 in
theorem key_38 {D : va_G} {cA cR : ClassId} {qm : Nat} {am : Nat → Nat} {qx : Nat} {ax : Nat → Nat} {H : Heap} : KeyC D cA cR qm am qx ax H 38 := ⟨_, rfl, id⟩
set_option maxRecDepth 100000 in
theorem key_39 {D : va_G} {cA cR : ClassId} {qm : Nat} {am : Nat → Nat} {qx : Nat} {ax : Nat → Nat} {H : Heap} : KeyC D cA cR qm am qx ax H 39 := ⟨_, rfl, id⟩
set_option maxRecDepth 100000 in
theorem key_40 {D : va_G} {cA cR : ClassId} {qm : Nat} {am : Nat → Nat} {qx : Nat} {ax : Nat → Nat} {H : Heap} : KeyC D cA cR qm am qx ax H 40 := ⟨_, rfl, id⟩
set_option maxRecDepth 100000 in
theorem key_41 {D : va_G} {cA cR : ClassId} {qm : Nat} {am : Nat → Nat} {qx : Nat} {ax : Nat → Nat} {H : Heap} : KeyC D cA cR qm am qx ax H 41 := ⟨_, rfl, id⟩
set_option maxRecDepth 100000 in
theorem key_42 {D : va_G} {cA cR : ClassId} {qm : Nat} {am : Nat → Nat} {qx : Nat} {ax : Nat → Nat} {H : Heap} : KeyC D cA cR qm am qx ax H 42 := ⟨_, rfl, id⟩
set_option maxRecDepth 100000 in
theorem key_43 {D : va_G} {cA cR : ClassId} {qm : Nat} {am : Nat → Nat} {qx : Nat} {ax : Nat → Nat} {H : Heap} : KeyC D cA cR qm am qx ax H 43 := ⟨_, rfl, id⟩
set_option maxRecDepth 100000 in
theorem key_44 {D : va_G} {cA cR : ClassId} {qm : Nat} {am : Nat → Nat} {qx : Nat} {ax : Nat → Nat} {H : Heap} : KeyC D cA cR qm am qx ax H 44 := ⟨_, rfl, id⟩
set_option maxRecDepth 100000 in
theorem key_45 {D : va_G} {cA cR : ClassId} {qm : Nat} {am : Nat → Nat} {qx : Nat} {ax : Nat → Nat} {H : Heap} : KeyC D cA cR qm am qx ax H 45 := ⟨_, rfl, id⟩
set_option maxRecDepth 100000 in
theorem key_46 {D : va_G} {cA cR : ClassId} {qm : Nat} {am : Nat → Nat} {qx : Nat} {ax : Nat → Nat} {H : Heap} : KeyC D cA cR qm am qx ax H 46 := ⟨_, rfl, id⟩
set_option maxRecDepth 100000 in
theorem key_47 {D : va_G} {cA cR : ClassId} {qm : Nat} {am : Nat → Nat} {qx : Nat} {ax : Nat → Nat} {H : Heap} : KeyC D cA cR qm am qx ax H 47 := ⟨_, rfl, id⟩
set_option maxRecDepth 100000 in
theorem key_48 {D : va_G} {cA cR : ClassId} {qm : Nat} {am : Nat → Nat} {qx : Nat} {ax : Nat → Nat} {H : Heap} : KeyC D cA cR qm am qx ax H 48 := ⟨_, rfl, id⟩
set_option maxRecDepth 100000 in
theorem key_49 {D : va_G} {cA cR : ClassId} {qm : Nat} {am : Nat → Nat} {qx : Nat} {ax : Nat → Nat} {H : Heap} : KeyC D cA cR qm am qx ax H 49 := ⟨_, rfl, id⟩
set_option maxRecDepth 100000 in
theorem key_50 {D : va_G} {cA cR : ClassId} {qm : Nat} {am : Nat → Nat} {qx : Nat} {ax : Nat → Nat} {H : Heap} : KeyC D cA cR qm am qx ax H 50 := ⟨_, rfl, id⟩
set_option maxRecDepth 100000 in
theorem key_51 {D : va_G} {cA cR : ClassId} {qm : Nat} {am : Nat → Nat} {qx : Nat} {ax : Nat → Nat} {H : Heap} : KeyC D cA cR qm am qx ax H 51 := ⟨_, rfl, id⟩
set_option maxRecDepth 100000 in
theorem key_52 {D : va_G} {cA cR : ClassId} {qm : Nat} {am : Nat → Nat} {qx : Nat} {ax : Nat → Nat} {H : Heap} : KeyC D cA cR qm am qx ax H 52 := ⟨_, rfl, id⟩
set_option maxRecDepth 100000 in
theorem key_53 {D : va_G} {cA cR : ClassId} {qm : Nat} {am : Nat → Nat} {qx : Nat} {ax : Nat → Nat} {H : Heap} : KeyC D cA cR qm am qx ax H 53 := ⟨_, rfl, id⟩
set_option maxRecDepth 100000 in
theorem key_54 {D : va_G} {cA cR : ClassId} {qm : Nat} {am : Nat → Nat} {qx : Nat} {ax : Nat → Nat} {H : Heap} : KeyC D cA cR qm am qx ax H 54 := ⟨_, rfl, id⟩
set_option maxRecDepth 100000 in
theorem key_55 {D : va_G} {cA cR : ClassId} {qm : Nat} {am : Nat → Nat} {qx : Nat} {ax : Nat → Nat} {H : Heap} : KeyC D cA cR qm am qx ax H 55 := ⟨_, rfl, id⟩
set_option maxRecDepth 100000 in
theorem key_56 {D : va_G} {cA cR : ClassId} {qm : Nat} {am : Nat → Nat} {qx : Nat} {ax : Nat → Nat} {H : Heap} : KeyC D cA cR qm am qx ax H 56 := ⟨_, rfl, id⟩
set_option maxRecDepth 100000 in
theorem key_57 {D : va_G} {cA cR : ClassId} {qm : Nat} {am : Nat → Nat} {qx : Nat} {ax : Nat → Nat} {H : Heap} : KeyC D cA cR qm am qx ax H 57 := ⟨_, rfl, id⟩
set_option maxRecDepth 100000 in
theorem key_58 {D : va_G} {cA cR : ClassId} {qm : Nat} {am : Nat → Nat} {qx : Nat} {ax : Nat → Nat} {H : Heap} : KeyC D cA cR qm am qx ax H 58 := ⟨_, rfl, id⟩
set_option maxRecDepth 100000 in
theorem key_59 {D : va_G} {cA cR : ClassId} {qm : Nat} {am : Nat → Nat} {qx : Nat} {ax : Nat → Nat} {H : Heap} : KeyC D cA cR qm am qx ax H 59 := ⟨_, rfl, id⟩
set_option maxRecDepth 100000 in
theorem key_60 {D : va_G} {cA cR : ClassId} {qm : Nat} {am : Nat → Nat} {qx : Nat} {ax : Nat → Nat} {H : Heap} : KeyC D cA cR qm am qx ax H 60 := ⟨_, rfl, id⟩
set_option maxRecDepth 100000 in
theorem key_61 {D : va_G} {cA cR : ClassId} {qm : Nat} {am : Nat → Nat} {qx : Nat} {ax : Nat → Nat} {H : Heap} : KeyC D cA cR qm am qx ax H 61 := ⟨_, rfl, id⟩
set_option maxRecDepth 100000 in
theorem key_62 {D : va_G} {cA cR : ClassId} {qm : Nat} {am : Nat → Nat} {qx : Nat} {ax : Nat → Nat} {H : Heap} : KeyC D cA cR qm am qx ax H 62 := ⟨_, rfl, id⟩
set_option maxRecDepth 100000 in
theorem key_63 {D : va_G} {cA cR : ClassId} {qm : Nat} {am : Nat → Nat} {qx : Nat} {ax : Nat → Nat} {H : Heap} : KeyC D cA cR qm am qx ax H 63 := ⟨_, rfl, id⟩
set_option maxRecDepth 100000 in
theorem key_64 {D : va_G} {cA cR : ClassId} {qm : Nat} {am : Nat → Nat} {qx : Nat} {ax : Nat → Nat} {H : Heap} : KeyC D cA cR qm am qx ax H 64 := ⟨_, rfl, id⟩
set_option maxRecDepth 100000 in
theorem key_65 {D : va_G} {cA cR : ClassId} {qm : Nat} {am : Nat → Nat} {qx : Nat} {ax : Nat → Nat} {H : Heap} : KeyC D cA cR qm am qx ax H 65 := ⟨_, rfl, id⟩
set_option maxRecDepth 100000 in
theorem key_66 {D : va_G} {cA cR : ClassId} {qm : Nat} {am : Nat → Nat} {qx : Nat} {ax : Nat → Nat} {H : Heap} : KeyC D cA cR qm am qx ax H 66 := ⟨_, rfl, id⟩
set_option maxRecDepth 100000 in
theorem key_67 {D : va_G} {cA cR : ClassId} {qm : Nat} {am : Nat → Nat} {qx : Nat} {ax : Nat → Nat} {H : Heap} : KeyC D cA cR qm am qx ax H 67 := ⟨_, rfl, id⟩
set_option maxRecDepth 100000 in
theorem key_68 {D : va_G} {cA cR : ClassId} {qm : Nat} {am : Nat → Nat} {qx : Nat} {ax : Nat → Nat} {H : Heap} : KeyC D cA cR qm am qx ax H 68 := ⟨_, rfl, id⟩
set_option maxRecDepth 100000 in
theorem key_69 {D : va_G} {cA cR : ClassId} {qm : Nat} {am : Nat → Nat} {qx : Nat} {ax : Nat → Nat} {H : Heap} : KeyC D cA cR qm am qx ax H 69 := ⟨_, rfl, id⟩
set_option maxRecDepth 100000 in
theorem key_70 {D : va_G} {cA cR : ClassId} {qm : Nat} {am : Nat → Nat} {qx : Nat} {ax : Nat → Nat} {H : Heap} : KeyC D cA cR qm am qx ax H 70 := ⟨_, rfl, id⟩
set_option maxRecDepth 100000 in
theorem key_71 {D : va_G} {cA cR : ClassId} {qm : Nat} {am : Nat → Nat} {qx : Nat} {ax : Nat → Nat} {H : Heap} : KeyC D cA cR qm am qx ax H 71 := ⟨_, rfl, id⟩
set_option maxRecDepth 100000 in
theorem key_72 {D : va_G} {cA cR : ClassId} {qm : Nat} {am : Nat → Nat} {qx : Nat} {ax : Nat → Nat} {H : Heap} : KeyC D cA cR qm am qx ax H 72 := ⟨_, rfl, fun h => by
  have h : H[ad0 qm am qx ax 72]? = some (vp_cell cR (2, .inr (.inr (.inr (.inr (va_up (va_up (fun _ => none) (nI 0).toNatClampNeg (some (ax 31))) (nI 1).toNatClampNeg (some (ax 33)))))))) := h
  show H[ad0 qm am qx ax 72]? = some (vp_cell cR (2, .inr (.inr (.inr (.inr (fun j => some (ad0 qm am qx ax (am_fr 72 j))))))))
  rw [h, kn_two (g := fun j => some (ad0 qm am qx ax (am_fr 72 j))) rfl rfl]⟩
set_option maxRecDepth 100000 in
theorem key_73 {D : va_G} {cA cR : ClassId} {qm : Nat} {am : Nat → Nat} {qx : Nat} {ax : Nat → Nat} {H : Heap} : KeyC D cA cR qm am qx ax H 73 := ⟨_, rfl, id⟩
set_option maxRecDepth 100000 in
theorem key_74 {D : va_G} {cA cR : ClassId} {qm : Nat} {am : Nat → Nat} {qx : Nat} {ax : Nat → Nat} {H : Heap} : KeyC D cA cR qm am qx ax H 74 := ⟨_, rfl, id⟩
set_option maxRecDepth 100000 in
theorem key_75 {D : va_G} {cA cR : ClassId} {qm : Nat} {am : Nat → Nat} {qx : Nat} {ax : Nat → Nat} {H : Heap} : KeyC D cA cR qm am qx ax H 75 := ⟨_, rfl, id⟩
set_option maxRecDepth 100000 in
theorem key_76 {D : va_G} {cA cR : ClassId} {qm : Nat} {am : Nat → Nat} {qx : Nat} {ax : Nat → Nat} {H : Heap} : KeyC D cA cR qm am qx ax H 76 := ⟨_, rfl, id⟩
set_option maxRecDepth 100000 in
theorem key_77 {D : va_G} {cA cR : ClassId} {qm : Nat} {am : Nat → Nat} {qx : Nat} {ax : Nat → Nat} {H : Heap} : KeyC D cA cR qm am qx ax H 77 := ⟨_, rfl, id⟩
set_option maxRecDepth 100000 in
theorem key_78 {D : va_G} {cA cR : ClassId} {qm : Nat} {am : Nat → Nat} {qx : Nat} {ax : Nat → Nat} {H : Heap} : KeyC D cA cR qm am qx ax H 78 := ⟨_, rfl, id⟩
set_option maxRecDepth 100000 in
theorem key_79 {D : va_G} {cA cR : ClassId} {qm : Nat} {am : Nat → Nat} {qx : Nat} {ax : Nat → Nat} {H : Heap} : KeyC D cA cR qm am qx ax H 79 := ⟨_, rfl, id⟩
set_option maxRecDepth 100000 in
theorem key_80 {D : va_G} {cA cR : ClassId} {qm : Nat} {am : Nat → Nat} {qx : Nat} {ax : Nat → Nat} {H : Heap} : KeyC D cA cR qm am qx ax H 80 := ⟨_, rfl, id⟩
set_option maxRecDepth 100000 in
theorem key_81 {D : va_G} {cA cR : ClassId} {qm : Nat} {am : Nat → Nat} {qx : Nat} {ax : Nat → Nat} {H : Heap} : KeyC D cA cR qm am qx ax H 81 := ⟨_, rfl, id⟩
set_option maxRecDepth 100000 in
theorem key_82 {D : va_G} {cA cR : ClassId} {qm : Nat} {am : Nat → Nat} {qx : Nat} {ax : Nat → Nat} {H : Heap} : KeyC D cA cR qm am qx ax H 82 := ⟨_, rfl, id⟩
set_option maxRecDepth 100000 in
theorem key_83 {D : va_G} {cA cR : ClassId} {qm : Nat} {am : Nat → Nat} {qx : Nat} {ax : Nat → Nat} {H : Heap} : KeyC D cA cR qm am qx ax H 83 := ⟨_, rfl, id⟩
set_option maxRecDepth 100000 in
theorem key_84 {D : va_G} {cA cR : ClassId} {qm : Nat} {am : Nat → Nat} {qx : Nat} {ax : Nat → Nat} {H : Heap} : KeyC D cA cR qm am qx ax H 84 := ⟨_, rfl, id⟩
set_option maxRecDepth 100000 in
theorem key_85 {D : va_G} {cA cR : ClassId} {qm : Nat} {am : Nat → Nat} {qx : Nat} {ax : Nat → Nat} {H : Heap} : KeyC D cA cR qm am qx ax H 85 := ⟨_, rfl, id⟩
set_option maxRecDepth 100000 in
theorem key_86 {D : va_G} {cA cR : ClassId} {qm : Nat} {am : Nat → Nat} {qx : Nat} {ax : Nat → Nat} {H : Heap} : KeyC D cA cR qm am qx ax H 86 := ⟨_, rfl, id⟩
set_option maxRecDepth 100000 in
theorem key_87 {D : va_G} {cA cR : ClassId} {qm : Nat} {am : Nat → Nat} {qx : Nat} {ax : Nat → Nat} {H : Heap} : KeyC D cA cR qm am qx ax H 87 := ⟨_, rfl, id⟩
theorem key_all {D : va_G} {cA cR : ClassId} {qm : Nat} {am : Nat → Nat} {qx : Nat} {ax : Nat → Nat} {H : Heap} : ∀ k, k < 88 → KeyC D cA cR qm am qx ax H k := fun k hk => match k, hk with
  | 0, _ => key_0
  | 1, _ => key_1
  | 2, _ => key_2
  | 3, _ => key_3
  | 4, _ => key_4
  | 5, _ => key_5
  | 6, _ => key_6
  | 7, _ => key_7
  | 8, _ => key_8
  | 9, _ => key_9
  | 10, _ => key_10
  | 11, _ => key_11
  | 12, _ => key_12
  | 13, _ => key_13
  | 14, _ => key_14
  | 15, _ => key_15
  | 16, _ => key_16
  | 17, _ => key_17
  | 18, _ => key_18
  | 19, _ => key_19
  | 20, _ => key_20
  | 21, _ => key_21
  | 22, _ => key_22
  | 23, _ => key_23
  | 24, _ => key_24
  | 25, _ => key_25
  | 26, _ => key_26
  | 27, _ => key_27
  | 28, _ => key_28
  | 29, _ => key_29
  | 30, _ => key_30
  | 31, _ => key_31
  | 32, _ => key_32
  | 33, _ => key_33
  | 34, _ => key_34
  | 35, _ => key_35
  | 36, _ => key_36
  | 37, _ => key_37
  | 38, _ => key_38
  | 39, _ => key_39
  | 40, _ => key_40
  | 41, _ => key_41
  | 42, _ => key_42
  | 43, _ => key_43
  | 44, _ => key_44
  | 45, _ => key_45
  | 46, _ => key_46
  | 47, _ => key_47
  | 48, _ => key_48
  | 49, _ => key_49
  | 50, _ => key_50
  | 51, _ => key_51
  | 52, _ => key_52
  | 53, _ => key_53
  | 54, _ => key_54
  | 55, _ => key_55
  | 56, _ => key_56
  | 57, _ => key_57
  | 58, _ => key_58
  | 59, _ => key_59
  | 60, _ => key_60
  | 61, _ => key_61
  | 62, _ => key_62
  | 63, _ => key_63
  | 64, _ => key_64
  | 65, _ => key_65
  | 66, _ => key_66
  | 67, _ => key_67
  | 68, _ => key_68
  | 69, _ => key_69
  | 70, _ => key_70
  | 71, _ => key_71
  | 72, _ => key_72
  | 73, _ => key_73
  | 74, _ => key_74
  | 75, _ => key_75
  | 76, _ => key_76
  | 77, _ => key_77
  | 78, _ => key_78
  | 79, _ => key_79
  | 80, _ => key_80
  | 81, _ => key_81
  | 82, _ => key_82
  | 83, _ => key_83
  | 84, _ => key_84
  | 85, _ => key_85
  | 86, _ => key_86
  | 87, _ => key_87
  | k + 88, h => absurd h (by omega)
theorem world_in {D : va_G} {cA cR : ClassId} {B : Nat → Prop} {qm : Nat} {am : Nat → Nat} {qx : Nat} {ax : Nat → Nat} {H : Heap} (hP : va_P D vwCl (mW cA qm am ++ xW cA cR qx ax) H) (hD : va_D B (mW cA qm am ++ xW cA cR qx ax)) : va_P D vwCl (am_world (ad0 qm am qx ax) cA cR s0) H ∧ va_D B (am_world (ad0 qm am qx ax) cA cR s0) := by
  have at88 : ∀ (k : Nat) (q : Nat × va_E), (am_world (ad0 qm am qx ax) cA cR s0)[k]? = some q → k < 88 ∧ q = (ad0 qm am qx ax k, am_cell (ad0 qm am qx ax) cA cR s0 k) := fun k q hq => by
    have hk : k < 88 := by
      have := (List.getElem?_eq_some_iff.mp hq).1
      unfold am_world at this
      rw [List.length_map, List.length_range] at this
      exact this
    rw [am_at hk] at hq
    exact ⟨hk, (Option.some.inj hq).symm⟩
  refine ⟨fun k q hq => ?_, fun i j p q hi hj h => ?_, fun k q hq => ?_⟩
  · obtain ⟨hk, rfl⟩ := at88 k q hq
    obtain ⟨e, he, hv⟩ := key_all (D := D) (cA := cA) (cR := cR) (qm := qm) (am := am) (qx := qx) (ax := ax) (H := H) k hk
    exact hv (hP k _ he)
  · obtain ⟨hi1, rfl⟩ := at88 i p hi
    obtain ⟨hj1, rfl⟩ := at88 j q hj
    obtain ⟨e, he, -⟩ := key_all (D := D) (cA := cA) (cR := cR) (qm := qm) (am := am) (qx := qx) (ax := ax) (H := H) i hi1
    obtain ⟨e', he', -⟩ := key_all (D := D) (cA := cA) (cR := cR) (qm := qm) (am := am) (qx := qx) (ax := ax) (H := H) j hj1
    exact hD.1 i j _ _ he he' h
  · obtain ⟨hk, rfl⟩ := at88 k q hq
    obtain ⟨e, he, -⟩ := key_all (D := D) (cA := cA) (cR := cR) (qm := qm) (am := am) (qx := qx) (ax := ax) (H := H) k hk
    have hz := hD.2 k _ he
    exact hz
theorem lw_mask (v : Int32) : ∃ k, k < 32 ∧ v &&& nI 31 = nI k := by
  have hv : v = nI v.toBitVec.toNat := by
    refine Int32.toBitVec_inj.mp ?_
    show v.toBitVec = BitVec.ofNat 32 v.toBitVec.toNat
    rw [BitVec.ofNat_toNat, BitVec.setWidth_eq]
  refine ⟨v.toBitVec.toNat % 32, Nat.mod_lt _ (by decide), ?_⟩
  conv => lhs; rw [hv]
  exact nx_mask (k := 5) (p := 32) _ rfl
theorem lw_cmp {i L : Nat} (hi : i ≤ 2560) (hL : L ≤ 2560) (h : ¬ nI L - nI 5 < nI i) : i + 5 ≤ L := by
  rcases Nat.lt_or_ge L 5 with hl | hl
  · exfalso
    refine h ?_
    have h1 : nI L - nI 5 < 0 := by
      rcases (show L = 0 ∨ L = 1 ∨ L = 2 ∨ L = 3 ∨ L = 4 by omega) with rfl | rfl | rfl | rfl | rfl <;> decide
    have h2 : ¬ nI i < 0 := fun z => absurd ((am_nlt0 (by omega)).mp z) (Nat.not_lt_zero _)
    have a1 := Int32.lt_iff_toInt_lt.mp h1
    have a2 : ¬ (nI i).toInt < (0 : Int32).toInt := fun z => h2 (Int32.lt_iff_toInt_lt.mpr z)
    exact Int32.lt_iff_toInt_lt.mpr (by omega)
  · rw [nx_sub hl] at h
    have : ¬ L - 5 < i := fun z => h ((nI_ltI (by omega) (by omega)).mpr z)
    omega
section Law2
variable {p : Program} {l : Launch} {e : Env} {s : State} {m : MethodId} {below : List Frame} {meth : Method} {c : Code} {b L : Nat} {xs : Nat → Int32} {D : va_G} {ad : Nat → Nat} {cA cR : ClassId}
set_option maxHeartbeats 4000000 in
set_option maxRecDepth 100000 in
theorem lw_loop (h : LwC p s m meth c b L xs D cA cR) (hL : L ≤ 2560) : ∀ (n i : Nat), i ≤ L → L + 1 ≤ i + n → ∀ (ls : Array Slot), lv_has ls 4 [(0, .ref b), (1, .ref (ad 41)), (2, .ref (ad 0)), (3, .int (nI i))] → LwK p l e s m below meth c b D ad cA cR ls 18 := by
  obtain ⟨⟨hx, hb, hr, hml, hown, hts, hX, hbl, hlocks, hgv⟩, hN, hK⟩ := id h
  have hbA : ¬ (fun q : Nat => s.heap.size ≤ q) b := Nat.not_le.mpr hbl
  intro n
  induction n with
  | zero =>
    intro i h1 h2
    exact absurd h2 (by omega)
  | succ n ih =>
    intro i hiL hin ls hl σ H locs hI hP hD hS
    refine lv_iload_n hx hb dL_18 rfl (lv_at hl 3 rfl) ?_
    refine lv_aload_n hx hb dL_19 rfl (lv_at hl 0 rfl) ?_
    refine va_slen hx hb hX hbl hbA hS dL_20 ?_
    refine lv_iconst (v := nI 5) hx hb dL_21 (by decide +kernel) ?_
    refine lv_isub hx hb dL_22 ?_
    refine lv_icmp_gt (tgt := 653) hx hb dL_23 (by decide) (fun hc => ?_) (fun hc => ?_)
    · refine lv_iconst (v := 1) hx hb dL_653 (by decide) ?_
      refine va_forget (fun q hq => hS.2.2 q hq) ?_
      refine W.widen (k := 600000) (n := 7302250) (Nat.le_of_ble_eq_true rfl) (Nat.le_of_ble_eq_true rfl) ?_
      exact lw_ret hx hb hr hlocks dL_654
    · have hi5 : i + 5 ≤ L := lw_cmp (by omega) hL hc
      have hkk : LwK p l e s m below meth c b D ad cA cR ls 647 := fun σ H locs hI hP hD hS => by
        refine lv_iinc (v := nI (i + 5)) (lv' := [(3, .int (nI (i + 5))), (0, .ref b), (1, .ref (ad 41)), (2, .ref (ad 0))]) hx hb dL_647 hl (k := 3) rfl (nI_add i 5) (by decide) rfl (fun ls hl => ?_)
        refine lv_goto (tgt := 18) hx hb dL_650 (by decide) ?_
        exact ih (i + 5) hi5 (by omega) ls (lv_sub hl [1, 2, 3, 0] rfl) σ H locs hI hP hD hS
      refine lv_aload_n hx hb dL_26 rfl (lv_at hl 0 rfl) ?_
      refine lv_iload_n hx hb dL_27 rfl (lv_at hl 3 rfl) ?_
      refine va_sld hx hb hX hbl hbA hS (vp_in_nI (by omega) (by omega)) dL_28 ?_
      refine lv_bipush (v := nI 31) hx hb dL_29 (by decide +kernel) ?_
      refine lv_iand hx hb dL_31 ?_
      refine lv_topi (fun z ez => ?_)
      obtain ⟨k, hk, hz⟩ := lw_mask (xs (nI i).toNatClampNeg)
      rw [hz] at ez
      subst ez
      rcases (show k = 0 ∨ k = 1 ∨ k = 2 ∨ k = 3 ∨ k = 4 ∨ k = 5 ∨ k = 6 ∨ k = 7 ∨ k = 8 ∨ k = 9 ∨ k = 10 ∨ k = 11 ∨ k = 12 ∨ k = 13 ∨ k = 14 ∨ k = 15 ∨ k = 16 ∨ k = 17 ∨ k = 18 ∨ k = 19 ∨ k = 20 ∨ k = 21 ∨ k = 22 ∨ k = 23 ∨ k = 24 ∨ k = 25 ∨ k = 26 ∨ k = 27 ∨ k = 28 ∨ k = 29 ∨ k = 30 ∨ k = 31 by omega) with rfl | rfl | rfl | rfl | rfl | rfl | rfl | rfl | rfl | rfl | rfl | rfl | rfl | rfl | rfl | rfl | rfl | rfl | rfl | rfl | rfl | rfl | rfl | rfl | rfl | rfl | rfl | rfl | rfl | rfl | rfl | rfl
      · exact lv_tableIn (off := 84) (tgt := 116) hx hb dL_32 (by decide +kernel) (by decide +kernel) (by decide +kernel) (by decide) (lw_c0 h hL hi5 hl hkk σ H locs hI hP hD hS)
      · exact lv_tableIn (off := 107) (tgt := 139) hx hb dL_32 (by decide +kernel) (by decide +kernel) (by decide +kernel) (by decide) (lw_c1 h hL hi5 hl hkk σ H locs hI hP hD hS)
      · exact lv_tableIn (off := 120) (tgt := 152) hx hb dL_32 (by decide +kernel) (by decide +kernel) (by decide +kernel) (by decide) (lw_c2 h hL hi5 hl hkk σ H locs hI hP hD hS)
      · exact lv_tableIn (off := 143) (tgt := 175) hx hb dL_32 (by decide +kernel) (by decide +kernel) (by decide +kernel) (by decide) (lw_c3 h hL hi5 hl hkk σ H locs hI hP hD hS)
      · exact lv_tableIn (off := 156) (tgt := 188) hx hb dL_32 (by decide +kernel) (by decide +kernel) (by decide +kernel) (by decide) (lw_c4 h hL hi5 hl hkk σ H locs hI hP hD hS)
      · exact lv_tableIn (off := 189) (tgt := 221) hx hb dL_32 (by decide +kernel) (by decide +kernel) (by decide +kernel) (by decide) (lw_c5 h hL hi5 hl hkk σ H locs hI hP hD hS)
      · exact lv_tableIn (off := 212) (tgt := 244) hx hb dL_32 (by decide +kernel) (by decide +kernel) (by decide +kernel) (by decide) (lw_c6 h hL hi5 hl hkk σ H locs hI hP hD hS)
      · exact lv_tableIn (off := 235) (tgt := 267) hx hb dL_32 (by decide +kernel) (by decide +kernel) (by decide +kernel) (by decide) (lw_c7 h hL hi5 hl hkk σ H locs hI hP hD hS)
      · exact lv_tableIn (off := 258) (tgt := 290) hx hb dL_32 (by decide +kernel) (by decide +kernel) (by decide +kernel) (by decide) (lw_c8 h hL hi5 hl hkk σ H locs hI hP hD hS)
      · exact lv_tableIn (off := 301) (tgt := 333) hx hb dL_32 (by decide +kernel) (by decide +kernel) (by decide +kernel) (by decide) (lw_c9 h hL hi5 hl hkk σ H locs hI hP hD hS)
      · exact lv_tableIn (off := 354) (tgt := 386) hx hb dL_32 (by decide +kernel) (by decide +kernel) (by decide +kernel) (by decide) (lw_c10 h hL hi5 hl hkk σ H locs hI hP hD hS)
      · exact lv_tableIn (off := 397) (tgt := 429) hx hb dL_32 (by decide +kernel) (by decide +kernel) (by decide +kernel) (by decide) (lw_c11 h hL hi5 hl hkk σ H locs hI hP hD hS)
      · exact lv_tableIn (off := 430) (tgt := 462) hx hb dL_32 (by decide +kernel) (by decide +kernel) (by decide +kernel) (by decide) (lw_c12 h hL hi5 hl hkk σ H locs hI hP hD hS)
      · exact lv_tableIn (off := 473) (tgt := 505) hx hb dL_32 (by decide +kernel) (by decide +kernel) (by decide +kernel) (by decide) (lw_c13 h hL hi5 hl hkk σ H locs hI hP hD hS)
      · exact lv_tableIn (off := 516) (tgt := 548) hx hb dL_32 (by decide +kernel) (by decide +kernel) (by decide +kernel) (by decide) (lw_c14 h hL hi5 hl hkk σ H locs hI hP hD hS)
      · exact lv_tableIn (off := 539) (tgt := 571) hx hb dL_32 (by decide +kernel) (by decide +kernel) (by decide +kernel) (by decide) (lw_c15 h hL hi5 hl hkk σ H locs hI hP hD hS)
      · exact lv_tableIn (off := 582) (tgt := 614) hx hb dL_32 (by decide +kernel) (by decide +kernel) (by decide +kernel) (by decide) (lw_c16 h hL hi5 hl hkk σ H locs hI hP hD hS)
      · exact lv_tableOut (tgt := 647) hx hb dL_32 (Or.inr (by decide +kernel)) (by decide) (hkk σ H locs hI hP hD hS)
      · exact lv_tableOut (tgt := 647) hx hb dL_32 (Or.inr (by decide +kernel)) (by decide) (hkk σ H locs hI hP hD hS)
      · exact lv_tableOut (tgt := 647) hx hb dL_32 (Or.inr (by decide +kernel)) (by decide) (hkk σ H locs hI hP hD hS)
      · exact lv_tableOut (tgt := 647) hx hb dL_32 (Or.inr (by decide +kernel)) (by decide) (hkk σ H locs hI hP hD hS)
      · exact lv_tableOut (tgt := 647) hx hb dL_32 (Or.inr (by decide +kernel)) (by decide) (hkk σ H locs hI hP hD hS)
      · exact lv_tableOut (tgt := 647) hx hb dL_32 (Or.inr (by decide +kernel)) (by decide) (hkk σ H locs hI hP hD hS)
      · exact lv_tableOut (tgt := 647) hx hb dL_32 (Or.inr (by decide +kernel)) (by decide) (hkk σ H locs hI hP hD hS)
      · exact lv_tableOut (tgt := 647) hx hb dL_32 (Or.inr (by decide +kernel)) (by decide) (hkk σ H locs hI hP hD hS)
      · exact lv_tableOut (tgt := 647) hx hb dL_32 (Or.inr (by decide +kernel)) (by decide) (hkk σ H locs hI hP hD hS)
      · exact lv_tableOut (tgt := 647) hx hb dL_32 (Or.inr (by decide +kernel)) (by decide) (hkk σ H locs hI hP hD hS)
      · exact lv_tableOut (tgt := 647) hx hb dL_32 (Or.inr (by decide +kernel)) (by decide) (hkk σ H locs hI hP hD hS)
      · exact lv_tableOut (tgt := 647) hx hb dL_32 (Or.inr (by decide +kernel)) (by decide) (hkk σ H locs hI hP hD hS)
      · exact lv_tableOut (tgt := 647) hx hb dL_32 (Or.inr (by decide +kernel)) (by decide) (hkk σ H locs hI hP hD hS)
      · exact lv_tableOut (tgt := 647) hx hb dL_32 (Or.inr (by decide +kernel)) (by decide) (hkk σ H locs hI hP hD hS)
      · exact lv_tableOut (tgt := 647) hx hb dL_32 (Or.inr (by decide +kernel)) (by decide) (hkk σ H locs hI hP hD hS)
end Law2

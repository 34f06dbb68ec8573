abbrev rmX3_add : Room := { frames := 0, cells := 0, slots := 0, locals := 0 }
theorem iX3_add_X3 : ∀ x ∈ wsX30, x ∈ wsX3_add := by decide +kernel
theorem nd_X3_add : yX3_add.cls = RX3 ∧ yX3_add.cls ≠ "java/lang/invoke/MethodHandle" ∧ yX3_add.cls ≠ "java/lang/invoke/VarHandle" ∧ (parseMethodDescriptor yX3_add.desc).map (fun d => d.parameters.length) = some 4 := by decide +kernel
def f_X3_add (fu : Nat) (σ : SS) (x1 : Int32) (x2 : Int32) (x3 : Int32) (x4 : Int32) : Option (Int32 × SS) :=
  if inB (σ.1 15) 400 then some ((((σ.1 15) + (1 : Int32)) - (1 : Int32)), (sI (sA (sA (sA (sA σ 22 ((σ.1 15)).toNatClampNeg x1) 23 ((σ.1 15)).toNatClampNeg x2) 24 ((σ.1 15)).toNatClampNeg x3) 25 ((σ.1 15)).toNatClampNeg x4) 15 ((σ.1 15) + (1 : Int32)))) else none
section
variable {p : Program} {l : Launch} {e : Env} {s : State} {m : MethodId} {args : Array Value} {below : List Frame} {meth : Method} {c : Code} {g : Gm} {A : Nat → Prop} {fu : Nat} {R : Int32 × SS}
set_option maxHeartbeats 4000000 in
set_option maxRecDepth 100000 in
theorem w_X3_add_0 {σ : SS} {x1 : Int32} {x2 : Int32} {x3 : Int32} {x4 : Int32} (C : Cx p l s m args meth c cX3_add 5 wsX3_add (some .int) RX3 g A) (h : f_X3_add fu σ x1 x2 x3 x4 = some R) {H : Heap} {locs : List Loc} {ls : Array Slot} (hA : Aw g A s.heap (wX g σ) H locs) (hl : lv_has ls 5 [(0, .ref (g.2.1 5)), (1, .int x1), (2, .int x2), (3, .int x3), (4, .int x4)]) : W p l e rmX3_add s m args below meth c H locs 0 0 (MQ below (Qi g A (wX g R.2) R.1) args s 0 0 A) (F0 m 0 ls []) := by
  have hx := C.1.1
  have hb := C.1.2.1
  unfold f_X3_add at h
  refine lv_aload_n hx hb dX3_add_0 rfl (lv_at hl 0 rfl) ?_
  refine Xg_X3_debtor C hA iX3_add_X3 (by decide +kernel) dX3_add_1 ?_
  refine lv_aload_n hx hb dX3_add_4 rfl (lv_at hl 0 rfl) ?_
  refine Xg_X3_size (v := (σ.1 15)) C hA rfl iX3_add_X3 (by decide +kernel) dX3_add_5 ?_
  refine lv_iload_n hx hb dX3_add_8 rfl (lv_at hl 1 rfl) ?_
  obtain ⟨g1, h⟩ := gd h
  refine Xst_22 C hA g1 dX3_add_9 (fun H locs hA => ?_)
  refine lv_aload_n hx hb dX3_add_10 rfl (lv_at hl 0 rfl) ?_
  refine Xg_X3_creditor C hA iX3_add_X3 (by decide +kernel) dX3_add_11 ?_
  refine lv_aload_n hx hb dX3_add_14 rfl (lv_at hl 0 rfl) ?_
  refine Xg_X3_size (v := (σ.1 15)) C hA rfl iX3_add_X3 (by decide +kernel) dX3_add_15 ?_
  refine lv_iload_n hx hb dX3_add_18 rfl (lv_at hl 2 rfl) ?_
  refine Xst_23 C hA g1 dX3_add_19 (fun H locs hA => ?_)
  refine lv_aload_n hx hb dX3_add_20 rfl (lv_at hl 0 rfl) ?_
  refine Xg_X3_left C hA iX3_add_X3 (by decide +kernel) dX3_add_21 ?_
  refine lv_aload_n hx hb dX3_add_24 rfl (lv_at hl 0 rfl) ?_
  refine Xg_X3_size (v := (σ.1 15)) C hA rfl iX3_add_X3 (by decide +kernel) dX3_add_25 ?_
  refine lv_iload_n hx hb dX3_add_28 rfl (lv_at hl 3 rfl) ?_
  refine Xst_24 C hA g1 dX3_add_29 (fun H locs hA => ?_)
  refine lv_aload_n hx hb dX3_add_30 rfl (lv_at hl 0 rfl) ?_
  refine Xg_X3_due C hA iX3_add_X3 (by decide +kernel) dX3_add_31 ?_
  refine lv_aload_n hx hb dX3_add_34 rfl (lv_at hl 0 rfl) ?_
  refine Xg_X3_size (v := (σ.1 15)) C hA rfl iX3_add_X3 (by decide +kernel) dX3_add_35 ?_
  refine lv_iload hx hb dX3_add_38 (lv_at hl 4 rfl) ?_
  refine Xst_25 C hA g1 dX3_add_40 (fun H locs hA => ?_)
  refine lv_aload_n hx hb dX3_add_41 rfl (lv_at hl 0 rfl) ?_
  refine lv_dup hx hb dX3_add_42 rfl ?_
  refine Xg_X3_size (v := (σ.1 15)) C hA rfl iX3_add_X3 (by decide +kernel) dX3_add_43 ?_
  refine lv_iconst (v := 1) hx hb dX3_add_46 (by decide) ?_
  refine lv_iadd hx hb dX3_add_47 ?_
  refine Xp_X3_size C hA iX3_add_X3 (by decide +kernel) dX3_add_48 (fun H locs hA => ?_)
  refine lv_aload_n hx hb dX3_add_51 rfl (lv_at hl 0 rfl) ?_
  refine Xg_X3_size (v := ((σ.1 15) + (1 : Int32))) C hA rfl iX3_add_X3 (by decide +kernel) dX3_add_52 ?_
  refine lv_iconst (v := 1) hx hb dX3_add_55 (by decide) ?_
  refine lv_isub hx hb dX3_add_56 ?_
  obtain rfl := Option.some.inj h
  exact r_iret C hA dX3_add_57
end
set_option maxRecDepth 100000 in
theorem k_X3_add {l : Launch} {g : Gm} {fu : Nat} {σ : SS} {x1 : Int32} {x2 : Int32} {x3 : Int32} {x4 : Int32} {R : Int32 × SS} (hlt : l.stackTraces = false) (h : f_X3_add fu σ x1 x2 x3 x4 = some R) (sz : Nat) : Met l yX3_add wsX3_add rmX3_add (Pw g (wX g σ) [.ref (g.2.1 5), .int x1, .int x2, .int x3, .int x4] sz) (Qi g (va_A (wX g σ) sz) (wX g R.2) R.1) 0 0 (va_A (wX g σ) sz) :=
  ofM (own := RX3) hlt (by decide) rfl rfl (Nat.le_of_ble_eq_true rfl) (fun p e s m below meth c hsz C hA ls hl => w_X3_add_0 C h hA hl)
abbrev rmX3_room : Room := { frames := 0, cells := 0, slots := 0, locals := 0 }
theorem iX3_room_X3 : ∀ x ∈ wsX30, x ∈ wsX3_room := by decide +kernel
theorem nd_X3_room : yX3_room.cls = RX3 ∧ yX3_room.cls ≠ "java/lang/invoke/MethodHandle" ∧ yX3_room.cls ≠ "java/lang/invoke/VarHandle" ∧ (parseMethodDescriptor yX3_room.desc).map (fun d => d.parameters.length) = some 0 := by decide +kernel
def f_X3_room (fu : Nat) (σ : SS) : Option (Int32) :=
  some ((400 : Int32) - (σ.1 15))
section
variable {p : Program} {l : Launch} {e : Env} {s : State} {m : MethodId} {args : Array Value} {below : List Frame} {meth : Method} {c : Code} {g : Gm} {A : Nat → Prop} {fu : Nat} {R : Int32}
set_option maxHeartbeats 4000000 in
set_option maxRecDepth 100000 in
theorem w_X3_room_0 {σ : SS} (C : Cx p l s m args meth c cX3_room 1 wsX3_room (some .int) RX3 g A) (h : f_X3_room fu σ = some R) {H : Heap} {locs : List Loc} {ls : Array Slot} (hA : Aw g A s.heap (wX g σ) H locs) (hl : lv_has ls 1 [(0, .ref (g.2.1 5))]) : W p l e rmX3_room s m args below meth c H locs 0 0 (MQ below (Qi g A (wX g σ) R) args s 0 0 A) (F0 m 0 ls []) := by
  have hx := C.1.1
  have hb := C.1.2.1
  unfold f_X3_room at h
  refine lv_sipush (v := 400) hx hb dX3_room_0 (by decide) ?_
  refine lv_aload_n hx hb dX3_room_3 rfl (lv_at hl 0 rfl) ?_
  refine Xg_X3_size (v := (σ.1 15)) C hA rfl iX3_room_X3 (by decide +kernel) dX3_room_4 ?_
  refine lv_isub hx hb dX3_room_7 ?_
  obtain rfl := Option.some.inj h
  exact r_iret C hA dX3_room_8
end
set_option maxRecDepth 100000 in
theorem k_X3_room {l : Launch} {g : Gm} {fu : Nat} {σ : SS} {R : Int32} (hlt : l.stackTraces = false) (h : f_X3_room fu σ = some R) (sz : Nat) : Met l yX3_room wsX3_room rmX3_room (Pw g (wX g σ) [.ref (g.2.1 5)] sz) (Qi g (va_A (wX g σ) sz) (wX g σ) R) 0 0 (va_A (wX g σ) sz) :=
  ofM (own := RX3) hlt (by decide) rfl rfl (Nat.le_of_ble_eq_true rfl) (fun p e s m below meth c hsz C hA ls hl => w_X3_room_0 C h hA hl)
abbrev rmX3_isLoan : Room := { frames := 0, cells := 0, slots := 0, locals := 0 }
theorem iX3_isLoan_X3 : ∀ x ∈ wsX30, x ∈ wsX3_isLoan := by decide +kernel
theorem nd_X3_isLoan : yX3_isLoan.cls = RX3 ∧ yX3_isLoan.cls ≠ "java/lang/invoke/MethodHandle" ∧ yX3_isLoan.cls ≠ "java/lang/invoke/VarHandle" ∧ (parseMethodDescriptor yX3_isLoan.desc).map (fun d => d.parameters.length) = some 1 := by decide +kernel
def f_X3_isLoan (fu : Nat) (σ : SS) (x1 : Int32) : Option (Int32) :=
  if inB x1 400 then (if (σ.2.1 25 (x1).toNatClampNeg) = (-1) then some (1 : Int32) else some (0 : Int32)) else none
section
variable {p : Program} {l : Launch} {e : Env} {s : State} {m : MethodId} {args : Array Value} {below : List Frame} {meth : Method} {c : Code} {g : Gm} {A : Nat → Prop} {fu : Nat} {R : Int32}
set_option maxHeartbeats 4000000 in
set_option maxRecDepth 100000 in
theorem w_X3_isLoan_0 {σ : SS} {x1 : Int32} (C : Cx p l s m args meth c cX3_isLoan 2 wsX3_isLoan (some .boolean) RX3 g A) (h : f_X3_isLoan fu σ x1 = some R) {H : Heap} {locs : List Loc} {ls : Array Slot} (hA : Aw g A s.heap (wX g σ) H locs) (hl : lv_has ls 2 [(0, .ref (g.2.1 5)), (1, .int x1)]) : W p l e rmX3_isLoan s m args below meth c H locs 0 0 (MQ below (Qi g A (wX g σ) R) args s 0 0 A) (F0 m 0 ls []) := by
  have hx := C.1.1
  have hb := C.1.2.1
  unfold f_X3_isLoan at h
  refine lv_aload_n hx hb dX3_isLoan_0 rfl (lv_at hl 0 rfl) ?_
  refine Xg_X3_due C hA iX3_isLoan_X3 (by decide +kernel) dX3_isLoan_1 ?_
  refine lv_iload_n hx hb dX3_isLoan_4 rfl (lv_at hl 1 rfl) ?_
  obtain ⟨g1, h⟩ := gd h
  refine Xld_25 (v := (σ.2.1 25 (x1).toNatClampNeg)) C hA rfl g1 dX3_isLoan_5 ?_
  refine lv_iconst (v := (-1)) hx hb dX3_isLoan_6 (by decide) ?_
  refine lv_icmp_ne (tgt := 14) hx hb dX3_isLoan_7 (by decide) (fun c2 => ?_) (fun c2 => ?_)
  · replace h := (if_neg c2).symm.trans h
    refine lv_iconst (v := 0) hx hb dX3_isLoan_14 (by decide) ?_
    obtain rfl := Option.some.inj h
    exact r_zret (v := (0 : Int32)) C hA (zb (Or.inl rfl)) dX3_isLoan_15
  · replace h := (if_pos c2).symm.trans h
    refine lv_iconst (v := 1) hx hb dX3_isLoan_10 (by decide) ?_
    refine lv_goto (tgt := 15) hx hb dX3_isLoan_11 (by decide) ?_
    obtain rfl := Option.some.inj h
    exact r_zret (v := (1 : Int32)) C hA (zb (Or.inr rfl)) dX3_isLoan_15
end
set_option maxRecDepth 100000 in
theorem k_X3_isLoan {l : Launch} {g : Gm} {fu : Nat} {σ : SS} {x1 : Int32} {R : Int32} (hlt : l.stackTraces = false) (h : f_X3_isLoan fu σ x1 = some R) (sz : Nat) : Met l yX3_isLoan wsX3_isLoan rmX3_isLoan (Pw g (wX g σ) [.ref (g.2.1 5), .int x1] sz) (Qi g (va_A (wX g σ) sz) (wX g σ) R) 0 0 (va_A (wX g σ) sz) :=
  ofM (own := RX3) hlt (by decide) rfl rfl (Nat.le_of_ble_eq_true rfl) (fun p e s m below meth c hsz C hA ls hl => w_X3_isLoan_0 C h hA hl)
abbrev rmX3_open : Room := { frames := 0, cells := 0, slots := 0, locals := 0 }
theorem iX3_open_X3 : ∀ x ∈ wsX30, x ∈ wsX3_open := by decide +kernel
theorem nd_X3_open : yX3_open.cls = RX3 ∧ yX3_open.cls ≠ "java/lang/invoke/MethodHandle" ∧ yX3_open.cls ≠ "java/lang/invoke/VarHandle" ∧ (parseMethodDescriptor yX3_open.desc).map (fun d => d.parameters.length) = some 0 := by decide +kernel
def f_X3_open_24 (fu : Nat) (k4 : SS → (Int32 × Int32) → Option (Int32)) (σ : SS) (x1 : Int32) (x2 : Int32) : Option (Int32) :=
  k4 σ (x1, (x2 + 1))
def f_X3_open_4 (fu : Nat) (k4 : SS → (Int32 × Int32) → Option (Int32)) (σ : SS) (x1 : Int32) (x2 : Int32) : Option (Int32) :=
  (if (σ.1 15) ≤ x2 then some x1 else if inB x2 400 then (if (σ.2.1 24 (x2).toNatClampNeg) ≤ 0 then f_X3_open_24 fu k4 σ x1 x2 else f_X3_open_24 fu k4 σ (x1 + 1) x2) else none)
def f_X3_open_L4 (fu : Nat) : SS → (Int32 × Int32) → Option (Int32) := loopN (fun k4 σ x => f_X3_open_4 fu k4 σ x.1 x.2) fu
def f_X3_open (fu : Nat) (σ : SS) : Option (Int32) :=
  f_X3_open_L4 fu σ ((0 : Int32), (0 : Int32))
section
variable {p : Program} {l : Launch} {e : Env} {s : State} {m : MethodId} {args : Array Value} {below : List Frame} {meth : Method} {c : Code} {g : Gm} {A : Nat → Prop} {fu : Nat} {R : Int32}
set_option maxHeartbeats 4000000 in
set_option maxRecDepth 100000 in
theorem w_X3_open_24 {σ : SS} {x1 : Int32} {x2 : Int32} (C : Cx p l s m args meth c cX3_open 3 wsX3_open (some .int) RX3 g A) {k4 : SS → (Int32 × Int32) → Option (Int32)} (hk4 : ∀ (σ1 : SS) (x : Int32 × Int32), σ1 = σ → k4 σ1 x = some R → ∀ (H : Heap) (locs : List Loc) (ls : Array Slot), Aw g A s.heap (wX g σ) H locs → lv_has ls 3 [(0, .ref (g.2.1 5)), (1, .int x.1), (2, .int x.2)] → W p l e rmX3_open s m args below meth c H locs 0 0 (MQ below (Qi g A (wX g σ) R) args s 0 0 A) (F0 m 4 ls [])) (h : f_X3_open_24 fu k4 σ x1 x2 = some R) {H : Heap} {locs : List Loc} {ls : Array Slot} (hA : Aw g A s.heap (wX g σ) H locs) (hl : lv_has ls 3 [(0, .ref (g.2.1 5)), (1, .int x1), (2, .int x2)]) : W p l e rmX3_open s m args below meth c H locs 0 0 (MQ below (Qi g A (wX g σ) R) args s 0 0 A) (F0 m 24 ls []) := by
  have hx := C.1.1
  have hb := C.1.2.1
  unfold f_X3_open_24 at h
  refine lv_iinc (v := (x2 + 1)) (lv' := [(2, .int (x2 + 1)), (0, .ref (g.2.1 5)), (1, .int x1)]) hx hb dX3_open_24 hl (k := 2) rfl rfl (by decide) rfl (fun ls hl => ?_)
  refine lv_goto (tgt := 4) hx hb dX3_open_27 (by decide) ?_
  exact hk4 _ _ rfl h _ _ _ hA (lv_sub hl [1, 2, 0] rfl)
set_option maxHeartbeats 4000000 in
set_option maxRecDepth 100000 in
theorem w_X3_open_4 {σ : SS} {x1 : Int32} {x2 : Int32} (C : Cx p l s m args meth c cX3_open 3 wsX3_open (some .int) RX3 g A) {k4 : SS → (Int32 × Int32) → Option (Int32)} (hk4 : ∀ (σ1 : SS) (x : Int32 × Int32), σ1 = σ → k4 σ1 x = some R → ∀ (H : Heap) (locs : List Loc) (ls : Array Slot), Aw g A s.heap (wX g σ) H locs → lv_has ls 3 [(0, .ref (g.2.1 5)), (1, .int x.1), (2, .int x.2)] → W p l e rmX3_open s m args below meth c H locs 0 0 (MQ below (Qi g A (wX g σ) R) args s 0 0 A) (F0 m 4 ls [])) (h : f_X3_open_4 fu k4 σ x1 x2 = some R) {H : Heap} {locs : List Loc} {ls : Array Slot} (hA : Aw g A s.heap (wX g σ) H locs) (hl : lv_has ls 3 [(0, .ref (g.2.1 5)), (1, .int x1), (2, .int x2)]) : W p l e rmX3_open s m args below meth c H locs 0 0 (MQ below (Qi g A (wX g σ) R) args s 0 0 A) (F0 m 4 ls []) := by
  have hx := C.1.1
  have hb := C.1.2.1
  unfold f_X3_open_4 at h
  refine lv_iload_n hx hb dX3_open_4 rfl (lv_at hl 2 rfl) ?_
  refine lv_aload_n hx hb dX3_open_5 rfl (lv_at hl 0 rfl) ?_
  refine Xg_X3_size (v := (σ.1 15)) C hA rfl iX3_open_X3 (by decide +kernel) dX3_open_6 ?_
  refine lv_icmp_ge (tgt := 30) hx hb dX3_open_9 (by decide) (fun c1 => ?_) (fun c1 => ?_)
  · replace h := (if_pos c1).symm.trans h
    refine lv_iload_n hx hb dX3_open_30 rfl (lv_at hl 1 rfl) ?_
    obtain rfl := Option.some.inj h
    exact r_iret C hA dX3_open_31
  · replace h := (if_neg c1).symm.trans h
    refine lv_aload_n hx hb dX3_open_12 rfl (lv_at hl 0 rfl) ?_
    refine Xg_X3_left C hA iX3_open_X3 (by decide +kernel) dX3_open_13 ?_
    refine lv_iload_n hx hb dX3_open_16 rfl (lv_at hl 2 rfl) ?_
    obtain ⟨g2, h⟩ := gd h
    refine Xld_24 (v := (σ.2.1 24 (x2).toNatClampNeg)) C hA rfl g2 dX3_open_17 ?_
    refine lv_if_le (tgt := 24) hx hb dX3_open_18 (by decide) (fun c3 => ?_) (fun c3 => ?_)
    · replace h := (if_pos c3).symm.trans h
      exact w_X3_open_24 C hk4 h hA (lv_sub hl [0, 1, 2] rfl)
    · replace h := (if_neg c3).symm.trans h
      refine lv_iinc (v := (x1 + 1)) (lv' := [(1, .int (x1 + 1)), (0, .ref (g.2.1 5)), (2, .int x2)]) hx hb dX3_open_21 hl (k := 1) rfl rfl (by decide) rfl (fun ls hl => ?_)
      exact w_X3_open_24 C hk4 h hA (lv_sub hl [1, 0, 2] rfl)
set_option maxHeartbeats 4000000 in
theorem w_X3_open_L4 {σ : SS} {x : Int32 × Int32} (C : Cx p l s m args meth c cX3_open 3 wsX3_open (some .int) RX3 g A) (h : f_X3_open_L4 fu σ x = some R) {H : Heap} {locs : List Loc} {ls : Array Slot} (hA : Aw g A s.heap (wX g σ) H locs) (hl : lv_has ls 3 [(0, .ref (g.2.1 5)), (1, .int x.1), (2, .int x.2)]) : W p l e rmX3_open s m args below meth c H locs 0 0 (MQ below (Qi g A (wX g σ) R) args s 0 0 A) (F0 m 4 ls []) := by
  refine loopW (P := fun σ1 x => σ1 = σ → ∀ (H : Heap) (locs : List Loc) (ls : Array Slot), Aw g A s.heap (wX g σ) H locs → lv_has ls 3 [(0, .ref (g.2.1 5)), (1, .int x.1), (2, .int x.2)] → W p l e rmX3_open s m args below meth c H locs 0 0 (MQ below (Qi g A (wX g σ) R) args s 0 0 A) (F0 m 4 ls [])) (fun k hk σ1 x h9 e1 H locs ls hA9 hl9 => ?_) fu σ x h rfl H locs ls hA hl
  subst e1
  exact w_X3_open_4 C (fun σ2 x e2 h2 => hk σ2 x h2 e2) h9 hA9 hl9
set_option maxHeartbeats 4000000 in
set_option maxRecDepth 100000 in
theorem w_X3_open_0 {σ : SS} (C : Cx p l s m args meth c cX3_open 3 wsX3_open (some .int) RX3 g A) (h : f_X3_open fu σ = some R) {H : Heap} {locs : List Loc} {ls : Array Slot} (hA : Aw g A s.heap (wX g σ) H locs) (hl : lv_has ls 3 [(0, .ref (g.2.1 5))]) : W p l e rmX3_open s m args below meth c H locs 0 0 (MQ below (Qi g A (wX g σ) R) args s 0 0 A) (F0 m 0 ls []) := by
  have hx := C.1.1
  have hb := C.1.2.1
  unfold f_X3_open at h
  refine lv_iconst (v := 0) hx hb dX3_open_0 (by decide) ?_
  refine lv_istore_n (lv' := [(1, .int (0 : Int32)), (0, .ref (g.2.1 5))]) hx hb dX3_open_1 rfl hl (by decide) rfl (fun ls hl => ?_)
  refine lv_iconst (v := 0) hx hb dX3_open_2 (by decide) ?_
  refine lv_istore_n (lv' := [(2, .int (0 : Int32)), (1, .int (0 : Int32)), (0, .ref (g.2.1 5))]) hx hb dX3_open_3 rfl hl (by decide) rfl (fun ls hl => ?_)
  exact w_X3_open_L4 C h hA (lv_sub hl [2, 1, 0] rfl)
end
set_option maxRecDepth 100000 in
theorem k_X3_open {l : Launch} {g : Gm} {fu : Nat} {σ : SS} {R : Int32} (hlt : l.stackTraces = false) (h : f_X3_open fu σ = some R) (sz : Nat) : Met l yX3_open wsX3_open rmX3_open (Pw g (wX g σ) [.ref (g.2.1 5)] sz) (Qi g (va_A (wX g σ) sz) (wX g σ) R) 0 0 (va_A (wX g σ) sz) :=
  ofM (own := RX3) hlt (by decide) rfl rfl (Nat.le_of_ble_eq_true rfl) (fun p e s m below meth c hsz C hA ls hl => w_X3_open_0 C h hA hl)
abbrev rmX3_overdue : Room := { frames := 1, cells := 0, slots := 0, locals := 21 }
theorem iX3_overdue_X3 : ∀ x ∈ wsX30, x ∈ wsX3_overdue := by decide +kernel
theorem nd_X3_overdue : yX3_overdue.cls = RX3 ∧ yX3_overdue.cls ≠ "java/lang/invoke/MethodHandle" ∧ yX3_overdue.cls ≠ "java/lang/invoke/VarHandle" ∧ (parseMethodDescriptor yX3_overdue.desc).map (fun d => d.parameters.length) = some 2 := by decide +kernel
def f_X3_overdue_55 (fu : Nat) (k5 : SS → (Int32 × Int32 × Int32 × Int32) → Option (Int32)) (σ : SS) (x1 : Int32) (x2 : Int32) (x3 : Int32) (x4 : Int32) : Option (Int32) :=
  k5 σ (x1, x2, x3, (x4 + 1))
def f_X3_overdue_5 (fu : Nat) (k5 : SS → (Int32 × Int32 × Int32 × Int32) → Option (Int32)) (σ : SS) (x1 : Int32) (x2 : Int32) (x3 : Int32) (x4 : Int32) : Option (Int32) :=
  (if (σ.1 15) ≤ x4 then some (-1) else if inB x4 400 then (if (σ.2.1 24 (x4).toNatClampNeg) ≤ 0 then f_X3_overdue_55 fu k5 σ x1 x2 x3 x4 else bnd1 (f_X3_isLoan fu σ x4) (fun r4 => (if r4 = 0 then (if x2 ≤ (σ.2.1 25 (x4).toNatClampNeg) then f_X3_overdue_55 fu k5 σ x1 x2 x3 x4 else (if x3 = x1 then some x4 else f_X3_overdue_55 fu k5 σ x1 x2 (x3 + 1) x4)) else f_X3_overdue_55 fu k5 σ x1 x2 x3 x4))) else none)
def f_X3_overdue_L5 (fu : Nat) : SS → (Int32 × Int32 × Int32 × Int32) → Option (Int32) := loopN (fun k5 σ x => f_X3_overdue_5 fu k5 σ x.1 x.2.1 x.2.2.1 x.2.2.2) fu
def f_X3_overdue (fu : Nat) (σ : SS) (x1 : Int32) (x2 : Int32) : Option (Int32) :=
  f_X3_overdue_L5 fu σ (x1, x2, (0 : Int32), (0 : Int32))
section
variable {p : Program} {l : Launch} {e : Env} {s : State} {m : MethodId} {args : Array Value} {below : List Frame} {meth : Method} {c : Code} {g : Gm} {A : Nat → Prop} {fu : Nat} {R : Int32}
set_option maxHeartbeats 4000000 in
set_option maxRecDepth 100000 in
theorem w_X3_overdue_55 {σ : SS} {x1 : Int32} {x2 : Int32} {x3 : Int32} {x4 : Int32} (C : Cx p l s m args meth c cX3_overdue 5 wsX3_overdue (some .int) RX3 g A) {k5 : SS → (Int32 × Int32 × Int32 × Int32) → Option (Int32)} (hk5 : ∀ (σ1 : SS) (x : Int32 × Int32 × Int32 × Int32), σ1 = σ → k5 σ1 x = some R → ∀ (H : Heap) (locs : List Loc) (ls : Array Slot), Aw g A s.heap (wX g σ) H locs → lv_has ls 5 [(0, .ref (g.2.1 5)), (1, .int x.1), (2, .int x.2.1), (3, .int x.2.2.1), (4, .int x.2.2.2)] → W p l e rmX3_overdue s m args below meth c H locs 0 0 (MQ below (Qi g A (wX g σ) R) args s 0 0 A) (F0 m 5 ls [])) (h : f_X3_overdue_55 fu k5 σ x1 x2 x3 x4 = some R) {H : Heap} {locs : List Loc} {ls : Array Slot} (hA : Aw g A s.heap (wX g σ) H locs) (hl : lv_has ls 5 [(0, .ref (g.2.1 5)), (1, .int x1), (2, .int x2), (3, .int x3), (4, .int x4)]) : W p l e rmX3_overdue s m args below meth c H locs 0 0 (MQ below (Qi g A (wX g σ) R) args s 0 0 A) (F0 m 55 ls []) := by
  have hx := C.1.1
  have hb := C.1.2.1
  unfold f_X3_overdue_55 at h
  refine lv_iinc (v := (x4 + 1)) (lv' := [(4, .int (x4 + 1)), (0, .ref (g.2.1 5)), (1, .int x1), (2, .int x2), (3, .int x3)]) hx hb dX3_overdue_55 hl (k := 4) rfl rfl (by decide) rfl (fun ls hl => ?_)
  refine lv_goto (tgt := 5) hx hb dX3_overdue_58 (by decide) ?_
  exact hk5 _ _ rfl h _ _ _ hA (lv_sub hl [1, 2, 3, 4, 0] rfl)
set_option maxHeartbeats 4000000 in
set_option maxRecDepth 100000 in
theorem w_X3_overdue_5 {σ : SS} {x1 : Int32} {x2 : Int32} {x3 : Int32} {x4 : Int32} (C : Cx p l s m args meth c cX3_overdue 5 wsX3_overdue (some .int) RX3 g A) {k5 : SS → (Int32 × Int32 × Int32 × Int32) → Option (Int32)} (hk5 : ∀ (σ1 : SS) (x : Int32 × Int32 × Int32 × Int32), σ1 = σ → k5 σ1 x = some R → ∀ (H : Heap) (locs : List Loc) (ls : Array Slot), Aw g A s.heap (wX g σ) H locs → lv_has ls 5 [(0, .ref (g.2.1 5)), (1, .int x.1), (2, .int x.2.1), (3, .int x.2.2.1), (4, .int x.2.2.2)] → W p l e rmX3_overdue s m args below meth c H locs 0 0 (MQ below (Qi g A (wX g σ) R) args s 0 0 A) (F0 m 5 ls [])) (h : f_X3_overdue_5 fu k5 σ x1 x2 x3 x4 = some R) {H : Heap} {locs : List Loc} {ls : Array Slot} (hA : Aw g A s.heap (wX g σ) H locs) (hl : lv_has ls 5 [(0, .ref (g.2.1 5)), (1, .int x1), (2, .int x2), (3, .int x3), (4, .int x4)]) : W p l e rmX3_overdue s m args below meth c H locs 0 0 (MQ below (Qi g A (wX g σ) R) args s 0 0 A) (F0 m 5 ls []) := by
  have hx := C.1.1
  have hb := C.1.2.1
  unfold f_X3_overdue_5 at h
  refine lv_iload hx hb dX3_overdue_5 (lv_at hl 4 rfl) ?_
  refine lv_aload_n hx hb dX3_overdue_7 rfl (lv_at hl 0 rfl) ?_
  refine Xg_X3_size (v := (σ.1 15)) C hA rfl iX3_overdue_X3 (by decide +kernel) dX3_overdue_8 ?_
  refine lv_icmp_ge (tgt := 61) hx hb dX3_overdue_11 (by decide) (fun c1 => ?_) (fun c1 => ?_)
  · replace h := (if_pos c1).symm.trans h
    refine lv_iconst (v := (-1)) hx hb dX3_overdue_61 (by decide) ?_
    obtain rfl := Option.some.inj h
    exact r_iret C hA dX3_overdue_62
  · replace h := (if_neg c1).symm.trans h
    refine lv_aload_n hx hb dX3_overdue_14 rfl (lv_at hl 0 rfl) ?_
    refine Xg_X3_left C hA iX3_overdue_X3 (by decide +kernel) dX3_overdue_15 ?_
    refine lv_iload hx hb dX3_overdue_18 (lv_at hl 4 rfl) ?_
    obtain ⟨g2, h⟩ := gd h
    refine Xld_24 (v := (σ.2.1 24 (x4).toNatClampNeg)) C hA rfl g2 dX3_overdue_20 ?_
    refine lv_if_le (tgt := 55) hx hb dX3_overdue_21 (by decide) (fun c3 => ?_) (fun c3 => ?_)
    · replace h := (if_pos c3).symm.trans h
      exact w_X3_overdue_55 C hk5 h hA (lv_sub hl [0, 1, 2, 3, 4] rfl)
    · replace h := (if_neg c3).symm.trans h
      refine lv_aload_n hx hb dX3_overdue_24 rfl (lv_at hl 0 rfl) ?_
      refine lv_iload hx hb dX3_overdue_25 (lv_at hl 4 rfl) ?_
      obtain ⟨r4, hc5, h⟩ := bd1 h
      refine r_callVi (r := r4) (w1 := wX g σ) (As := [.int x4]) (rest := []) C hA hl.1 (k_X3_isLoan C.2.2.2.2.2.2 hc5) (cwV 1 C.1.2.2.2.2 gX3_overdue_X3_isLoan rfl rfl rfl nd_X3_isLoan ⟨Nat.le_of_ble_eq_true rfl, Nat.le_of_ble_eq_true rfl⟩) 5 rfl rfl rfl rfl (Nat.le_of_ble_eq_true rfl) dX3_overdue_27 ⟨Nat.le_of_ble_eq_true rfl, Nat.le_of_ble_eq_true rfl⟩ (fun H locs hA => ?_)
      refine lv_if_ne (tgt := 55) hx hb dX3_overdue_30 (by decide) (fun c6 => ?_) (fun c6 => ?_)
      · replace h := (if_neg c6).symm.trans h
        exact w_X3_overdue_55 C hk5 h hA (lv_sub hl [0, 1, 2, 3, 4] rfl)
      · replace h := (if_pos c6).symm.trans h
        refine lv_aload_n hx hb dX3_overdue_33 rfl (lv_at hl 0 rfl) ?_
        refine Xg_X3_due C hA iX3_overdue_X3 (by decide +kernel) dX3_overdue_34 ?_
        refine lv_iload hx hb dX3_overdue_37 (lv_at hl 4 rfl) ?_
        refine Xld_25 (v := (σ.2.1 25 (x4).toNatClampNeg)) C hA rfl g2 dX3_overdue_39 ?_
        refine lv_iload_n hx hb dX3_overdue_40 rfl (lv_at hl 2 rfl) ?_
        refine lv_icmp_ge (tgt := 55) hx hb dX3_overdue_41 (by decide) (fun c7 => ?_) (fun c7 => ?_)
        · replace h := (if_pos c7).symm.trans h
          exact w_X3_overdue_55 C hk5 h hA (lv_sub hl [0, 1, 2, 3, 4] rfl)
        · replace h := (if_neg c7).symm.trans h
          refine lv_iload_n hx hb dX3_overdue_44 rfl (lv_at hl 3 rfl) ?_
          refine lv_iload_n hx hb dX3_overdue_45 rfl (lv_at hl 1 rfl) ?_
          refine lv_icmp_ne (tgt := 52) hx hb dX3_overdue_46 (by decide) (fun c8 => ?_) (fun c8 => ?_)
          · replace h := (if_neg c8).symm.trans h
            refine lv_iinc (v := (x3 + 1)) (lv' := [(3, .int (x3 + 1)), (0, .ref (g.2.1 5)), (1, .int x1), (2, .int x2), (4, .int x4)]) hx hb dX3_overdue_52 hl (k := 3) rfl rfl (by decide) rfl (fun ls hl => ?_)
            exact w_X3_overdue_55 C hk5 h hA (lv_sub hl [1, 2, 3, 0, 4] rfl)
          · replace h := (if_pos c8).symm.trans h
            refine lv_iload hx hb dX3_overdue_49 (lv_at hl 4 rfl) ?_
            obtain rfl := Option.some.inj h
            exact r_iret C hA dX3_overdue_51
set_option maxHeartbeats 4000000 in
theorem w_X3_overdue_L5 {σ : SS} {x : Int32 × Int32 × Int32 × Int32} (C : Cx p l s m args meth c cX3_overdue 5 wsX3_overdue (some .int) RX3 g A) (h : f_X3_overdue_L5 fu σ x = some R) {H : Heap} {locs : List Loc} {ls : Array Slot} (hA : Aw g A s.heap (wX g σ) H locs) (hl : lv_has ls 5 [(0, .ref (g.2.1 5)), (1, .int x.1), (2, .int x.2.1), (3, .int x.2.2.1), (4, .int x.2.2.2)]) : W p l e rmX3_overdue s m args below meth c H locs 0 0 (MQ below (Qi g A (wX g σ) R) args s 0 0 A) (F0 m 5 ls []) := by
  refine loopW (P := fun σ1 x => σ1 = σ → ∀ (H : Heap) (locs : List Loc) (ls : Array Slot), Aw g A s.heap (wX g σ) H locs → lv_has ls 5 [(0, .ref (g.2.1 5)), (1, .int x.1), (2, .int x.2.1), (3, .int x.2.2.1), (4, .int x.2.2.2)] → W p l e rmX3_overdue s m args below meth c H locs 0 0 (MQ below (Qi g A (wX g σ) R) args s 0 0 A) (F0 m 5 ls [])) (fun k hk σ1 x h9 e1 H locs ls hA9 hl9 => ?_) fu σ x h rfl H locs ls hA hl
  subst e1
  exact w_X3_overdue_5 C (fun σ2 x e2 h2 => hk σ2 x h2 e2) h9 hA9 hl9
set_option maxHeartbeats 4000000 in
set_option maxRecDepth 100000 in
theorem w_X3_overdue_0 {σ : SS} {x1 : Int32} {x2 : Int32} (C : Cx p l s m args meth c cX3_overdue 5 wsX3_overdue (some .int) RX3 g A) (h : f_X3_overdue fu σ x1 x2 = some R) {H : Heap} {locs : List Loc} {ls : Array Slot} (hA : Aw g A s.heap (wX g σ) H locs) (hl : lv_has ls 5 [(0, .ref (g.2.1 5)), (1, .int x1), (2, .int x2)]) : W p l e rmX3_overdue s m args below meth c H locs 0 0 (MQ below (Qi g A (wX g σ) R) args s 0 0 A) (F0 m 0 ls []) := by
  have hx := C.1.1
  have hb := C.1.2.1
  unfold f_X3_overdue at h
  refine lv_iconst (v := 0) hx hb dX3_overdue_0 (by decide) ?_
  refine lv_istore_n (lv' := [(3, .int (0 : Int32)), (0, .ref (g.2.1 5)), (1, .int x1), (2, .int x2)]) hx hb dX3_overdue_1 rfl hl (by decide) rfl (fun ls hl => ?_)
  refine lv_iconst (v := 0) hx hb dX3_overdue_2 (by decide) ?_
  refine lv_istore (lv' := [(4, .int (0 : Int32)), (3, .int (0 : Int32)), (0, .ref (g.2.1 5)), (1, .int x1), (2, .int x2)]) hx hb dX3_overdue_3 hl (by decide) rfl (fun ls hl => ?_)
  exact w_X3_overdue_L5 C h hA (lv_sub hl [2, 3, 4, 1, 0] rfl)
end
set_option maxRecDepth 100000 in
theorem k_X3_overdue {l : Launch} {g : Gm} {fu : Nat} {σ : SS} {x1 : Int32} {x2 : Int32} {R : Int32} (hlt : l.stackTraces = false) (h : f_X3_overdue fu σ x1 x2 = some R) (sz : Nat) : Met l yX3_overdue wsX3_overdue rmX3_overdue (Pw g (wX g σ) [.ref (g.2.1 5), .int x1, .int x2] sz) (Qi g (va_A (wX g σ) sz) (wX g σ) R) 0 0 (va_A (wX g σ) sz) :=
  ofM (own := RX3) hlt (by decide) rfl rfl (Nat.le_of_ble_eq_true rfl) (fun p e s m below meth c hsz C hA ls hl => w_X3_overdue_0 C h hA hl)
abbrev rmX3_isOpenBetween : Room := { frames := 0, cells := 0, slots := 0, locals := 0 }
theorem iX3_isOpenBetween_X3 : ∀ x ∈ wsX30, x ∈ wsX3_isOpenBetween := by decide +kernel
theorem nd_X3_isOpenBetween : yX3_isOpenBetween.cls = RX3 ∧ yX3_isOpenBetween.cls ≠ "java/lang/invoke/MethodHandle" ∧ yX3_isOpenBetween.cls ≠ "java/lang/invoke/VarHandle" ∧ (parseMethodDescriptor yX3_isOpenBetween.desc).map (fun d => d.parameters.length) = some 3 := by decide +kernel
def f_X3_isOpenBetween (fu : Nat) (σ : SS) (x1 : Int32) (x2 : Int32) (x3 : Int32) : Option (Int32) :=
  if inB x1 400 then (if (σ.2.1 24 (x1).toNatClampNeg) ≤ 0 then some (0 : Int32) else (if (σ.2.1 22 (x1).toNatClampNeg) = x2 then (if (σ.2.1 23 (x1).toNatClampNeg) = x3 then some (1 : Int32) else some (0 : Int32)) else some (0 : Int32))) else none
section
variable {p : Program} {l : Launch} {e : Env} {s : State} {m : MethodId} {args : Array Value} {below : List Frame} {meth : Method} {c : Code} {g : Gm} {A : Nat → Prop} {fu : Nat} {R : Int32}
set_option maxHeartbeats 4000000 in
set_option maxRecDepth 100000 in
theorem w_X3_isOpenBetween_0 {σ : SS} {x1 : Int32} {x2 : Int32} {x3 : Int32} (C : Cx p l s m args meth c cX3_isOpenBetween 4 wsX3_isOpenBetween (some .boolean) RX3 g A) (h : f_X3_isOpenBetween fu σ x1 x2 x3 = some R) {H : Heap} {locs : List Loc} {ls : Array Slot} (hA : Aw g A s.heap (wX g σ) H locs) (hl : lv_has ls 4 [(0, .ref (g.2.1 5)), (1, .int x1), (2, .int x2), (3, .int x3)]) : W p l e rmX3_isOpenBetween s m args below meth c H locs 0 0 (MQ below (Qi g A (wX g σ) R) args s 0 0 A) (F0 m 0 ls []) := by
  have hx := C.1.1
  have hb := C.1.2.1
  unfold f_X3_isOpenBetween at h
  refine lv_aload_n hx hb dX3_isOpenBetween_0 rfl (lv_at hl 0 rfl) ?_
  refine Xg_X3_left C hA iX3_isOpenBetween_X3 (by decide +kernel) dX3_isOpenBetween_1 ?_
  refine lv_iload_n hx hb dX3_isOpenBetween_4 rfl (lv_at hl 1 rfl) ?_
  obtain ⟨g1, h⟩ := gd h
  refine Xld_24 (v := (σ.2.1 24 (x1).toNatClampNeg)) C hA rfl g1 dX3_isOpenBetween_5 ?_
  refine lv_if_le (tgt := 33) hx hb dX3_isOpenBetween_6 (by decide) (fun c2 => ?_) (fun c2 => ?_)
  · replace h := (if_pos c2).symm.trans h
    refine lv_iconst (v := 0) hx hb dX3_isOpenBetween_33 (by decide) ?_
    obtain rfl := Option.some.inj h
    exact r_zret (v := (0 : Int32)) C hA (zb (Or.inl rfl)) dX3_isOpenBetween_34
  · replace h := (if_neg c2).symm.trans h
    refine lv_aload_n hx hb dX3_isOpenBetween_9 rfl (lv_at hl 0 rfl) ?_
    refine Xg_X3_debtor C hA iX3_isOpenBetween_X3 (by decide +kernel) dX3_isOpenBetween_10 ?_
    refine lv_iload_n hx hb dX3_isOpenBetween_13 rfl (lv_at hl 1 rfl) ?_
    refine Xld_22 (v := (σ.2.1 22 (x1).toNatClampNeg)) C hA rfl g1 dX3_isOpenBetween_14 ?_
    refine lv_iload_n hx hb dX3_isOpenBetween_15 rfl (lv_at hl 2 rfl) ?_
    refine lv_icmp_ne (tgt := 33) hx hb dX3_isOpenBetween_16 (by decide) (fun c3 => ?_) (fun c3 => ?_)
    · replace h := (if_neg c3).symm.trans h
      refine lv_iconst (v := 0) hx hb dX3_isOpenBetween_33 (by decide) ?_
      obtain rfl := Option.some.inj h
      exact r_zret (v := (0 : Int32)) C hA (zb (Or.inl rfl)) dX3_isOpenBetween_34
    · replace h := (if_pos c3).symm.trans h
      refine lv_aload_n hx hb dX3_isOpenBetween_19 rfl (lv_at hl 0 rfl) ?_
      refine Xg_X3_creditor C hA iX3_isOpenBetween_X3 (by decide +kernel) dX3_isOpenBetween_20 ?_
      refine lv_iload_n hx hb dX3_isOpenBetween_23 rfl (lv_at hl 1 rfl) ?_
      refine Xld_23 (v := (σ.2.1 23 (x1).toNatClampNeg)) C hA rfl g1 dX3_isOpenBetween_24 ?_
      refine lv_iload_n hx hb dX3_isOpenBetween_25 rfl (lv_at hl 3 rfl) ?_
      refine lv_icmp_ne (tgt := 33) hx hb dX3_isOpenBetween_26 (by decide) (fun c4 => ?_) (fun c4 => ?_)
      · replace h := (if_neg c4).symm.trans h
        refine lv_iconst (v := 0) hx hb dX3_isOpenBetween_33 (by decide) ?_
        obtain rfl := Option.some.inj h
        exact r_zret (v := (0 : Int32)) C hA (zb (Or.inl rfl)) dX3_isOpenBetween_34
      · replace h := (if_pos c4).symm.trans h
        refine lv_iconst (v := 1) hx hb dX3_isOpenBetween_29 (by decide) ?_
        refine lv_goto (tgt := 34) hx hb dX3_isOpenBetween_30 (by decide) ?_
        obtain rfl := Option.some.inj h
        exact r_zret (v := (1 : Int32)) C hA (zb (Or.inr rfl)) dX3_isOpenBetween_34
end
set_option maxRecDepth 100000 in
theorem k_X3_isOpenBetween {l : Launch} {g : Gm} {fu : Nat} {σ : SS} {x1 : Int32} {x2 : Int32} {x3 : Int32} {R : Int32} (hlt : l.stackTraces = false) (h : f_X3_isOpenBetween fu σ x1 x2 x3 = some R) (sz : Nat) : Met l yX3_isOpenBetween wsX3_isOpenBetween rmX3_isOpenBetween (Pw g (wX g σ) [.ref (g.2.1 5), .int x1, .int x2, .int x3] sz) (Qi g (va_A (wX g σ) sz) (wX g σ) R) 0 0 (va_A (wX g σ) sz) :=
  ofM (own := RX3) hlt (by decide) rfl rfl (Nat.le_of_ble_eq_true rfl) (fun p e s m below meth c hsz C hA ls hl => w_X3_isOpenBetween_0 C h hA hl)
abbrev rmX3_owed : Room := { frames := 1, cells := 0, slots := 0, locals := 23 }
theorem iX3_owed_X3 : ∀ x ∈ wsX30, x ∈ wsX3_owed := by decide +kernel
theorem nd_X3_owed : yX3_owed.cls = RX3 ∧ yX3_owed.cls ≠ "java/lang/invoke/MethodHandle" ∧ yX3_owed.cls ≠ "java/lang/invoke/VarHandle" ∧ (parseMethodDescriptor yX3_owed.desc).map (fun d => d.parameters.length) = some 2 := by decide +kernel
def f_X3_owed_36 (fu : Nat) (k5 : SS → (Int32 × Int32 × Int64 × Int32) → Option (Int64)) (σ : SS) (x1 : Int32) (x2 : Int32) (x3 : Int64) (x5 : Int32) : Option (Int64) :=
  k5 σ (x1, x2, x3, (x5 + 1))
def f_X3_owed_5 (fu : Nat) (k5 : SS → (Int32 × Int32 × Int64 × Int32) → Option (Int64)) (σ : SS) (x1 : Int32) (x2 : Int32) (x3 : Int64) (x5 : Int32) : Option (Int64) :=
  (if (σ.1 15) ≤ x5 then some x3 else bnd1 (f_X3_isOpenBetween fu σ x5 x1 x2) (fun r2 => (if r2 = 0 then f_X3_owed_36 fu k5 σ x1 x2 x3 x5 else if inB x5 400 then f_X3_owed_36 fu k5 σ x1 x2 (x3 + ((σ.2.1 24 (x5).toNatClampNeg)).toInt64) x5 else none)))
def f_X3_owed_L5 (fu : Nat) : SS → (Int32 × Int32 × Int64 × Int32) → Option (Int64) := loopN (fun k5 σ x => f_X3_owed_5 fu k5 σ x.1 x.2.1 x.2.2.1 x.2.2.2) fu
def f_X3_owed (fu : Nat) (σ : SS) (x1 : Int32) (x2 : Int32) : Option (Int64) :=
  f_X3_owed_L5 fu σ (x1, x2, (0 : Int64), (0 : Int32))
section
variable {p : Program} {l : Launch} {e : Env} {s : State} {m : MethodId} {args : Array Value} {below : List Frame} {meth : Method} {c : Code} {g : Gm} {A : Nat → Prop} {fu : Nat} {R : Int64}
set_option maxHeartbeats 4000000 in
set_option maxRecDepth 100000 in
theorem w_X3_owed_36 {σ : SS} {x1 : Int32} {x2 : Int32} {x3 : Int64} {x5 : Int32} (C : Cx p l s m args meth c cX3_owed 6 wsX3_owed (some .long) RX3 g A) {k5 : SS → (Int32 × Int32 × Int64 × Int32) → Option (Int64)} (hk5 : ∀ (σ1 : SS) (x : Int32 × Int32 × Int64 × Int32), σ1 = σ → k5 σ1 x = some R → ∀ (H : Heap) (locs : List Loc) (ls : Array Slot), Aw g A s.heap (wX g σ) H locs → lv_has ls 6 [(0, .ref (g.2.1 5)), (1, .int x.1), (2, .int x.2.1), (3, .long x.2.2.1), (5, .int x.2.2.2)] → W p l e rmX3_owed s m args below meth c H locs 0 0 (MQ below (Ql g A (wX g σ) R) args s 0 0 A) (F0 m 5 ls [])) (h : f_X3_owed_36 fu k5 σ x1 x2 x3 x5 = some R) {H : Heap} {locs : List Loc} {ls : Array Slot} (hA : Aw g A s.heap (wX g σ) H locs) (hl : lv_has ls 6 [(0, .ref (g.2.1 5)), (1, .int x1), (2, .int x2), (3, .long x3), (5, .int x5)]) : W p l e rmX3_owed s m args below meth c H locs 0 0 (MQ below (Ql g A (wX g σ) R) args s 0 0 A) (F0 m 36 ls []) := by
  have hx := C.1.1
  have hb := C.1.2.1
  unfold f_X3_owed_36 at h
  refine lv_iinc (v := (x5 + 1)) (lv' := [(5, .int (x5 + 1)), (0, .ref (g.2.1 5)), (1, .int x1), (2, .int x2), (3, .long x3)]) hx hb dX3_owed_36 hl (k := 4) rfl rfl (by decide) rfl (fun ls hl => ?_)
  refine lv_goto (tgt := 5) hx hb dX3_owed_39 (by decide) ?_
  exact hk5 _ _ rfl h _ _ _ hA (lv_sub hl [1, 2, 3, 4, 0] rfl)
set_option maxHeartbeats 4000000 in
set_option maxRecDepth 100000 in
theorem w_X3_owed_5 {σ : SS} {x1 : Int32} {x2 : Int32} {x3 : Int64} {x5 : Int32} (C : Cx p l s m args meth c cX3_owed 6 wsX3_owed (some .long) RX3 g A) {k5 : SS → (Int32 × Int32 × Int64 × Int32) → Option (Int64)} (hk5 : ∀ (σ1 : SS) (x : Int32 × Int32 × Int64 × Int32), σ1 = σ → k5 σ1 x = some R → ∀ (H : Heap) (locs : List Loc) (ls : Array Slot), Aw g A s.heap (wX g σ) H locs → lv_has ls 6 [(0, .ref (g.2.1 5)), (1, .int x.1), (2, .int x.2.1), (3, .long x.2.2.1), (5, .int x.2.2.2)] → W p l e rmX3_owed s m args below meth c H locs 0 0 (MQ below (Ql g A (wX g σ) R) args s 0 0 A) (F0 m 5 ls [])) (h : f_X3_owed_5 fu k5 σ x1 x2 x3 x5 = some R) {H : Heap} {locs : List Loc} {ls : Array Slot} (hA : Aw g A s.heap (wX g σ) H locs) (hl : lv_has ls 6 [(0, .ref (g.2.1 5)), (1, .int x1), (2, .int x2), (3, .long x3), (5, .int x5)]) : W p l e rmX3_owed s m args below meth c H locs 0 0 (MQ below (Ql g A (wX g σ) R) args s 0 0 A) (F0 m 5 ls []) := by
  have hx := C.1.1
  have hb := C.1.2.1
  unfold f_X3_owed_5 at h
  refine lv_iload hx hb dX3_owed_5 (lv_at hl 4 rfl) ?_
  refine lv_aload_n hx hb dX3_owed_7 rfl (lv_at hl 0 rfl) ?_
  refine Xg_X3_size (v := (σ.1 15)) C hA rfl iX3_owed_X3 (by decide +kernel) dX3_owed_8 ?_
  refine lv_icmp_ge (tgt := 42) hx hb dX3_owed_11 (by decide) (fun c1 => ?_) (fun c1 => ?_)
  · replace h := (if_pos c1).symm.trans h
    refine lv_lload_n hx hb dX3_owed_42 rfl (lv_at hl 3 rfl) ?_
    obtain rfl := Option.some.inj h
    exact r_lret C hA dX3_owed_43
  · replace h := (if_neg c1).symm.trans h
    refine lv_aload_n hx hb dX3_owed_14 rfl (lv_at hl 0 rfl) ?_
    refine lv_iload hx hb dX3_owed_15 (lv_at hl 4 rfl) ?_
    refine lv_iload_n hx hb dX3_owed_17 rfl (lv_at hl 1 rfl) ?_
    refine lv_iload_n hx hb dX3_owed_18 rfl (lv_at hl 2 rfl) ?_
    obtain ⟨r2, hc3, h⟩ := bd1 h
    refine r_callVi (r := r2) (w1 := wX g σ) (As := [.int x5, .int x1, .int x2]) (rest := []) C hA hl.1 (k_X3_isOpenBetween C.2.2.2.2.2.2 hc3) (cwV 3 C.1.2.2.2.2 gX3_owed_X3_isOpenBetween rfl rfl rfl nd_X3_isOpenBetween ⟨Nat.le_of_ble_eq_true rfl, Nat.le_of_ble_eq_true rfl⟩) 5 rfl rfl rfl rfl (Nat.le_of_ble_eq_true rfl) dX3_owed_19 ⟨Nat.le_of_ble_eq_true rfl, Nat.le_of_ble_eq_true rfl⟩ (fun H locs hA => ?_)
    refine lv_if_eq (tgt := 36) hx hb dX3_owed_22 (by decide) (fun c4 => ?_) (fun c4 => ?_)
    · replace h := (if_pos c4).symm.trans h
      exact w_X3_owed_36 C hk5 h hA (lv_sub hl [0, 1, 2, 3, 4] rfl)
    · replace h := (if_neg c4).symm.trans h
      refine lv_lload_n hx hb dX3_owed_25 rfl (lv_at hl 3 rfl) ?_
      refine lv_aload_n hx hb dX3_owed_26 rfl (lv_at hl 0 rfl) ?_
      refine Xg_X3_left C hA iX3_owed_X3 (by decide +kernel) dX3_owed_27 ?_
      refine lv_iload hx hb dX3_owed_30 (lv_at hl 4 rfl) ?_
      obtain ⟨g5, h⟩ := gd h
      refine Xld_24 (v := (σ.2.1 24 (x5).toNatClampNeg)) C hA rfl g5 dX3_owed_32 ?_
      refine lv_i2l hx hb dX3_owed_33 rfl ?_
      refine lv_ladd hx hb dX3_owed_34 ?_
      refine lv_lstore_n (lv' := [(3, .long (x3 + ((σ.2.1 24 (x5).toNatClampNeg)).toInt64)), (0, .ref (g.2.1 5)), (1, .int x1), (2, .int x2), (5, .int x5)]) hx hb dX3_owed_35 rfl hl (by decide) rfl (fun ls hl => ?_)
      exact w_X3_owed_36 C hk5 h hA (lv_sub hl [1, 2, 3, 0, 4] rfl)
set_option maxHeartbeats 4000000 in
theorem w_X3_owed_L5 {σ : SS} {x : Int32 × Int32 × Int64 × Int32} (C : Cx p l s m args meth c cX3_owed 6 wsX3_owed (some .long) RX3 g A) (h : f_X3_owed_L5 fu σ x = some R) {H : Heap} {locs : List Loc} {ls : Array Slot} (hA : Aw g A s.heap (wX g σ) H locs) (hl : lv_has ls 6 [(0, .ref (g.2.1 5)), (1, .int x.1), (2, .int x.2.1), (3, .long x.2.2.1), (5, .int x.2.2.2)]) : W p l e rmX3_owed s m args below meth c H locs 0 0 (MQ below (Ql g A (wX g σ) R) args s 0 0 A) (F0 m 5 ls []) := by
  refine loopW (P := fun σ1 x => σ1 = σ → ∀ (H : Heap) (locs : List Loc) (ls : Array Slot), Aw g A s.heap (wX g σ) H locs → lv_has ls 6 [(0, .ref (g.2.1 5)), (1, .int x.1), (2, .int x.2.1), (3, .long x.2.2.1), (5, .int x.2.2.2)] → W p l e rmX3_owed s m args below meth c H locs 0 0 (MQ below (Ql g A (wX g σ) R) args s 0 0 A) (F0 m 5 ls [])) (fun k hk σ1 x h9 e1 H locs ls hA9 hl9 => ?_) fu σ x h rfl H locs ls hA hl
  subst e1
  exact w_X3_owed_5 C (fun σ2 x e2 h2 => hk σ2 x h2 e2) h9 hA9 hl9
set_option maxHeartbeats 4000000 in
set_option maxRecDepth 100000 in
theorem w_X3_owed_0 {σ : SS} {x1 : Int32} {x2 : Int32} (C : Cx p l s m args meth c cX3_owed 6 wsX3_owed (some .long) RX3 g A) (h : f_X3_owed fu σ x1 x2 = some R) {H : Heap} {locs : List Loc} {ls : Array Slot} (hA : Aw g A s.heap (wX g σ) H locs) (hl : lv_has ls 6 [(0, .ref (g.2.1 5)), (1, .int x1), (2, .int x2)]) : W p l e rmX3_owed s m args below meth c H locs 0 0 (MQ below (Ql g A (wX g σ) R) args s 0 0 A) (F0 m 0 ls []) := by
  have hx := C.1.1
  have hb := C.1.2.1
  unfold f_X3_owed at h
  refine lv_lconst (v := 0) hx hb dX3_owed_0 (by decide) ?_
  refine lv_lstore_n (lv' := [(3, .long (0 : Int64)), (0, .ref (g.2.1 5)), (1, .int x1), (2, .int x2)]) hx hb dX3_owed_1 rfl hl (by decide) rfl (fun ls hl => ?_)
  refine lv_iconst (v := 0) hx hb dX3_owed_2 (by decide) ?_
  refine lv_istore (lv' := [(5, .int (0 : Int32)), (3, .long (0 : Int64)), (0, .ref (g.2.1 5)), (1, .int x1), (2, .int x2)]) hx hb dX3_owed_3 hl (by decide) rfl (fun ls hl => ?_)
  exact w_X3_owed_L5 C h hA (lv_sub hl [2, 3, 4, 1, 0] rfl)
end
set_option maxRecDepth 100000 in
theorem k_X3_owed {l : Launch} {g : Gm} {fu : Nat} {σ : SS} {x1 : Int32} {x2 : Int32} {R : Int64} (hlt : l.stackTraces = false) (h : f_X3_owed fu σ x1 x2 = some R) (sz : Nat) : Met l yX3_owed wsX3_owed rmX3_owed (Pw g (wX g σ) [.ref (g.2.1 5), .int x1, .int x2] sz) (Ql g (va_A (wX g σ) sz) (wX g σ) R) 0 0 (va_A (wX g σ) sz) :=
  ofM (own := RX3) hlt (by decide) rfl rfl (Nat.le_of_ble_eq_true rfl) (fun p e s m below meth c hsz C hA ls hl => w_X3_owed_0 C h hA hl)
abbrev rmX3_turn : Room := { frames := 1, cells := 0, slots := 0, locals := 21 }
theorem iX3_turn_X3 : ∀ x ∈ wsX30, x ∈ wsX3_turn := by decide +kernel
theorem nd_X3_turn : yX3_turn.cls = RX3 ∧ yX3_turn.cls ≠ "java/lang/invoke/MethodHandle" ∧ yX3_turn.cls ≠ "java/lang/invoke/VarHandle" ∧ (parseMethodDescriptor yX3_turn.desc).map (fun d => d.parameters.length) = some 1 := by decide +kernel
def f_X3_turn (fu : Nat) (σ : SS) (x1 : Int32) : Option (Int32) :=
  bnd1 (f_X3_isLoan fu σ x1) (fun r1 => (if r1 = 0 then if inB x1 400 then some (σ.2.1 25 (x1).toNatClampNeg) else none else some (1000000 : Int32)))
section
variable {p : Program} {l : Launch} {e : Env} {s : State} {m : MethodId} {args : Array Value} {below : List Frame} {meth : Method} {c : Code} {g : Gm} {A : Nat → Prop} {fu : Nat} {R : Int32}
set_option maxHeartbeats 4000000 in
set_option maxRecDepth 100000 in
theorem w_X3_turn_0 {σ : SS} {x1 : Int32} (C : Cx p l s m args meth c cX3_turn 2 wsX3_turn (some .int) RX3 g A) (h : f_X3_turn fu σ x1 = some R) {H : Heap} {locs : List Loc} {ls : Array Slot} (hA : Aw g A s.heap (wX g σ) H locs) (hl : lv_has ls 2 [(0, .ref (g.2.1 5)), (1, .int x1)]) : W p l e rmX3_turn s m args below meth c H locs 0 0 (MQ below (Qi g A (wX g σ) R) args s 0 0 A) (F0 m 0 ls []) := by
  have hx := C.1.1
  have hb := C.1.2.1
  unfold f_X3_turn at h
  refine lv_aload_n hx hb dX3_turn_0 rfl (lv_at hl 0 rfl) ?_
  refine lv_iload_n hx hb dX3_turn_1 rfl (lv_at hl 1 rfl) ?_
  obtain ⟨r1, hc2, h⟩ := bd1 h
  refine r_callVi (r := r1) (w1 := wX g σ) (As := [.int x1]) (rest := []) C hA hl.1 (k_X3_isLoan C.2.2.2.2.2.2 hc2) (cwV 1 C.1.2.2.2.2 gX3_turn_X3_isLoan rfl rfl rfl nd_X3_isLoan ⟨Nat.le_of_ble_eq_true rfl, Nat.le_of_ble_eq_true rfl⟩) 5 rfl rfl rfl rfl (Nat.le_of_ble_eq_true rfl) dX3_turn_2 ⟨Nat.le_of_ble_eq_true rfl, Nat.le_of_ble_eq_true rfl⟩ (fun H locs hA => ?_)
  refine lv_if_eq (tgt := 13) hx hb dX3_turn_5 (by decide) (fun c3 => ?_) (fun c3 => ?_)
  · replace h := (if_pos c3).symm.trans h
    refine lv_aload_n hx hb dX3_turn_13 rfl (lv_at hl 0 rfl) ?_
    refine Xg_X3_due C hA iX3_turn_X3 (by decide +kernel) dX3_turn_14 ?_
    refine lv_iload_n hx hb dX3_turn_17 rfl (lv_at hl 1 rfl) ?_
    obtain ⟨g4, h⟩ := gd h
    refine Xld_25 (v := (σ.2.1 25 (x1).toNatClampNeg)) C hA rfl g4 dX3_turn_18 ?_
    obtain rfl := Option.some.inj h
    exact r_iret C hA dX3_turn_19
  · replace h := (if_neg c3).symm.trans h
    refine lv_ldc (v := 1000000) hx hb C.1.2.2.2.1 (C.1.2.2.2.2 (.constant RX3 49 (1000000)) (by decide +kernel)) dX3_turn_8 ?_
    refine lv_goto (tgt := 19) hx hb dX3_turn_10 (by decide) ?_
    obtain rfl := Option.some.inj h
    exact r_iret C hA dX3_turn_19
end
set_option maxRecDepth 100000 in
theorem k_X3_turn {l : Launch} {g : Gm} {fu : Nat} {σ : SS} {x1 : Int32} {R : Int32} (hlt : l.stackTraces = false) (h : f_X3_turn fu σ x1 = some R) (sz : Nat) : Met l yX3_turn wsX3_turn rmX3_turn (Pw g (wX g σ) [.ref (g.2.1 5), .int x1] sz) (Qi g (va_A (wX g σ) sz) (wX g σ) R) 0 0 (va_A (wX g σ) sz) :=
  ofM (own := RX3) hlt (by decide) rfl rfl (Nat.le_of_ble_eq_true rfl) (fun p e s m below meth c hsz C hA ls hl => w_X3_turn_0 C h hA hl)
abbrev rmX3_firstToAnswer : Room := { frames := 2, cells := 0, slots := 0, locals := 42 }
theorem iX3_firstToAnswer_X3 : ∀ x ∈ wsX30, x ∈ wsX3_firstToAnswer := by decide +kernel
theorem nd_X3_firstToAnswer : yX3_firstToAnswer.cls = RX3 ∧ yX3_firstToAnswer.cls ≠ "java/lang/invoke/MethodHandle" ∧ yX3_firstToAnswer.cls ≠ "java/lang/invoke/VarHandle" ∧ (parseMethodDescriptor yX3_firstToAnswer.desc).map (fun d => d.parameters.length) = some 2 := by decide +kernel
def f_X3_firstToAnswer_47 (fu : Nat) (k5 : SS → (Int32 × Int32 × Int32 × Int32) → Option (Int32)) (σ : SS) (x1 : Int32) (x2 : Int32) (x3 : Int32) (x4 : Int32) : Option (Int32) :=
  k5 σ (x1, x2, x3, (x4 + 1))
def f_X3_firstToAnswer_44 (fu : Nat) (k5 : SS → (Int32 × Int32 × Int32 × Int32) → Option (Int32)) (σ : SS) (x1 : Int32) (x2 : Int32) (x4 : Int32) : Option (Int32) :=
  f_X3_firstToAnswer_47 fu k5 σ x1 x2 x4 x4
def f_X3_firstToAnswer_5 (fu : Nat) (k5 : SS → (Int32 × Int32 × Int32 × Int32) → Option (Int32)) (σ : SS) (x1 : Int32) (x2 : Int32) (x3 : Int32) (x4 : Int32) : Option (Int32) :=
  (if (σ.1 15) ≤ x4 then some x3 else bnd1 (f_X3_isOpenBetween fu σ x4 x1 x2) (fun r2 => (if r2 = 0 then f_X3_firstToAnswer_47 fu k5 σ x1 x2 x3 x4 else (if x3 = (-1) then f_X3_firstToAnswer_44 fu k5 σ x1 x2 x4 else bnd1 (f_X3_turn fu σ x4) (fun r6 => bnd1 (f_X3_turn fu σ x3) (fun r8 => (if r8 ≤ r6 then f_X3_firstToAnswer_47 fu k5 σ x1 x2 x3 x4 else f_X3_firstToAnswer_44 fu k5 σ x1 x2 x4)))))))
def f_X3_firstToAnswer_L5 (fu : Nat) : SS → (Int32 × Int32 × Int32 × Int32) → Option (Int32) := loopN (fun k5 σ x => f_X3_firstToAnswer_5 fu k5 σ x.1 x.2.1 x.2.2.1 x.2.2.2) fu
def f_X3_firstToAnswer (fu : Nat) (σ : SS) (x1 : Int32) (x2 : Int32) : Option (Int32) :=
  f_X3_firstToAnswer_L5 fu σ (x1, x2, (-1), (0 : Int32))
section
variable {p : Program} {l : Launch} {e : Env} {s : State} {m : MethodId} {args : Array Value} {below : List Frame} {meth : Method} {c : Code} {g : Gm} {A : Nat → Prop} {fu : Nat} {R : Int32}
set_option maxHeartbeats 4000000 in
set_option maxRecDepth 100000 in
theorem w_X3_firstToAnswer_47 {σ : SS} {x1 : Int32} {x2 : Int32} {x3 : Int32} {x4 : Int32} (C : Cx p l s m args meth c cX3_firstToAnswer 5 wsX3_firstToAnswer (some .int) RX3 g A) {k5 : SS → (Int32 × Int32 × Int32 × Int32) → Option (Int32)} (hk5 : ∀ (σ1 : SS) (x : Int32 × Int32 × Int32 × Int32), σ1 = σ → k5 σ1 x = some R → ∀ (H : Heap) (locs : List Loc) (ls : Array Slot), Aw g A s.heap (wX g σ) H locs → lv_has ls 5 [(0, .ref (g.2.1 5)), (1, .int x.1), (2, .int x.2.1), (3, .int x.2.2.1), (4, .int x.2.2.2)] → W p l e rmX3_firstToAnswer s m args below meth c H locs 0 0 (MQ below (Qi g A (wX g σ) R) args s 0 0 A) (F0 m 5 ls [])) (h : f_X3_firstToAnswer_47 fu k5 σ x1 x2 x3 x4 = some R) {H : Heap} {locs : List Loc} {ls : Array Slot} (hA : Aw g A s.heap (wX g σ) H locs) (hl : lv_has ls 5 [(0, .ref (g.2.1 5)), (1, .int x1), (2, .int x2), (3, .int x3), (4, .int x4)]) : W p l e rmX3_firstToAnswer s m args below meth c H locs 0 0 (MQ below (Qi g A (wX g σ) R) args s 0 0 A) (F0 m 47 ls []) := by
  have hx := C.1.1
  have hb := C.1.2.1
  unfold f_X3_firstToAnswer_47 at h
  refine lv_iinc (v := (x4 + 1)) (lv' := [(4, .int (x4 + 1)), (0, .ref (g.2.1 5)), (1, .int x1), (2, .int x2), (3, .int x3)]) hx hb dX3_firstToAnswer_47 hl (k := 4) rfl rfl (by decide) rfl (fun ls hl => ?_)
  refine lv_goto (tgt := 5) hx hb dX3_firstToAnswer_50 (by decide) ?_
  exact hk5 _ _ rfl h _ _ _ hA (lv_sub hl [1, 2, 3, 4, 0] rfl)
set_option maxHeartbeats 4000000 in
set_option maxRecDepth 100000 in
theorem w_X3_firstToAnswer_44 {σ : SS} {x1 : Int32} {x2 : Int32} {x4 : Int32} (C : Cx p l s m args meth c cX3_firstToAnswer 5 wsX3_firstToAnswer (some .int) RX3 g A) {k5 : SS → (Int32 × Int32 × Int32 × Int32) → Option (Int32)} (hk5 : ∀ (σ1 : SS) (x : Int32 × Int32 × Int32 × Int32), σ1 = σ → k5 σ1 x = some R → ∀ (H : Heap) (locs : List Loc) (ls : Array Slot), Aw g A s.heap (wX g σ) H locs → lv_has ls 5 [(0, .ref (g.2.1 5)), (1, .int x.1), (2, .int x.2.1), (3, .int x.2.2.1), (4, .int x.2.2.2)] → W p l e rmX3_firstToAnswer s m args below meth c H locs 0 0 (MQ below (Qi g A (wX g σ) R) args s 0 0 A) (F0 m 5 ls [])) (h : f_X3_firstToAnswer_44 fu k5 σ x1 x2 x4 = some R) {H : Heap} {locs : List Loc} {ls : Array Slot} (hA : Aw g A s.heap (wX g σ) H locs) (hl : lv_has ls 5 [(0, .ref (g.2.1 5)), (1, .int x1), (2, .int x2), (4, .int x4)]) : W p l e rmX3_firstToAnswer s m args below meth c H locs 0 0 (MQ below (Qi g A (wX g σ) R) args s 0 0 A) (F0 m 44 ls []) := by
  have hx := C.1.1
  have hb := C.1.2.1
  unfold f_X3_firstToAnswer_44 at h
  refine lv_iload hx hb dX3_firstToAnswer_44 (lv_at hl 3 rfl) ?_
  refine lv_istore_n (lv' := [(3, .int x4), (0, .ref (g.2.1 5)), (1, .int x1), (2, .int x2), (4, .int x4)]) hx hb dX3_firstToAnswer_46 rfl hl (by decide) rfl (fun ls hl => ?_)
  exact w_X3_firstToAnswer_47 C hk5 h hA (lv_sub hl [1, 2, 3, 0, 4] rfl)
set_option maxHeartbeats 4000000 in
set_option maxRecDepth 100000 in
theorem w_X3_firstToAnswer_5 {σ : SS} {x1 : Int32} {x2 : Int32} {x3 : Int32} {x4 : Int32} (C : Cx p l s m args meth c cX3_firstToAnswer 5 wsX3_firstToAnswer (some .int) RX3 g A) {k5 : SS → (Int32 × Int32 × Int32 × Int32) → Option (Int32)} (hk5 : ∀ (σ1 : SS) (x : Int32 × Int32 × Int32 × Int32), σ1 = σ → k5 σ1 x = some R → ∀ (H : Heap) (locs : List Loc) (ls : Array Slot), Aw g A s.heap (wX g σ) H locs → lv_has ls 5 [(0, .ref (g.2.1 5)), (1, .int x.1), (2, .int x.2.1), (3, .int x.2.2.1), (4, .int x.2.2.2)] → W p l e rmX3_firstToAnswer s m args below meth c H locs 0 0 (MQ below (Qi g A (wX g σ) R) args s 0 0 A) (F0 m 5 ls [])) (h : f_X3_firstToAnswer_5 fu k5 σ x1 x2 x3 x4 = some R) {H : Heap} {locs : List Loc} {ls : Array Slot} (hA : Aw g A s.heap (wX g σ) H locs) (hl : lv_has ls 5 [(0, .ref (g.2.1 5)), (1, .int x1), (2, .int x2), (3, .int x3), (4, .int x4)]) : W p l e rmX3_firstToAnswer s m args below meth c H locs 0 0 (MQ below (Qi g A (wX g σ) R) args s 0 0 A) (F0 m 5 ls []) := by
  have hx := C.1.1
  have hb := C.1.2.1
  unfold f_X3_firstToAnswer_5 at h
  refine lv_iload hx hb dX3_firstToAnswer_5 (lv_at hl 4 rfl) ?_
  refine lv_aload_n hx hb dX3_firstToAnswer_7 rfl (lv_at hl 0 rfl) ?_
  refine Xg_X3_size (v := (σ.1 15)) C hA rfl iX3_firstToAnswer_X3 (by decide +kernel) dX3_firstToAnswer_8 ?_
  refine lv_icmp_ge (tgt := 53) hx hb dX3_firstToAnswer_11 (by decide) (fun c1 => ?_) (fun c1 => ?_)
  · replace h := (if_pos c1).symm.trans h
    refine lv_iload_n hx hb dX3_firstToAnswer_53 rfl (lv_at hl 3 rfl) ?_
    obtain rfl := Option.some.inj h
    exact r_iret C hA dX3_firstToAnswer_54
  · replace h := (if_neg c1).symm.trans h
    refine lv_aload_n hx hb dX3_firstToAnswer_14 rfl (lv_at hl 0 rfl) ?_
    refine lv_iload hx hb dX3_firstToAnswer_15 (lv_at hl 4 rfl) ?_
    refine lv_iload_n hx hb dX3_firstToAnswer_17 rfl (lv_at hl 1 rfl) ?_
    refine lv_iload_n hx hb dX3_firstToAnswer_18 rfl (lv_at hl 2 rfl) ?_
    obtain ⟨r2, hc3, h⟩ := bd1 h
    refine r_callVi (r := r2) (w1 := wX g σ) (As := [.int x4, .int x1, .int x2]) (rest := []) C hA hl.1 (k_X3_isOpenBetween C.2.2.2.2.2.2 hc3) (cwV 3 C.1.2.2.2.2 gX3_firstToAnswer_X3_isOpenBetween rfl rfl rfl nd_X3_isOpenBetween ⟨Nat.le_of_ble_eq_true rfl, Nat.le_of_ble_eq_true rfl⟩) 5 rfl rfl rfl rfl (Nat.le_of_ble_eq_true rfl) dX3_firstToAnswer_19 ⟨Nat.le_of_ble_eq_true rfl, Nat.le_of_ble_eq_true rfl⟩ (fun H locs hA => ?_)
    refine lv_if_eq (tgt := 47) hx hb dX3_firstToAnswer_22 (by decide) (fun c4 => ?_) (fun c4 => ?_)
    · replace h := (if_pos c4).symm.trans h
      exact w_X3_firstToAnswer_47 C hk5 h hA (lv_sub hl [0, 1, 2, 3, 4] rfl)
    · replace h := (if_neg c4).symm.trans h
      refine lv_iload_n hx hb dX3_firstToAnswer_25 rfl (lv_at hl 3 rfl) ?_
      refine lv_iconst (v := (-1)) hx hb dX3_firstToAnswer_26 (by decide) ?_
      refine lv_icmp_eq (tgt := 44) hx hb dX3_firstToAnswer_27 (by decide) (fun c5 => ?_) (fun c5 => ?_)
      · replace h := (if_pos c5).symm.trans h
        exact w_X3_firstToAnswer_44 C hk5 h hA (lv_sub hl [0, 1, 2, 4] rfl)
      · replace h := (if_neg c5).symm.trans h
        refine lv_aload_n hx hb dX3_firstToAnswer_30 rfl (lv_at hl 0 rfl) ?_
        refine lv_iload hx hb dX3_firstToAnswer_31 (lv_at hl 4 rfl) ?_
        obtain ⟨r6, hc7, h⟩ := bd1 h
        refine r_callVi (r := r6) (w1 := wX g σ) (As := [.int x4]) (rest := []) C hA hl.1 (k_X3_turn C.2.2.2.2.2.2 hc7) (cwV 1 C.1.2.2.2.2 gX3_firstToAnswer_X3_turn rfl rfl rfl nd_X3_turn ⟨Nat.le_of_ble_eq_true rfl, Nat.le_of_ble_eq_true rfl⟩) 5 rfl rfl rfl rfl (Nat.le_of_ble_eq_true rfl) dX3_firstToAnswer_33 ⟨Nat.le_of_ble_eq_true rfl, Nat.le_of_ble_eq_true rfl⟩ (fun H locs hA => ?_)
        refine lv_aload_n hx hb dX3_firstToAnswer_36 rfl (lv_at hl 0 rfl) ?_
        refine lv_iload_n hx hb dX3_firstToAnswer_37 rfl (lv_at hl 3 rfl) ?_
        obtain ⟨r8, hc9, h⟩ := bd1 h
        refine r_callVi (r := r8) (w1 := wX g σ) (As := [.int x3]) (rest := [.int r6]) C hA hl.1 (k_X3_turn C.2.2.2.2.2.2 hc9) (cwV 1 C.1.2.2.2.2 gX3_firstToAnswer_X3_turn rfl rfl rfl nd_X3_turn ⟨Nat.le_of_ble_eq_true rfl, Nat.le_of_ble_eq_true rfl⟩) 5 rfl rfl rfl rfl (Nat.le_of_ble_eq_true rfl) dX3_firstToAnswer_38 ⟨Nat.le_of_ble_eq_true rfl, Nat.le_of_ble_eq_true rfl⟩ (fun H locs hA => ?_)
        refine lv_icmp_ge (tgt := 47) hx hb dX3_firstToAnswer_41 (by decide) (fun c10 => ?_) (fun c10 => ?_)
        · replace h := (if_pos c10).symm.trans h
          exact w_X3_firstToAnswer_47 C hk5 h hA (lv_sub hl [0, 1, 2, 3, 4] rfl)
        · replace h := (if_neg c10).symm.trans h
          exact w_X3_firstToAnswer_44 C hk5 h hA (lv_sub hl [0, 1, 2, 4] rfl)
set_option maxHeartbeats 4000000 in
theorem w_X3_firstToAnswer_L5 {σ : SS} {x : Int32 × Int32 × Int32 × Int32} (C : Cx p l s m args meth c cX3_firstToAnswer 5 wsX3_firstToAnswer (some .int) RX3 g A) (h : f_X3_firstToAnswer_L5 fu σ x = some R) {H : Heap} {locs : List Loc} {ls : Array Slot} (hA : Aw g A s.heap (wX g σ) H locs) (hl : lv_has ls 5 [(0, .ref (g.2.1 5)), (1, .int x.1), (2, .int x.2.1), (3, .int x.2.2.1), (4, .int x.2.2.2)]) : W p l e rmX3_firstToAnswer s m args below meth c H locs 0 0 (MQ below (Qi g A (wX g σ) R) args s 0 0 A) (F0 m 5 ls []) := by
  refine loopW (P := fun σ1 x => σ1 = σ → ∀ (H : Heap) (locs : List Loc) (ls : Array Slot), Aw g A s.heap (wX g σ) H locs → lv_has ls 5 [(0, .ref (g.2.1 5)), (1, .int x.1), (2, .int x.2.1), (3, .int x.2.2.1), (4, .int x.2.2.2)] → W p l e rmX3_firstToAnswer s m args below meth c H locs 0 0 (MQ below (Qi g A (wX g σ) R) args s 0 0 A) (F0 m 5 ls [])) (fun k hk σ1 x h9 e1 H locs ls hA9 hl9 => ?_) fu σ x h rfl H locs ls hA hl
  subst e1
  exact w_X3_firstToAnswer_5 C (fun σ2 x e2 h2 => hk σ2 x h2 e2) h9 hA9 hl9
set_option maxHeartbeats 4000000 in
set_option maxRecDepth 100000 in
theorem w_X3_firstToAnswer_0 {σ : SS} {x1 : Int32} {x2 : Int32} (C : Cx p l s m args meth c cX3_firstToAnswer 5 wsX3_firstToAnswer (some .int) RX3 g A) (h : f_X3_firstToAnswer fu σ x1 x2 = some R) {H : Heap} {locs : List Loc} {ls : Array Slot} (hA : Aw g A s.heap (wX g σ) H locs) (hl : lv_has ls 5 [(0, .ref (g.2.1 5)), (1, .int x1), (2, .int x2)]) : W p l e rmX3_firstToAnswer s m args below meth c H locs 0 0 (MQ below (Qi g A (wX g σ) R) args s 0 0 A) (F0 m 0 ls []) := by
  have hx := C.1.1
  have hb := C.1.2.1
  unfold f_X3_firstToAnswer at h
  refine lv_iconst (v := (-1)) hx hb dX3_firstToAnswer_0 (by decide) ?_
  refine lv_istore_n (lv' := [(3, .int (-1)), (0, .ref (g.2.1 5)), (1, .int x1), (2, .int x2)]) hx hb dX3_firstToAnswer_1 rfl hl (by decide) rfl (fun ls hl => ?_)
  refine lv_iconst (v := 0) hx hb dX3_firstToAnswer_2 (by decide) ?_
  refine lv_istore (lv' := [(4, .int (0 : Int32)), (3, .int (-1)), (0, .ref (g.2.1 5)), (1, .int x1), (2, .int x2)]) hx hb dX3_firstToAnswer_3 hl (by decide) rfl (fun ls hl => ?_)
  exact w_X3_firstToAnswer_L5 C h hA (lv_sub hl [2, 3, 4, 1, 0] rfl)
end
set_option maxRecDepth 100000 in
theorem k_X3_firstToAnswer {l : Launch} {g : Gm} {fu : Nat} {σ : SS} {x1 : Int32} {x2 : Int32} {R : Int32} (hlt : l.stackTraces = false) (h : f_X3_firstToAnswer fu σ x1 x2 = some R) (sz : Nat) : Met l yX3_firstToAnswer wsX3_firstToAnswer rmX3_firstToAnswer (Pw g (wX g σ) [.ref (g.2.1 5), .int x1, .int x2] sz) (Qi g (va_A (wX g σ) sz) (wX g σ) R) 0 0 (va_A (wX g σ) sz) :=
  ofM (own := RX3) hlt (by decide) rfl rfl (Nat.le_of_ble_eq_true rfl) (fun p e s m below meth c hsz C hA ls hl => w_X3_firstToAnswer_0 C h hA hl)
abbrev rmX3_answer : Room := { frames := 3, cells := 0, slots := 0, locals := 66 }
theorem iX3_answer_X3 : ∀ x ∈ wsX30, x ∈ wsX3_answer := by decide +kernel
theorem nd_X3_answer : yX3_answer.cls = RX3 ∧ yX3_answer.cls ≠ "java/lang/invoke/MethodHandle" ∧ yX3_answer.cls ≠ "java/lang/invoke/VarHandle" ∧ (parseMethodDescriptor yX3_answer.desc).map (fun d => d.parameters.length) = some 3 := by decide +kernel
def f_X3_answer_6 (fu : Nat) (k6 : SS → (Int32 × Int32 × Int32 × Int32 × Int32) → Option (Int32 × SS)) (σ : SS) (x1 : Int32) (x2 : Int32) (x3 : Int32) (x4 : Int32) (x5 : Int32) : Option (Int32 × SS) :=
  (if (σ.1 15) ≤ x5 then some ((x3 - x4), σ) else (if x4 ≤ 0 then some ((x3 - x4), σ) else bnd1 (f_X3_firstToAnswer fu σ x1 x2) (fun r3 => (if r3 = (-1) then some ((x3 - x4), σ) else if inB r3 400 then k6 (sA σ 24 (r3).toNatClampNeg ((σ.2.1 24 (r3).toNatClampNeg) - (if (σ.2.1 24 (r3).toNatClampNeg) < x4 then (σ.2.1 24 (r3).toNatClampNeg) else x4))) (x1, x2, x3, (x4 - (if (σ.2.1 24 (r3).toNatClampNeg) < x4 then (σ.2.1 24 (r3).toNatClampNeg) else x4)), (x5 + 1)) else none))))
def f_X3_answer_L6 (fu : Nat) : SS → (Int32 × Int32 × Int32 × Int32 × Int32) → Option (Int32 × SS) := loopN (fun k6 σ x => f_X3_answer_6 fu k6 σ x.1 x.2.1 x.2.2.1 x.2.2.2.1 x.2.2.2.2) fu
def f_X3_answer (fu : Nat) (σ : SS) (x1 : Int32) (x2 : Int32) (x3 : Int32) : Option (Int32 × SS) :=
  f_X3_answer_L6 fu σ (x1, x2, x3, x3, (0 : Int32))
section
variable {p : Program} {l : Launch} {e : Env} {s : State} {m : MethodId} {args : Array Value} {below : List Frame} {meth : Method} {c : Code} {g : Gm} {A : Nat → Prop} {fu : Nat} {R : Int32 × SS}
set_option maxHeartbeats 4000000 in
set_option maxRecDepth 100000 in
theorem w_X3_answer_6 {σ : SS} {x1 : Int32} {x2 : Int32} {x3 : Int32} {x4 : Int32} {x5 : Int32} (C : Cx p l s m args meth c cX3_answer 8 wsX3_answer (some .int) RX3 g A) {k6 : SS → (Int32 × Int32 × Int32 × Int32 × Int32) → Option (Int32 × SS)} (hk6 : ∀ (σ : SS) (x : Int32 × Int32 × Int32 × Int32 × Int32), k6 σ x = some R → ∀ (H : Heap) (locs : List Loc) (ls : Array Slot), Aw g A s.heap (wX g σ) H locs → lv_has ls 8 [(0, .ref (g.2.1 5)), (1, .int x.1), (2, .int x.2.1), (3, .int x.2.2.1), (4, .int x.2.2.2.1), (5, .int x.2.2.2.2)] → W p l e rmX3_answer s m args below meth c H locs 0 0 (MQ below (Qi g A (wX g R.2) R.1) args s 0 0 A) (F0 m 6 ls [])) (h : f_X3_answer_6 fu k6 σ x1 x2 x3 x4 x5 = some R) {H : Heap} {locs : List Loc} {ls : Array Slot} (hA : Aw g A s.heap (wX g σ) H locs) (hl : lv_has ls 8 [(0, .ref (g.2.1 5)), (1, .int x1), (2, .int x2), (3, .int x3), (4, .int x4), (5, .int x5)]) : W p l e rmX3_answer s m args below meth c H locs 0 0 (MQ below (Qi g A (wX g R.2) R.1) args s 0 0 A) (F0 m 6 ls []) := by
  have hx := C.1.1
  have hb := C.1.2.1
  unfold f_X3_answer_6 at h
  refine lv_iload hx hb dX3_answer_6 (lv_at hl 5 rfl) ?_
  refine lv_aload_n hx hb dX3_answer_8 rfl (lv_at hl 0 rfl) ?_
  refine Xg_X3_size (v := (σ.1 15)) C hA rfl iX3_answer_X3 (by decide +kernel) dX3_answer_9 ?_
  refine lv_icmp_ge (tgt := 76) hx hb dX3_answer_12 (by decide) (fun c1 => ?_) (fun c1 => ?_)
  · replace h := (if_pos c1).symm.trans h
    refine lv_iload_n hx hb dX3_answer_76 rfl (lv_at hl 3 rfl) ?_
    refine lv_iload hx hb dX3_answer_77 (lv_at hl 4 rfl) ?_
    refine lv_isub hx hb dX3_answer_79 ?_
    obtain rfl := Option.some.inj h
    exact r_iret C hA dX3_answer_80
  · replace h := (if_neg c1).symm.trans h
    refine lv_iload hx hb dX3_answer_15 (lv_at hl 4 rfl) ?_
    refine lv_if_le (tgt := 76) hx hb dX3_answer_17 (by decide) (fun c2 => ?_) (fun c2 => ?_)
    · replace h := (if_pos c2).symm.trans h
      refine lv_iload_n hx hb dX3_answer_76 rfl (lv_at hl 3 rfl) ?_
      refine lv_iload hx hb dX3_answer_77 (lv_at hl 4 rfl) ?_
      refine lv_isub hx hb dX3_answer_79 ?_
      obtain rfl := Option.some.inj h
      exact r_iret C hA dX3_answer_80
    · replace h := (if_neg c2).symm.trans h
      refine lv_aload_n hx hb dX3_answer_20 rfl (lv_at hl 0 rfl) ?_
      refine lv_iload_n hx hb dX3_answer_21 rfl (lv_at hl 1 rfl) ?_
      refine lv_iload_n hx hb dX3_answer_22 rfl (lv_at hl 2 rfl) ?_
      obtain ⟨r3, hc4, h⟩ := bd1 h
      refine r_callVi (r := r3) (w1 := wX g σ) (As := [.int x1, .int x2]) (rest := []) C hA hl.1 (k_X3_firstToAnswer C.2.2.2.2.2.2 hc4) (cwV 2 C.1.2.2.2.2 gX3_answer_X3_firstToAnswer rfl rfl rfl nd_X3_firstToAnswer ⟨Nat.le_of_ble_eq_true rfl, Nat.le_of_ble_eq_true rfl⟩) 5 rfl rfl rfl rfl (Nat.le_of_ble_eq_true rfl) dX3_answer_23 ⟨Nat.le_of_ble_eq_true rfl, Nat.le_of_ble_eq_true rfl⟩ (fun H locs hA => ?_)
      refine lv_istore (lv' := [(6, .int r3), (0, .ref (g.2.1 5)), (1, .int x1), (2, .int x2), (3, .int x3), (4, .int x4), (5, .int x5)]) hx hb dX3_answer_26 hl (by decide) rfl (fun ls hl => ?_)
      refine lv_iload hx hb dX3_answer_28 (lv_at hl 0 rfl) ?_
      refine lv_iconst (v := (-1)) hx hb dX3_answer_30 (by decide) ?_
      refine lv_icmp_ne (tgt := 37) hx hb dX3_answer_31 (by decide) (fun c5 => ?_) (fun c5 => ?_)
      · replace h := (if_neg c5).symm.trans h
        refine lv_iload hx hb dX3_answer_37 (lv_at hl 5 rfl) ?_
        refine lv_aload_n hx hb dX3_answer_39 rfl (lv_at hl 1 rfl) ?_
        refine Xg_X3_left C hA iX3_answer_X3 (by decide +kernel) dX3_answer_40 ?_
        refine lv_iload hx hb dX3_answer_43 (lv_at hl 0 rfl) ?_
        obtain ⟨g6, h⟩ := gd h
        refine Xld_24 (v := (σ.2.1 24 (r3).toNatClampNeg)) C hA rfl g6 dX3_answer_45 ?_
        refine va_mmin (rest := []) hx hb (C.1.2.2.1.trans hl.1.symm) C.1.2.2.2.1 (C.1.2.2.2.2 (.methodLink RX3 40 Lib.Math.min.name) (by decide +kernel)) (C.1.2.2.2.2 (.static Lib.Math.min.name) (by decide +kernel)) (C.1.2.2.2.2 (.initialized "java/lang/Math") (by decide +kernel)) (C.1.2.2.2.2 (.code Lib.Math.min.name Lib.Math.min.code 2 (some .int)) (by decide +kernel)) (Nat.le_of_ble_eq_true rfl) (Nat.le_of_ble_eq_true rfl) (Nat.le_of_ble_eq_true rfl) (Nat.le_of_ble_eq_true rfl) dX3_answer_46 ?_
        refine lv_istore (lv' := [(7, .int (if (σ.2.1 24 (r3).toNatClampNeg) < x4 then (σ.2.1 24 (r3).toNatClampNeg) else x4)), (6, .int r3), (0, .ref (g.2.1 5)), (1, .int x1), (2, .int x2), (3, .int x3), (4, .int x4), (5, .int x5)]) hx hb dX3_answer_49 hl (by decide) rfl (fun ls hl => ?_)
        refine lv_aload_n hx hb dX3_answer_51 rfl (lv_at hl 2 rfl) ?_
        refine Xg_X3_left C hA iX3_answer_X3 (by decide +kernel) dX3_answer_52 ?_
        refine lv_iload hx hb dX3_answer_55 (lv_at hl 1 rfl) ?_
        refine lv_dup2_11 hx hb dX3_answer_57 rfl rfl ?_
        refine Xld_24 (v := (σ.2.1 24 (r3).toNatClampNeg)) C hA rfl g6 dX3_answer_58 ?_
        refine lv_iload hx hb dX3_answer_59 (lv_at hl 0 rfl) ?_
        refine lv_isub hx hb dX3_answer_61 ?_
        refine Xst_24 C hA g6 dX3_answer_62 (fun H locs hA => ?_)
        refine lv_iload hx hb dX3_answer_63 (lv_at hl 6 rfl) ?_
        refine lv_iload hx hb dX3_answer_65 (lv_at hl 0 rfl) ?_
        refine lv_isub hx hb dX3_answer_67 ?_
        refine lv_istore (lv' := [(4, .int (x4 - (if (σ.2.1 24 (r3).toNatClampNeg) < x4 then (σ.2.1 24 (r3).toNatClampNeg) else x4))), (7, .int (if (σ.2.1 24 (r3).toNatClampNeg) < x4 then (σ.2.1 24 (r3).toNatClampNeg) else x4)), (6, .int r3), (0, .ref (g.2.1 5)), (1, .int x1), (2, .int x2), (3, .int x3), (5, .int x5)]) hx hb dX3_answer_68 hl (by decide) rfl (fun ls hl => ?_)
        refine lv_iinc (v := (x5 + 1)) (lv' := [(5, .int (x5 + 1)), (4, .int (x4 - (if (σ.2.1 24 (r3).toNatClampNeg) < x4 then (σ.2.1 24 (r3).toNatClampNeg) else x4))), (7, .int (if (σ.2.1 24 (r3).toNatClampNeg) < x4 then (σ.2.1 24 (r3).toNatClampNeg) else x4)), (6, .int r3), (0, .ref (g.2.1 5)), (1, .int x1), (2, .int x2), (3, .int x3)]) hx hb dX3_answer_70 hl (k := 7) rfl rfl (by decide) rfl (fun ls hl => ?_)
        refine lv_goto (tgt := 6) hx hb dX3_answer_73 (by decide) ?_
        exact hk6 _ _ h _ _ _ hA (lv_sub hl [4, 5, 6, 7, 1, 0] rfl)
      · replace h := (if_pos c5).symm.trans h
        refine lv_goto (tgt := 76) hx hb dX3_answer_34 (by decide) ?_
        refine lv_iload_n hx hb dX3_answer_76 rfl (lv_at hl 4 rfl) ?_
        refine lv_iload hx hb dX3_answer_77 (lv_at hl 5 rfl) ?_
        refine lv_isub hx hb dX3_answer_79 ?_
        obtain rfl := Option.some.inj h
        exact r_iret C hA dX3_answer_80
set_option maxHeartbeats 4000000 in
theorem w_X3_answer_L6 {σ : SS} {x : Int32 × Int32 × Int32 × Int32 × Int32} (C : Cx p l s m args meth c cX3_answer 8 wsX3_answer (some .int) RX3 g A) (h : f_X3_answer_L6 fu σ x = some R) {H : Heap} {locs : List Loc} {ls : Array Slot} (hA : Aw g A s.heap (wX g σ) H locs) (hl : lv_has ls 8 [(0, .ref (g.2.1 5)), (1, .int x.1), (2, .int x.2.1), (3, .int x.2.2.1), (4, .int x.2.2.2.1), (5, .int x.2.2.2.2)]) : W p l e rmX3_answer s m args below meth c H locs 0 0 (MQ below (Qi g A (wX g R.2) R.1) args s 0 0 A) (F0 m 6 ls []) := by
  refine loopW (P := fun σ x => ∀ (H : Heap) (locs : List Loc) (ls : Array Slot), Aw g A s.heap (wX g σ) H locs → lv_has ls 8 [(0, .ref (g.2.1 5)), (1, .int x.1), (2, .int x.2.1), (3, .int x.2.2.1), (4, .int x.2.2.2.1), (5, .int x.2.2.2.2)] → W p l e rmX3_answer s m args below meth c H locs 0 0 (MQ below (Qi g A (wX g R.2) R.1) args s 0 0 A) (F0 m 6 ls [])) (fun k hk σ x h9 H locs ls hA9 hl9 => ?_) fu σ x h H locs ls hA hl
  exact w_X3_answer_6 C hk h9 hA9 hl9
set_option maxHeartbeats 4000000 in
set_option maxRecDepth 100000 in
theorem w_X3_answer_0 {σ : SS} {x1 : Int32} {x2 : Int32} {x3 : Int32} (C : Cx p l s m args meth c cX3_answer 8 wsX3_answer (some .int) RX3 g A) (h : f_X3_answer fu σ x1 x2 x3 = some R) {H : Heap} {locs : List Loc} {ls : Array Slot} (hA : Aw g A s.heap (wX g σ) H locs) (hl : lv_has ls 8 [(0, .ref (g.2.1 5)), (1, .int x1), (2, .int x2), (3, .int x3)]) : W p l e rmX3_answer s m args below meth c H locs 0 0 (MQ below (Qi g A (wX g R.2) R.1) args s 0 0 A) (F0 m 0 ls []) := by
  have hx := C.1.1
  have hb := C.1.2.1
  unfold f_X3_answer at h
  refine lv_iload_n hx hb dX3_answer_0 rfl (lv_at hl 3 rfl) ?_
  refine lv_istore (lv' := [(4, .int x3), (0, .ref (g.2.1 5)), (1, .int x1), (2, .int x2), (3, .int x3)]) hx hb dX3_answer_1 hl (by decide) rfl (fun ls hl => ?_)
  refine lv_iconst (v := 0) hx hb dX3_answer_3 (by decide) ?_
  refine lv_istore (lv' := [(5, .int (0 : Int32)), (4, .int x3), (0, .ref (g.2.1 5)), (1, .int x1), (2, .int x2), (3, .int x3)]) hx hb dX3_answer_4 hl (by decide) rfl (fun ls hl => ?_)
  exact w_X3_answer_L6 C h hA (lv_sub hl [2, 3, 4, 5, 1, 0] rfl)
end
set_option maxRecDepth 100000 in
theorem k_X3_answer {l : Launch} {g : Gm} {fu : Nat} {σ : SS} {x1 : Int32} {x2 : Int32} {x3 : Int32} {R : Int32 × SS} (hlt : l.stackTraces = false) (h : f_X3_answer fu σ x1 x2 x3 = some R) (sz : Nat) : Met l yX3_answer wsX3_answer rmX3_answer (Pw g (wX g σ) [.ref (g.2.1 5), .int x1, .int x2, .int x3] sz) (Qi g (va_A (wX g σ) sz) (wX g R.2) R.1) 0 0 (va_A (wX g σ) sz) :=
  ofM (own := RX3) hlt (by decide) rfl rfl (Nat.le_of_ble_eq_true rfl) (fun p e s m below meth c hsz C hA ls hl => w_X3_answer_0 C h hA hl)
abbrev rmX3_inherit : Room := { frames := 1, cells := 0, slots := 0, locals := 23 }
theorem iX3_inherit_X3 : ∀ x ∈ wsX30, x ∈ wsX3_inherit := by decide +kernel
theorem nd_X3_inherit : yX3_inherit.cls = RX3 ∧ yX3_inherit.cls ≠ "java/lang/invoke/MethodHandle" ∧ yX3_inherit.cls ≠ "java/lang/invoke/VarHandle" ∧ (parseMethodDescriptor yX3_inherit.desc).map (fun d => d.parameters.length) = some 2 := by decide +kernel
def f_X3_inherit_114 (fu : Nat) (k5 : SS → (Int32 × Int32 × Int32 × Int32) → Option (Int32 × SS)) (σ : SS) (x1 : Int32) (x2 : Int32) (x3 : Int32) (x4 : Int32) : Option (Int32 × SS) :=
  k5 σ (x1, x2, x3, (x4 + 1))
def f_X3_inherit_82 (fu : Nat) (k5 : SS → (Int32 × Int32 × Int32 × Int32) → Option (Int32 × SS)) (σ : SS) (x1 : Int32) (x2 : Int32) (x3 : Int32) (x4 : Int32) : Option (Int32 × SS) :=
  if inB x4 400 then (if (σ.2.1 24 (x4).toNatClampNeg) ≤ 0 then f_X3_inherit_114 fu k5 σ x1 x2 x3 x4 else (if (σ.2.1 23 (x4).toNatClampNeg) = x1 then f_X3_inherit_114 fu k5 (sA σ 23 (x4).toNatClampNeg x2) x1 x2 (x3 + 1) x4 else f_X3_inherit_114 fu k5 σ x1 x2 x3 x4)) else none
def f_X3_inherit_36 (fu : Nat) (k5 : SS → (Int32 × Int32 × Int32 × Int32) → Option (Int32 × SS)) (σ : SS) (x1 : Int32) (x2 : Int32) (x3 : Int32) (x4 : Int32) : Option (Int32 × SS) :=
  if inB x4 400 then f_X3_inherit_114 fu k5 (sA σ 24 (x4).toNatClampNeg (0 : Int32)) x1 x2 x3 x4 else none
def f_X3_inherit_5 (fu : Nat) (k5 : SS → (Int32 × Int32 × Int32 × Int32) → Option (Int32 × SS)) (σ : SS) (x1 : Int32) (x2 : Int32) (x3 : Int32) (x4 : Int32) : Option (Int32 × SS) :=
  (if (σ.1 15) ≤ x4 then some (x3, σ) else bnd1 (f_X3_isOpenBetween fu σ x4 x1 x2) (fun r2 => (if r2 = 0 then bnd1 (f_X3_isOpenBetween fu σ x4 x2 x1) (fun r5 => (if r5 = 0 then if inB x4 400 then (if (σ.2.1 24 (x4).toNatClampNeg) ≤ 0 then f_X3_inherit_82 fu k5 σ x1 x2 x3 x4 else (if (σ.2.1 22 (x4).toNatClampNeg) = x1 then f_X3_inherit_114 fu k5 (sA σ 22 (x4).toNatClampNeg x2) x1 x2 (x3 + 1) x4 else f_X3_inherit_82 fu k5 σ x1 x2 x3 x4)) else none else f_X3_inherit_36 fu k5 σ x1 x2 x3 x4)) else f_X3_inherit_36 fu k5 σ x1 x2 x3 x4)))
def f_X3_inherit_L5 (fu : Nat) : SS → (Int32 × Int32 × Int32 × Int32) → Option (Int32 × SS) := loopN (fun k5 σ x => f_X3_inherit_5 fu k5 σ x.1 x.2.1 x.2.2.1 x.2.2.2) fu
def f_X3_inherit (fu : Nat) (σ : SS) (x1 : Int32) (x2 : Int32) : Option (Int32 × SS) :=
  f_X3_inherit_L5 fu σ (x1, x2, (0 : Int32), (0 : Int32))
section
variable {p : Program} {l : Launch} {e : Env} {s : State} {m : MethodId} {args : Array Value} {below : List Frame} {meth : Method} {c : Code} {g : Gm} {A : Nat → Prop} {fu : Nat} {R : Int32 × SS}
set_option maxHeartbeats 4000000 in
set_option maxRecDepth 100000 in
theorem w_X3_inherit_114 {σ : SS} {x1 : Int32} {x2 : Int32} {x3 : Int32} {x4 : Int32} (C : Cx p l s m args meth c cX3_inherit 5 wsX3_inherit (some .int) RX3 g A) {k5 : SS → (Int32 × Int32 × Int32 × Int32) → Option (Int32 × SS)} (hk5 : ∀ (σ : SS) (x : Int32 × Int32 × Int32 × Int32), k5 σ x = some R → ∀ (H : Heap) (locs : List Loc) (ls : Array Slot), Aw g A s.heap (wX g σ) H locs → lv_has ls 5 [(0, .ref (g.2.1 5)), (1, .int x.1), (2, .int x.2.1), (3, .int x.2.2.1), (4, .int x.2.2.2)] → W p l e rmX3_inherit s m args below meth c H locs 0 0 (MQ below (Qi g A (wX g R.2) R.1) args s 0 0 A) (F0 m 5 ls [])) (h : f_X3_inherit_114 fu k5 σ x1 x2 x3 x4 = some R) {H : Heap} {locs : List Loc} {ls : Array Slot} (hA : Aw g A s.heap (wX g σ) H locs) (hl : lv_has ls 5 [(0, .ref (g.2.1 5)), (1, .int x1), (2, .int x2), (3, .int x3), (4, .int x4)]) : W p l e rmX3_inherit s m args below meth c H locs 0 0 (MQ below (Qi g A (wX g R.2) R.1) args s 0 0 A) (F0 m 114 ls []) := by
  have hx := C.1.1
  have hb := C.1.2.1
  unfold f_X3_inherit_114 at h
  refine lv_iinc (v := (x4 + 1)) (lv' := [(4, .int (x4 + 1)), (0, .ref (g.2.1 5)), (1, .int x1), (2, .int x2), (3, .int x3)]) hx hb dX3_inherit_114 hl (k := 4) rfl rfl (by decide) rfl (fun ls hl => ?_)
  refine lv_goto (tgt := 5) hx hb dX3_inherit_117 (by decide) ?_
  exact hk5 _ _ h _ _ _ hA (lv_sub hl [1, 2, 3, 4, 0] rfl)
set_option maxHeartbeats 4000000 in
set_option maxRecDepth 100000 in
theorem w_X3_inherit_82 {σ : SS} {x1 : Int32} {x2 : Int32} {x3 : Int32} {x4 : Int32} (C : Cx p l s m args meth c cX3_inherit 5 wsX3_inherit (some .int) RX3 g A) {k5 : SS → (Int32 × Int32 × Int32 × Int32) → Option (Int32 × SS)} (hk5 : ∀ (σ : SS) (x : Int32 × Int32 × Int32 × Int32), k5 σ x = some R → ∀ (H : Heap) (locs : List Loc) (ls : Array Slot), Aw g A s.heap (wX g σ) H locs → lv_has ls 5 [(0, .ref (g.2.1 5)), (1, .int x.1), (2, .int x.2.1), (3, .int x.2.2.1), (4, .int x.2.2.2)] → W p l e rmX3_inherit s m args below meth c H locs 0 0 (MQ below (Qi g A (wX g R.2) R.1) args s 0 0 A) (F0 m 5 ls [])) (h : f_X3_inherit_82 fu k5 σ x1 x2 x3 x4 = some R) {H : Heap} {locs : List Loc} {ls : Array Slot} (hA : Aw g A s.heap (wX g σ) H locs) (hl : lv_has ls 5 [(0, .ref (g.2.1 5)), (1, .int x1), (2, .int x2), (3, .int x3), (4, .int x4)]) : W p l e rmX3_inherit s m args below meth c H locs 0 0 (MQ below (Qi g A (wX g R.2) R.1) args s 0 0 A) (F0 m 82 ls []) := by
  have hx := C.1.1
  have hb := C.1.2.1
  unfold f_X3_inherit_82 at h
  refine lv_aload_n hx hb dX3_inherit_82 rfl (lv_at hl 0 rfl) ?_
  refine Xg_X3_left C hA iX3_inherit_X3 (by decide +kernel) dX3_inherit_83 ?_
  refine lv_iload hx hb dX3_inherit_86 (lv_at hl 4 rfl) ?_
  obtain ⟨g1, h⟩ := gd h
  refine Xld_24 (v := (σ.2.1 24 (x4).toNatClampNeg)) C hA rfl g1 dX3_inherit_88 ?_
  refine lv_if_le (tgt := 114) hx hb dX3_inherit_89 (by decide) (fun c2 => ?_) (fun c2 => ?_)
  · replace h := (if_pos c2).symm.trans h
    exact w_X3_inherit_114 C hk5 h hA (lv_sub hl [0, 1, 2, 3, 4] rfl)
  · replace h := (if_neg c2).symm.trans h
    refine lv_aload_n hx hb dX3_inherit_92 rfl (lv_at hl 0 rfl) ?_
    refine Xg_X3_creditor C hA iX3_inherit_X3 (by decide +kernel) dX3_inherit_93 ?_
    refine lv_iload hx hb dX3_inherit_96 (lv_at hl 4 rfl) ?_
    refine Xld_23 (v := (σ.2.1 23 (x4).toNatClampNeg)) C hA rfl g1 dX3_inherit_98 ?_
    refine lv_iload_n hx hb dX3_inherit_99 rfl (lv_at hl 1 rfl) ?_
    refine lv_icmp_ne (tgt := 114) hx hb dX3_inherit_100 (by decide) (fun c3 => ?_) (fun c3 => ?_)
    · replace h := (if_neg c3).symm.trans h
      exact w_X3_inherit_114 C hk5 h hA (lv_sub hl [0, 1, 2, 3, 4] rfl)
    · replace h := (if_pos c3).symm.trans h
      refine lv_aload_n hx hb dX3_inherit_103 rfl (lv_at hl 0 rfl) ?_
      refine Xg_X3_creditor C hA iX3_inherit_X3 (by decide +kernel) dX3_inherit_104 ?_
      refine lv_iload hx hb dX3_inherit_107 (lv_at hl 4 rfl) ?_
      refine lv_iload_n hx hb dX3_inherit_109 rfl (lv_at hl 2 rfl) ?_
      refine Xst_23 C hA g1 dX3_inherit_110 (fun H locs hA => ?_)
      refine lv_iinc (v := (x3 + 1)) (lv' := [(3, .int (x3 + 1)), (0, .ref (g.2.1 5)), (1, .int x1), (2, .int x2), (4, .int x4)]) hx hb dX3_inherit_111 hl (k := 3) rfl rfl (by decide) rfl (fun ls hl => ?_)
      exact w_X3_inherit_114 C hk5 h hA (lv_sub hl [1, 2, 3, 0, 4] rfl)
set_option maxHeartbeats 4000000 in
set_option maxRecDepth 100000 in
theorem w_X3_inherit_36 {σ : SS} {x1 : Int32} {x2 : Int32} {x3 : Int32} {x4 : Int32} (C : Cx p l s m args meth c cX3_inherit 5 wsX3_inherit (some .int) RX3 g A) {k5 : SS → (Int32 × Int32 × Int32 × Int32) → Option (Int32 × SS)} (hk5 : ∀ (σ : SS) (x : Int32 × Int32 × Int32 × Int32), k5 σ x = some R → ∀ (H : Heap) (locs : List Loc) (ls : Array Slot), Aw g A s.heap (wX g σ) H locs → lv_has ls 5 [(0, .ref (g.2.1 5)), (1, .int x.1), (2, .int x.2.1), (3, .int x.2.2.1), (4, .int x.2.2.2)] → W p l e rmX3_inherit s m args below meth c H locs 0 0 (MQ below (Qi g A (wX g R.2) R.1) args s 0 0 A) (F0 m 5 ls [])) (h : f_X3_inherit_36 fu k5 σ x1 x2 x3 x4 = some R) {H : Heap} {locs : List Loc} {ls : Array Slot} (hA : Aw g A s.heap (wX g σ) H locs) (hl : lv_has ls 5 [(0, .ref (g.2.1 5)), (1, .int x1), (2, .int x2), (3, .int x3), (4, .int x4)]) : W p l e rmX3_inherit s m args below meth c H locs 0 0 (MQ below (Qi g A (wX g R.2) R.1) args s 0 0 A) (F0 m 36 ls []) := by
  have hx := C.1.1
  have hb := C.1.2.1
  unfold f_X3_inherit_36 at h
  refine lv_aload_n hx hb dX3_inherit_36 rfl (lv_at hl 0 rfl) ?_
  refine Xg_X3_left C hA iX3_inherit_X3 (by decide +kernel) dX3_inherit_37 ?_
  refine lv_iload hx hb dX3_inherit_40 (lv_at hl 4 rfl) ?_
  refine lv_iconst (v := 0) hx hb dX3_inherit_42 (by decide) ?_
  obtain ⟨g1, h⟩ := gd h
  refine Xst_24 C hA g1 dX3_inherit_43 (fun H locs hA => ?_)
  refine lv_goto (tgt := 114) hx hb dX3_inherit_44 (by decide) ?_
  exact w_X3_inherit_114 C hk5 h hA (lv_sub hl [0, 1, 2, 3, 4] rfl)
set_option maxHeartbeats 4000000 in
set_option maxRecDepth 100000 in
theorem w_X3_inherit_5 {σ : SS} {x1 : Int32} {x2 : Int32} {x3 : Int32} {x4 : Int32} (C : Cx p l s m args meth c cX3_inherit 5 wsX3_inherit (some .int) RX3 g A) {k5 : SS → (Int32 × Int32 × Int32 × Int32) → Option (Int32 × SS)} (hk5 : ∀ (σ : SS) (x : Int32 × Int32 × Int32 × Int32), k5 σ x = some R → ∀ (H : Heap) (locs : List Loc) (ls : Array Slot), Aw g A s.heap (wX g σ) H locs → lv_has ls 5 [(0, .ref (g.2.1 5)), (1, .int x.1), (2, .int x.2.1), (3, .int x.2.2.1), (4, .int x.2.2.2)] → W p l e rmX3_inherit s m args below meth c H locs 0 0 (MQ below (Qi g A (wX g R.2) R.1) args s 0 0 A) (F0 m 5 ls [])) (h : f_X3_inherit_5 fu k5 σ x1 x2 x3 x4 = some R) {H : Heap} {locs : List Loc} {ls : Array Slot} (hA : Aw g A s.heap (wX g σ) H locs) (hl : lv_has ls 5 [(0, .ref (g.2.1 5)), (1, .int x1), (2, .int x2), (3, .int x3), (4, .int x4)]) : W p l e rmX3_inherit s m args below meth c H locs 0 0 (MQ below (Qi g A (wX g R.2) R.1) args s 0 0 A) (F0 m 5 ls []) := by
  have hx := C.1.1
  have hb := C.1.2.1
  unfold f_X3_inherit_5 at h
  refine lv_iload hx hb dX3_inherit_5 (lv_at hl 4 rfl) ?_
  refine lv_aload_n hx hb dX3_inherit_7 rfl (lv_at hl 0 rfl) ?_
  refine Xg_X3_size (v := (σ.1 15)) C hA rfl iX3_inherit_X3 (by decide +kernel) dX3_inherit_8 ?_
  refine lv_icmp_ge (tgt := 120) hx hb dX3_inherit_11 (by decide) (fun c1 => ?_) (fun c1 => ?_)
  · replace h := (if_pos c1).symm.trans h
    refine lv_iload_n hx hb dX3_inherit_120 rfl (lv_at hl 3 rfl) ?_
    obtain rfl := Option.some.inj h
    exact r_iret C hA dX3_inherit_121
  · replace h := (if_neg c1).symm.trans h
    refine lv_aload_n hx hb dX3_inherit_14 rfl (lv_at hl 0 rfl) ?_
    refine lv_iload hx hb dX3_inherit_15 (lv_at hl 4 rfl) ?_
    refine lv_iload_n hx hb dX3_inherit_17 rfl (lv_at hl 1 rfl) ?_
    refine lv_iload_n hx hb dX3_inherit_18 rfl (lv_at hl 2 rfl) ?_
    obtain ⟨r2, hc3, h⟩ := bd1 h
    refine r_callVi (r := r2) (w1 := wX g σ) (As := [.int x4, .int x1, .int x2]) (rest := []) C hA hl.1 (k_X3_isOpenBetween C.2.2.2.2.2.2 hc3) (cwV 3 C.1.2.2.2.2 gX3_inherit_X3_isOpenBetween rfl rfl rfl nd_X3_isOpenBetween ⟨Nat.le_of_ble_eq_true rfl, Nat.le_of_ble_eq_true rfl⟩) 5 rfl rfl rfl rfl (Nat.le_of_ble_eq_true rfl) dX3_inherit_19 ⟨Nat.le_of_ble_eq_true rfl, Nat.le_of_ble_eq_true rfl⟩ (fun H locs hA => ?_)
    refine lv_if_ne (tgt := 36) hx hb dX3_inherit_22 (by decide) (fun c4 => ?_) (fun c4 => ?_)
    · replace h := (if_neg c4).symm.trans h
      exact w_X3_inherit_36 C hk5 h hA (lv_sub hl [0, 1, 2, 3, 4] rfl)
    · replace h := (if_pos c4).symm.trans h
      refine lv_aload_n hx hb dX3_inherit_25 rfl (lv_at hl 0 rfl) ?_
      refine lv_iload hx hb dX3_inherit_26 (lv_at hl 4 rfl) ?_
      refine lv_iload_n hx hb dX3_inherit_28 rfl (lv_at hl 2 rfl) ?_
      refine lv_iload_n hx hb dX3_inherit_29 rfl (lv_at hl 1 rfl) ?_
      obtain ⟨r5, hc6, h⟩ := bd1 h
      refine r_callVi (r := r5) (w1 := wX g σ) (As := [.int x4, .int x2, .int x1]) (rest := []) C hA hl.1 (k_X3_isOpenBetween C.2.2.2.2.2.2 hc6) (cwV 3 C.1.2.2.2.2 gX3_inherit_X3_isOpenBetween rfl rfl rfl nd_X3_isOpenBetween ⟨Nat.le_of_ble_eq_true rfl, Nat.le_of_ble_eq_true rfl⟩) 5 rfl rfl rfl rfl (Nat.le_of_ble_eq_true rfl) dX3_inherit_30 ⟨Nat.le_of_ble_eq_true rfl, Nat.le_of_ble_eq_true rfl⟩ (fun H locs hA => ?_)
      refine lv_if_eq (tgt := 47) hx hb dX3_inherit_33 (by decide) (fun c7 => ?_) (fun c7 => ?_)
      · replace h := (if_pos c7).symm.trans h
        refine lv_aload_n hx hb dX3_inherit_47 rfl (lv_at hl 0 rfl) ?_
        refine Xg_X3_left C hA iX3_inherit_X3 (by decide +kernel) dX3_inherit_48 ?_
        refine lv_iload hx hb dX3_inherit_51 (lv_at hl 4 rfl) ?_
        obtain ⟨g8, h⟩ := gd h
        refine Xld_24 (v := (σ.2.1 24 (x4).toNatClampNeg)) C hA rfl g8 dX3_inherit_53 ?_
        refine lv_if_le (tgt := 82) hx hb dX3_inherit_54 (by decide) (fun c9 => ?_) (fun c9 => ?_)
        · replace h := (if_pos c9).symm.trans h
          exact w_X3_inherit_82 C hk5 h hA (lv_sub hl [0, 1, 2, 3, 4] rfl)
        · replace h := (if_neg c9).symm.trans h
          refine lv_aload_n hx hb dX3_inherit_57 rfl (lv_at hl 0 rfl) ?_
          refine Xg_X3_debtor C hA iX3_inherit_X3 (by decide +kernel) dX3_inherit_58 ?_
          refine lv_iload hx hb dX3_inherit_61 (lv_at hl 4 rfl) ?_
          refine Xld_22 (v := (σ.2.1 22 (x4).toNatClampNeg)) C hA rfl g8 dX3_inherit_63 ?_
          refine lv_iload_n hx hb dX3_inherit_64 rfl (lv_at hl 1 rfl) ?_
          refine lv_icmp_ne (tgt := 82) hx hb dX3_inherit_65 (by decide) (fun c10 => ?_) (fun c10 => ?_)
          · replace h := (if_neg c10).symm.trans h
            exact w_X3_inherit_82 C hk5 h hA (lv_sub hl [0, 1, 2, 3, 4] rfl)
          · replace h := (if_pos c10).symm.trans h
            refine lv_aload_n hx hb dX3_inherit_68 rfl (lv_at hl 0 rfl) ?_
            refine Xg_X3_debtor C hA iX3_inherit_X3 (by decide +kernel) dX3_inherit_69 ?_
            refine lv_iload hx hb dX3_inherit_72 (lv_at hl 4 rfl) ?_
            refine lv_iload_n hx hb dX3_inherit_74 rfl (lv_at hl 2 rfl) ?_
            refine Xst_22 C hA g8 dX3_inherit_75 (fun H locs hA => ?_)
            refine lv_iinc (v := (x3 + 1)) (lv' := [(3, .int (x3 + 1)), (0, .ref (g.2.1 5)), (1, .int x1), (2, .int x2), (4, .int x4)]) hx hb dX3_inherit_76 hl (k := 3) rfl rfl (by decide) rfl (fun ls hl => ?_)
            refine lv_goto (tgt := 114) hx hb dX3_inherit_79 (by decide) ?_
            exact w_X3_inherit_114 C hk5 h hA (lv_sub hl [1, 2, 3, 0, 4] rfl)
      · replace h := (if_neg c7).symm.trans h
        exact w_X3_inherit_36 C hk5 h hA (lv_sub hl [0, 1, 2, 3, 4] rfl)
set_option maxHeartbeats 4000000 in
theorem w_X3_inherit_L5 {σ : SS} {x : Int32 × Int32 × Int32 × Int32} (C : Cx p l s m args meth c cX3_inherit 5 wsX3_inherit (some .int) RX3 g A) (h : f_X3_inherit_L5 fu σ x = some R) {H : Heap} {locs : List Loc} {ls : Array Slot} (hA : Aw g A s.heap (wX g σ) H locs) (hl : lv_has ls 5 [(0, .ref (g.2.1 5)), (1, .int x.1), (2, .int x.2.1), (3, .int x.2.2.1), (4, .int x.2.2.2)]) : W p l e rmX3_inherit s m args below meth c H locs 0 0 (MQ below (Qi g A (wX g R.2) R.1) args s 0 0 A) (F0 m 5 ls []) := by
  refine loopW (P := fun σ x => ∀ (H : Heap) (locs : List Loc) (ls : Array Slot), Aw g A s.heap (wX g σ) H locs → lv_has ls 5 [(0, .ref (g.2.1 5)), (1, .int x.1), (2, .int x.2.1), (3, .int x.2.2.1), (4, .int x.2.2.2)] → W p l e rmX3_inherit s m args below meth c H locs 0 0 (MQ below (Qi g A (wX g R.2) R.1) args s 0 0 A) (F0 m 5 ls [])) (fun k hk σ x h9 H locs ls hA9 hl9 => ?_) fu σ x h H locs ls hA hl
  exact w_X3_inherit_5 C hk h9 hA9 hl9
set_option maxHeartbeats 4000000 in
set_option maxRecDepth 100000 in
theorem w_X3_inherit_0 {σ : SS} {x1 : Int32} {x2 : Int32} (C : Cx p l s m args meth c cX3_inherit 5 wsX3_inherit (some .int) RX3 g A) (h : f_X3_inherit fu σ x1 x2 = some R) {H : Heap} {locs : List Loc} {ls : Array Slot} (hA : Aw g A s.heap (wX g σ) H locs) (hl : lv_has ls 5 [(0, .ref (g.2.1 5)), (1, .int x1), (2, .int x2)]) : W p l e rmX3_inherit s m args below meth c H locs 0 0 (MQ below (Qi g A (wX g R.2) R.1) args s 0 0 A) (F0 m 0 ls []) := by
  have hx := C.1.1
  have hb := C.1.2.1
  unfold f_X3_inherit at h
  refine lv_iconst (v := 0) hx hb dX3_inherit_0 (by decide) ?_
  refine lv_istore_n (lv' := [(3, .int (0 : Int32)), (0, .ref (g.2.1 5)), (1, .int x1), (2, .int x2)]) hx hb dX3_inherit_1 rfl hl (by decide) rfl (fun ls hl => ?_)
  refine lv_iconst (v := 0) hx hb dX3_inherit_2 (by decide) ?_
  refine lv_istore (lv' := [(4, .int (0 : Int32)), (3, .int (0 : Int32)), (0, .ref (g.2.1 5)), (1, .int x1), (2, .int x2)]) hx hb dX3_inherit_3 hl (by decide) rfl (fun ls hl => ?_)
  exact w_X3_inherit_L5 C h hA (lv_sub hl [2, 3, 4, 1, 0] rfl)
end
set_option maxRecDepth 100000 in
theorem k_X3_inherit {l : Launch} {g : Gm} {fu : Nat} {σ : SS} {x1 : Int32} {x2 : Int32} {R : Int32 × SS} (hlt : l.stackTraces = false) (h : f_X3_inherit fu σ x1 x2 = some R) (sz : Nat) : Met l yX3_inherit wsX3_inherit rmX3_inherit (Pw g (wX g σ) [.ref (g.2.1 5), .int x1, .int x2] sz) (Qi g (va_A (wX g σ) sz) (wX g R.2) R.1) 0 0 (va_A (wX g σ) sz) :=
  ofM (own := RX3) hlt (by decide) rfl rfl (Nat.le_of_ble_eq_true rfl) (fun p e s m below meth c hsz C hA ls hl => w_X3_inherit_0 C h hA hl)
abbrev rmX5_append : Room := { frames := 0, cells := 0, slots := 0, locals := 0 }
theorem iX5_append_X5 : ∀ x ∈ wsX50, x ∈ wsX5_append := by decide +kernel
theorem nd_X5_append : yX5_append.cls = RX5 ∧ yX5_append.cls ≠ "java/lang/invoke/MethodHandle" ∧ yX5_append.cls ≠ "java/lang/invoke/VarHandle" ∧ (parseMethodDescriptor yX5_append.desc).map (fun d => d.parameters.length) = some 1 := by decide +kernel
def f_X5_append_3 (fu : Nat) (k3 : SS → (Int32 × Int32) → Option (Unit × SS)) (σ : SS) (x1 : Int32) (x2 : Int32) : Option (Unit × SS) :=
  (if x2 < 0 then some ((), σ) else if inB (σ.1 2) 200 then k3 (sI (sA σ 10 ((σ.1 2)).toNatClampNeg (vp_nar .byte ((x1 >>> (x2 &&& 31))).toInt8.toInt32)) 2 ((σ.1 2) + (1 : Int32))) (x1, (x2 + (-8))) else none)
def f_X5_append_L3 (fu : Nat) : SS → (Int32 × Int32) → Option (Unit × SS) := loopN (fun k3 σ x => f_X5_append_3 fu k3 σ x.1 x.2) fu
def f_X5_append (fu : Nat) (σ : SS) (x1 : Int32) : Option (Unit × SS) :=
  f_X5_append_L3 fu σ (x1, (24 : Int32))
section
variable {p : Program} {l : Launch} {e : Env} {s : State} {m : MethodId} {args : Array Value} {below : List Frame} {meth : Method} {c : Code} {g : Gm} {A : Nat → Prop} {fu : Nat} {R : Unit × SS}
set_option maxHeartbeats 4000000 in
set_option maxRecDepth 100000 in
theorem w_X5_append_3 {σ : SS} {x1 : Int32} {x2 : Int32} (C : Cx p l s m args meth c cX5_append 3 wsX5_append none RX5 g A) {k3 : SS → (Int32 × Int32) → Option (Unit × SS)} (hk3 : ∀ (σ : SS) (x : Int32 × Int32), k3 σ x = some R → ∀ (H : Heap) (locs : List Loc) (ls : Array Slot), Aw g A s.heap (wX g σ) H locs → lv_has ls 3 [(0, .ref (g.2.1 1)), (1, .int x.1), (2, .int x.2)] → W p l e rmX5_append s m args below meth c H locs 0 0 (MQ below (Qv g A (wX g R.2) R.1) args s 0 0 A) (F0 m 3 ls [])) (h : f_X5_append_3 fu k3 σ x1 x2 = some R) {H : Heap} {locs : List Loc} {ls : Array Slot} (hA : Aw g A s.heap (wX g σ) H locs) (hl : lv_has ls 3 [(0, .ref (g.2.1 1)), (1, .int x1), (2, .int x2)]) : W p l e rmX5_append s m args below meth c H locs 0 0 (MQ below (Qv g A (wX g R.2) R.1) args s 0 0 A) (F0 m 3 ls []) := by
  have hx := C.1.1
  have hb := C.1.2.1
  unfold f_X5_append_3 at h
  refine lv_iload_n hx hb dX5_append_3 rfl (lv_at hl 2 rfl) ?_
  refine lv_if_lt (tgt := 36) hx hb dX5_append_4 (by decide) (fun c1 => ?_) (fun c1 => ?_)
  · replace h := (if_pos c1).symm.trans h
    obtain rfl := Option.some.inj h
    exact r_vret C hA dX5_append_36
  · replace h := (if_neg c1).symm.trans h
    refine lv_aload_n hx hb dX5_append_7 rfl (lv_at hl 0 rfl) ?_
    refine Xg_X5_bytes C hA iX5_append_X5 (by decide +kernel) dX5_append_8 ?_
    refine lv_aload_n hx hb dX5_append_11 rfl (lv_at hl 0 rfl) ?_
    refine Xg_X5_length (v := (σ.1 2)) C hA rfl iX5_append_X5 (by decide +kernel) dX5_append_12 ?_
    refine lv_iload_n hx hb dX5_append_15 rfl (lv_at hl 1 rfl) ?_
    refine lv_iload_n hx hb dX5_append_16 rfl (lv_at hl 2 rfl) ?_
    refine lv_ishr hx hb dX5_append_17 ?_
    refine lv_i2b hx hb dX5_append_18 rfl ?_
    obtain ⟨g2, h⟩ := gd h
    refine Xst_10 C hA g2 dX5_append_19 (fun H locs hA => ?_)
    refine lv_aload_n hx hb dX5_append_20 rfl (lv_at hl 0 rfl) ?_
    refine lv_dup hx hb dX5_append_21 rfl ?_
    refine Xg_X5_length (v := (σ.1 2)) C hA rfl iX5_append_X5 (by decide +kernel) dX5_append_22 ?_
    refine lv_iconst (v := 1) hx hb dX5_append_25 (by decide) ?_
    refine lv_iadd hx hb dX5_append_26 ?_
    refine Xp_X5_length C hA iX5_append_X5 (by decide +kernel) dX5_append_27 (fun H locs hA => ?_)
    refine lv_iinc (v := (x2 + (-8))) (lv' := [(2, .int (x2 + (-8))), (0, .ref (g.2.1 1)), (1, .int x1)]) hx hb dX5_append_30 hl (k := 2) rfl rfl (by decide) rfl (fun ls hl => ?_)
    refine lv_goto (tgt := 3) hx hb dX5_append_33 (by decide) ?_
    exact hk3 _ _ h _ _ _ hA (lv_sub hl [1, 2, 0] rfl)
set_option maxHeartbeats 4000000 in
theorem w_X5_append_L3 {σ : SS} {x : Int32 × Int32} (C : Cx p l s m args meth c cX5_append 3 wsX5_append none RX5 g A) (h : f_X5_append_L3 fu σ x = some R) {H : Heap} {locs : List Loc} {ls : Array Slot} (hA : Aw g A s.heap (wX g σ) H locs) (hl : lv_has ls 3 [(0, .ref (g.2.1 1)), (1, .int x.1), (2, .int x.2)]) : W p l e rmX5_append s m args below meth c H locs 0 0 (MQ below (Qv g A (wX g R.2) R.1) args s 0 0 A) (F0 m 3 ls []) := by
  refine loopW (P := fun σ x => ∀ (H : Heap) (locs : List Loc) (ls : Array Slot), Aw g A s.heap (wX g σ) H locs → lv_has ls 3 [(0, .ref (g.2.1 1)), (1, .int x.1), (2, .int x.2)] → W p l e rmX5_append s m args below meth c H locs 0 0 (MQ below (Qv g A (wX g R.2) R.1) args s 0 0 A) (F0 m 3 ls [])) (fun k hk σ x h9 H locs ls hA9 hl9 => ?_) fu σ x h H locs ls hA hl
  exact w_X5_append_3 C hk h9 hA9 hl9
set_option maxHeartbeats 4000000 in
set_option maxRecDepth 100000 in
theorem w_X5_append_0 {σ : SS} {x1 : Int32} (C : Cx p l s m args meth c cX5_append 3 wsX5_append none RX5 g A) (h : f_X5_append fu σ x1 = some R) {H : Heap} {locs : List Loc} {ls : Array Slot} (hA : Aw g A s.heap (wX g σ) H locs) (hl : lv_has ls 3 [(0, .ref (g.2.1 1)), (1, .int x1)]) : W p l e rmX5_append s m args below meth c H locs 0 0 (MQ below (Qv g A (wX g R.2) R.1) args s 0 0 A) (F0 m 0 ls []) := by
  have hx := C.1.1
  have hb := C.1.2.1
  unfold f_X5_append at h
  refine lv_bipush (v := 24) hx hb dX5_append_0 (by decide) ?_
  refine lv_istore_n (lv' := [(2, .int (24 : Int32)), (0, .ref (g.2.1 1)), (1, .int x1)]) hx hb dX5_append_2 rfl hl (by decide) rfl (fun ls hl => ?_)
  exact w_X5_append_L3 C h hA (lv_sub hl [1, 2, 0] rfl)
end
set_option maxRecDepth 100000 in
theorem k_X5_append {l : Launch} {g : Gm} {fu : Nat} {σ : SS} {x1 : Int32} {R : Unit × SS} (hlt : l.stackTraces = false) (h : f_X5_append fu σ x1 = some R) (sz : Nat) : Met l yX5_append wsX5_append rmX5_append (Pw g (wX g σ) [.ref (g.2.1 1), .int x1] sz) (Qv g (va_A (wX g σ) sz) (wX g R.2) R.1) 0 0 (va_A (wX g σ) sz) :=
  ofM (own := RX5) hlt (by decide) rfl rfl (Nat.le_of_ble_eq_true rfl) (fun p e s m below meth c hsz C hA ls hl => w_X5_append_0 C h hA hl)

abbrev rmX7_feed : Room := { frames := 1, cells := 0, slots := 0, locals := 22 }
theorem iX7_feed_X5 : ∀ x ∈ wsX50, x ∈ wsX7_feed := by decide +kernel
theorem iX7_feed_X7 : ∀ x ∈ wsX70, x ∈ wsX7_feed := by decide +kernel
theorem nd_X7_feed : yX7_feed.cls = RX7 ∧ yX7_feed.cls ≠ "java/lang/invoke/MethodHandle" ∧ yX7_feed.cls ≠ "java/lang/invoke/VarHandle" ∧ (parseMethodDescriptor yX7_feed.desc).map (fun d => d.parameters.length) = some 5 := by decide +kernel
def f_X7_feed (fu : Nat) (σ : SS) (x1 : Int32) (x2 : Int32) (x3 : Int32) (x4 : Int32) (x5 : Int32) : Option (Int32 × SS) :=
  (if ((σ.1 2) + (20 : Int32)) ≤ (200 : Int32) then bnd (f_X5_append fu σ x1) (fun r2 t4 => bnd (f_X5_append fu t4 x2) (fun r5 t7 => bnd (f_X5_append fu t7 x3) (fun r8 t10 => bnd (f_X5_append fu t10 x4) (fun r11 t13 => bnd (f_X5_append fu t13 x5) (fun r14 t16 => some ((t16.1 2), t16)))))) else some ((-1), σ))
section
variable {p : Program} {l : Launch} {e : Env} {s : State} {m : MethodId} {args : Array Value} {below : List Frame} {meth : Method} {c : Code} {g : Gm} {A : Nat → Prop} {fu : Nat} {R : Int32 × SS}
set_option maxHeartbeats 4000000 in
set_option maxRecDepth 100000 in
theorem w_X7_feed_0 {σ : SS} {x1 : Int32} {x2 : Int32} {x3 : Int32} {x4 : Int32} {x5 : Int32} (C : Cx p l s m args meth c cX7_feed 6 wsX7_feed (some .int) RX7 g A) (h : f_X7_feed fu σ x1 x2 x3 x4 x5 = some R) {H : Heap} {locs : List Loc} {ls : Array Slot} (hA : Aw g A s.heap (wX g σ) H locs) (hl : lv_has ls 6 [(0, .ref (g.2.1 0)), (1, .int x1), (2, .int x2), (3, .int x3), (4, .int x4), (5, .int x5)]) : W p l e rmX7_feed s m args below meth c H locs 0 0 (MQ below (Qi g A (wX g R.2) R.1) args s 0 0 A) (F0 m 0 ls []) := by
  have hx := C.1.1
  have hb := C.1.2.1
  unfold f_X7_feed at h
  refine lv_aload_n hx hb dX7_feed_0 rfl (lv_at hl 0 rfl) ?_
  refine Xg_X7_tape C hA iX7_feed_X7 (by decide +kernel) dX7_feed_1 ?_
  refine Xg_X5_length (v := (σ.1 2)) C hA rfl iX7_feed_X5 (by decide +kernel) dX7_feed_4 ?_
  refine lv_bipush (v := 20) hx hb dX7_feed_7 (by decide) ?_
  refine lv_iadd hx hb dX7_feed_9 ?_
  refine lv_sipush (v := 200) hx hb dX7_feed_10 (by decide) ?_
  refine lv_icmp_le (tgt := 18) hx hb dX7_feed_13 (by decide) (fun c1 => ?_) (fun c1 => ?_)
  · replace h := (if_pos c1).symm.trans h
    refine lv_aload_n hx hb dX7_feed_18 rfl (lv_at hl 0 rfl) ?_
    refine Xg_X7_tape C hA iX7_feed_X7 (by decide +kernel) dX7_feed_19 ?_
    refine lv_iload_n hx hb dX7_feed_22 rfl (lv_at hl 1 rfl) ?_
    obtain ⟨r2, t4, hc3, h⟩ := bd h
    refine r_callVv (r := r2) (w1 := wX g t4) (As := [.int x1]) (rest := []) C hA hl.1 (k_X5_append C.2.2.2.2.2.2 hc3) (cwV 1 C.1.2.2.2.2 gX7_feed_X5_append rfl rfl rfl nd_X5_append ⟨Nat.le_of_ble_eq_true rfl, Nat.le_of_ble_eq_true rfl⟩) 1 rfl rfl rfl rfl (Nat.le_of_ble_eq_true rfl) dX7_feed_23 ⟨Nat.le_of_ble_eq_true rfl, Nat.le_of_ble_eq_true rfl⟩ (fun H locs hA => ?_)
    refine lv_aload_n hx hb dX7_feed_26 rfl (lv_at hl 0 rfl) ?_
    refine Xg_X7_tape C hA iX7_feed_X7 (by decide +kernel) dX7_feed_27 ?_
    refine lv_iload_n hx hb dX7_feed_30 rfl (lv_at hl 2 rfl) ?_
    obtain ⟨r5, t7, hc6, h⟩ := bd h
    refine r_callVv (r := r5) (w1 := wX g t7) (As := [.int x2]) (rest := []) C hA hl.1 (k_X5_append C.2.2.2.2.2.2 hc6) (cwV 1 C.1.2.2.2.2 gX7_feed_X5_append rfl rfl rfl nd_X5_append ⟨Nat.le_of_ble_eq_true rfl, Nat.le_of_ble_eq_true rfl⟩) 1 rfl rfl rfl rfl (Nat.le_of_ble_eq_true rfl) dX7_feed_31 ⟨Nat.le_of_ble_eq_true rfl, Nat.le_of_ble_eq_true rfl⟩ (fun H locs hA => ?_)
    refine lv_aload_n hx hb dX7_feed_34 rfl (lv_at hl 0 rfl) ?_
    refine Xg_X7_tape C hA iX7_feed_X7 (by decide +kernel) dX7_feed_35 ?_
    refine lv_iload_n hx hb dX7_feed_38 rfl (lv_at hl 3 rfl) ?_
    obtain ⟨r8, t10, hc9, h⟩ := bd h
    refine r_callVv (r := r8) (w1 := wX g t10) (As := [.int x3]) (rest := []) C hA hl.1 (k_X5_append C.2.2.2.2.2.2 hc9) (cwV 1 C.1.2.2.2.2 gX7_feed_X5_append rfl rfl rfl nd_X5_append ⟨Nat.le_of_ble_eq_true rfl, Nat.le_of_ble_eq_true rfl⟩) 1 rfl rfl rfl rfl (Nat.le_of_ble_eq_true rfl) dX7_feed_39 ⟨Nat.le_of_ble_eq_true rfl, Nat.le_of_ble_eq_true rfl⟩ (fun H locs hA => ?_)
    refine lv_aload_n hx hb dX7_feed_42 rfl (lv_at hl 0 rfl) ?_
    refine Xg_X7_tape C hA iX7_feed_X7 (by decide +kernel) dX7_feed_43 ?_
    refine lv_iload hx hb dX7_feed_46 (lv_at hl 4 rfl) ?_
    obtain ⟨r11, t13, hc12, h⟩ := bd h
    refine r_callVv (r := r11) (w1 := wX g t13) (As := [.int x4]) (rest := []) C hA hl.1 (k_X5_append C.2.2.2.2.2.2 hc12) (cwV 1 C.1.2.2.2.2 gX7_feed_X5_append rfl rfl rfl nd_X5_append ⟨Nat.le_of_ble_eq_true rfl, Nat.le_of_ble_eq_true rfl⟩) 1 rfl rfl rfl rfl (Nat.le_of_ble_eq_true rfl) dX7_feed_48 ⟨Nat.le_of_ble_eq_true rfl, Nat.le_of_ble_eq_true rfl⟩ (fun H locs hA => ?_)
    refine lv_aload_n hx hb dX7_feed_51 rfl (lv_at hl 0 rfl) ?_
    refine Xg_X7_tape C hA iX7_feed_X7 (by decide +kernel) dX7_feed_52 ?_
    refine lv_iload hx hb dX7_feed_55 (lv_at hl 5 rfl) ?_
    obtain ⟨r14, t16, hc15, h⟩ := bd h
    refine r_callVv (r := r14) (w1 := wX g t16) (As := [.int x5]) (rest := []) C hA hl.1 (k_X5_append C.2.2.2.2.2.2 hc15) (cwV 1 C.1.2.2.2.2 gX7_feed_X5_append rfl rfl rfl nd_X5_append ⟨Nat.le_of_ble_eq_true rfl, Nat.le_of_ble_eq_true rfl⟩) 1 rfl rfl rfl rfl (Nat.le_of_ble_eq_true rfl) dX7_feed_57 ⟨Nat.le_of_ble_eq_true rfl, Nat.le_of_ble_eq_true rfl⟩ (fun H locs hA => ?_)
    refine lv_aload_n hx hb dX7_feed_60 rfl (lv_at hl 0 rfl) ?_
    refine Xg_X7_tape C hA iX7_feed_X7 (by decide +kernel) dX7_feed_61 ?_
    refine Xg_X5_length (v := (t16.1 2)) C hA rfl iX7_feed_X5 (by decide +kernel) dX7_feed_64 ?_
    obtain rfl := Option.some.inj h
    exact r_iret C hA dX7_feed_67
  · replace h := (if_neg c1).symm.trans h
    refine lv_iconst (v := (-1)) hx hb dX7_feed_16 (by decide) ?_
    obtain rfl := Option.some.inj h
    exact r_iret C hA dX7_feed_17
end
set_option maxRecDepth 100000 in
theorem k_X7_feed {l : Launch} {g : Gm} {fu : Nat} {σ : SS} {x1 : Int32} {x2 : Int32} {x3 : Int32} {x4 : Int32} {x5 : Int32} {R : Int32 × SS} (hlt : l.stackTraces = false) (h : f_X7_feed fu σ x1 x2 x3 x4 x5 = some R) (sz : Nat) : Met l yX7_feed wsX7_feed rmX7_feed (Pw g (wX g σ) [.ref (g.2.1 0), .int x1, .int x2, .int x3, .int x4, .int x5] sz) (Qi g (va_A (wX g σ) sz) (wX g R.2) R.1) 0 0 (va_A (wX g σ) sz) :=
  ofM (own := RX7) hlt (by decide) rfl rfl (Nat.le_of_ble_eq_true rfl) (fun p e s m below meth c hsz C hA ls hl => w_X7_feed_0 C h hA hl)
abbrev rmX7_fault : Room := { frames := 0, cells := 0, slots := 0, locals := 0 }
theorem iX7_fault_X7 : ∀ x ∈ wsX70, x ∈ wsX7_fault := by decide +kernel
theorem nd_X7_fault : yX7_fault.cls = RX7 ∧ yX7_fault.cls ≠ "java/lang/invoke/MethodHandle" ∧ yX7_fault.cls ≠ "java/lang/invoke/VarHandle" ∧ (parseMethodDescriptor yX7_fault.desc).map (fun d => d.parameters.length) = some 0 := by decide +kernel
def f_X7_fault (fu : Nat) (σ : SS) : Option (Int32) :=
  some (σ.1 1)
section
variable {p : Program} {l : Launch} {e : Env} {s : State} {m : MethodId} {args : Array Value} {below : List Frame} {meth : Method} {c : Code} {g : Gm} {A : Nat → Prop} {fu : Nat} {R : Int32}
set_option maxHeartbeats 4000000 in
set_option maxRecDepth 100000 in
theorem w_X7_fault_0 {σ : SS} (C : Cx p l s m args meth c cX7_fault 1 wsX7_fault (some .int) RX7 g A) (h : f_X7_fault fu σ = some R) {H : Heap} {locs : List Loc} {ls : Array Slot} (hA : Aw g A s.heap (wX g σ) H locs) (hl : lv_has ls 1 [(0, .ref (g.2.1 0))]) : W p l e rmX7_fault s m args below meth c H locs 0 0 (MQ below (Qi g A (wX g σ) R) args s 0 0 A) (F0 m 0 ls []) := by
  have hx := C.1.1
  have hb := C.1.2.1
  unfold f_X7_fault at h
  refine lv_aload_n hx hb dX7_fault_0 rfl (lv_at hl 0 rfl) ?_
  refine Xg_X7_faultPlace (v := (σ.1 1)) C hA rfl iX7_fault_X7 (by decide +kernel) dX7_fault_1 ?_
  obtain rfl := Option.some.inj h
  exact r_iret C hA dX7_fault_4
end
set_option maxRecDepth 100000 in
theorem k_X7_fault {l : Launch} {g : Gm} {fu : Nat} {σ : SS} {R : Int32} (hlt : l.stackTraces = false) (h : f_X7_fault fu σ = some R) (sz : Nat) : Met l yX7_fault wsX7_fault rmX7_fault (Pw g (wX g σ) [.ref (g.2.1 0)] sz) (Qi g (va_A (wX g σ) sz) (wX g σ) R) 0 0 (va_A (wX g σ) sz) :=
  ofM (own := RX7) hlt (by decide) rfl rfl (Nat.le_of_ble_eq_true rfl) (fun p e s m below meth c hsz C hA ls hl => w_X7_fault_0 C h hA hl)
abbrev rmX7_force : Room := { frames := 1, cells := 0, slots := 0, locals := 23 }
theorem iX7_force_X7 : ∀ x ∈ wsX70, x ∈ wsX7_force := by decide +kernel
theorem nd_X7_force : yX7_force.cls = RX7 ∧ yX7_force.cls ≠ "java/lang/invoke/MethodHandle" ∧ yX7_force.cls ≠ "java/lang/invoke/VarHandle" ∧ (parseMethodDescriptor yX7_force.desc).map (fun d => d.parameters.length) = some 1 := by decide +kernel
def f_X7_force (fu : Nat) (σ : SS) (x1 : Int32) : Option (Int32) :=
  bnd1 (f_X2_inForce fu σ x1) (fun r1 => some r1)
section
variable {p : Program} {l : Launch} {e : Env} {s : State} {m : MethodId} {args : Array Value} {below : List Frame} {meth : Method} {c : Code} {g : Gm} {A : Nat → Prop} {fu : Nat} {R : Int32}
set_option maxHeartbeats 4000000 in
set_option maxRecDepth 100000 in
theorem w_X7_force_0 {σ : SS} {x1 : Int32} (C : Cx p l s m args meth c cX7_force 2 wsX7_force (some .int) RX7 g A) (h : f_X7_force fu σ x1 = some R) {H : Heap} {locs : List Loc} {ls : Array Slot} (hA : Aw g A s.heap (wX g σ) H locs) (hl : lv_has ls 2 [(0, .ref (g.2.1 0)), (1, .int x1)]) : W p l e rmX7_force s m args below meth c H locs 0 0 (MQ below (Qi g A (wX g σ) R) args s 0 0 A) (F0 m 0 ls []) := by
  have hx := C.1.1
  have hb := C.1.2.1
  unfold f_X7_force at h
  refine lv_aload_n hx hb dX7_force_0 rfl (lv_at hl 0 rfl) ?_
  refine Xg_X7_customs C hA iX7_force_X7 (by decide +kernel) dX7_force_1 ?_
  refine lv_iload_n hx hb dX7_force_4 rfl (lv_at hl 1 rfl) ?_
  obtain ⟨r1, hc2, h⟩ := bd1 h
  refine r_callVi (r := r1) (w1 := wX g σ) (As := [.int x1]) (rest := []) C hA hl.1 (k_X2_inForce C.2.2.2.2.2.2 hc2) (cwV 1 C.1.2.2.2.2 gX7_force_X2_inForce rfl rfl rfl nd_X2_inForce ⟨Nat.le_of_ble_eq_true rfl, Nat.le_of_ble_eq_true rfl⟩) 3 rfl rfl rfl rfl (Nat.le_of_ble_eq_true rfl) dX7_force_5 ⟨Nat.le_of_ble_eq_true rfl, Nat.le_of_ble_eq_true rfl⟩ (fun H locs hA => ?_)
  obtain rfl := Option.some.inj h
  exact r_iret C hA dX7_force_8
end
set_option maxRecDepth 100000 in
theorem k_X7_force {l : Launch} {g : Gm} {fu : Nat} {σ : SS} {x1 : Int32} {R : Int32} (hlt : l.stackTraces = false) (h : f_X7_force fu σ x1 = some R) (sz : Nat) : Met l yX7_force wsX7_force rmX7_force (Pw g (wX g σ) [.ref (g.2.1 0), .int x1] sz) (Qi g (va_A (wX g σ) sz) (wX g σ) R) 0 0 (va_A (wX g σ) sz) :=
  ofM (own := RX7) hlt (by decide) rfl rfl (Nat.le_of_ble_eq_true rfl) (fun p e s m below meth c hsz C hA ls hl => w_X7_force_0 C h hA hl)
abbrev rmX7_isIn : Room := { frames := 0, cells := 0, slots := 0, locals := 0 }
theorem nd_X7_isIn : yX7_isIn.cls ≠ "java/lang/invoke/MethodHandle" ∧ yX7_isIn.cls ≠ "java/lang/invoke/VarHandle" ∧ (parseMethodDescriptor yX7_isIn.desc).map (fun d => d.parameters.length) = some 2 := by decide +kernel
def f_X7_isIn (fu : Nat) (σ : SS) (x0 : Int32) (x1 : Int32) : Option (Int32) :=
  (if ((x0 >>> (x1 &&& 31)) &&& (1 : Int32)) = (1 : Int32) then some (1 : Int32) else some (0 : Int32))
section
variable {p : Program} {l : Launch} {e : Env} {s : State} {m : MethodId} {args : Array Value} {below : List Frame} {meth : Method} {c : Code} {g : Gm} {A : Nat → Prop} {fu : Nat} {R : Int32}
set_option maxHeartbeats 4000000 in
set_option maxRecDepth 100000 in
theorem w_X7_isIn_0 {σ : SS} {x0 : Int32} {x1 : Int32} (C : Cx p l s m args meth c cX7_isIn 2 wsX7_isIn (some .boolean) RX7 g A) (h : f_X7_isIn fu σ x0 x1 = some R) {H : Heap} {locs : List Loc} {ls : Array Slot} (hA : Aw g A s.heap (wX g σ) H locs) (hl : lv_has ls 2 [(0, .int x0), (1, .int x1)]) : W p l e rmX7_isIn s m args below meth c H locs 0 0 (MQ below (Qi g A (wX g σ) R) args s 0 0 A) (F0 m 0 ls []) := by
  have hx := C.1.1
  have hb := C.1.2.1
  unfold f_X7_isIn at h
  refine lv_iload_n hx hb dX7_isIn_0 rfl (lv_at hl 0 rfl) ?_
  refine lv_iload_n hx hb dX7_isIn_1 rfl (lv_at hl 1 rfl) ?_
  refine lv_ishr hx hb dX7_isIn_2 ?_
  refine lv_iconst (v := 1) hx hb dX7_isIn_3 (by decide) ?_
  refine lv_iand hx hb dX7_isIn_4 ?_
  refine lv_iconst (v := 1) hx hb dX7_isIn_5 (by decide) ?_
  refine lv_icmp_ne (tgt := 13) hx hb dX7_isIn_6 (by decide) (fun c1 => ?_) (fun c1 => ?_)
  · replace h := (if_neg c1).symm.trans h
    refine lv_iconst (v := 0) hx hb dX7_isIn_13 (by decide) ?_
    obtain rfl := Option.some.inj h
    exact r_zret (v := (0 : Int32)) C hA (zb (Or.inl rfl)) dX7_isIn_14
  · replace h := (if_pos c1).symm.trans h
    refine lv_iconst (v := 1) hx hb dX7_isIn_9 (by decide) ?_
    refine lv_goto (tgt := 14) hx hb dX7_isIn_10 (by decide) ?_
    obtain rfl := Option.some.inj h
    exact r_zret (v := (1 : Int32)) C hA (zb (Or.inr rfl)) dX7_isIn_14
end
set_option maxRecDepth 100000 in
theorem k_X7_isIn {l : Launch} {g : Gm} {fu : Nat} {σ : SS} {x0 : Int32} {x1 : Int32} {R : Int32} (hlt : l.stackTraces = false) (h : f_X7_isIn fu σ x0 x1 = some R) (sz : Nat) : Met l yX7_isIn wsX7_isIn rmX7_isIn (Pw g (wX g σ) [.int x0, .int x1] sz) (Qi g (va_A (wX g σ) sz) (wX g σ) R) 0 0 (va_A (wX g σ) sz) :=
  ofM (own := RX7) hlt (by decide) rfl rfl (Nat.le_of_ble_eq_true rfl) (fun p e s m below meth c hsz C hA ls hl => w_X7_isIn_0 C h hA hl)
abbrev rmX7_late : Room := { frames := 2, cells := 0, slots := 0, locals := 45 }
theorem iX7_late_X7 : ∀ x ∈ wsX70, x ∈ wsX7_late := by decide +kernel
theorem nd_X7_late : yX7_late.cls = RX7 ∧ yX7_late.cls ≠ "java/lang/invoke/MethodHandle" ∧ yX7_late.cls ≠ "java/lang/invoke/VarHandle" ∧ (parseMethodDescriptor yX7_late.desc).map (fun d => d.parameters.length) = some 1 := by decide +kernel
def f_X7_late (fu : Nat) (σ : SS) (x1 : Int32) : Option (Int32) :=
  bnd1 (f_X3_overdue fu σ x1 (σ.1 0)) (fun r1 => some r1)
section
variable {p : Program} {l : Launch} {e : Env} {s : State} {m : MethodId} {args : Array Value} {below : List Frame} {meth : Method} {c : Code} {g : Gm} {A : Nat → Prop} {fu : Nat} {R : Int32}
set_option maxHeartbeats 4000000 in
set_option maxRecDepth 100000 in
theorem w_X7_late_0 {σ : SS} {x1 : Int32} (C : Cx p l s m args meth c cX7_late 2 wsX7_late (some .int) RX7 g A) (h : f_X7_late fu σ x1 = some R) {H : Heap} {locs : List Loc} {ls : Array Slot} (hA : Aw g A s.heap (wX g σ) H locs) (hl : lv_has ls 2 [(0, .ref (g.2.1 0)), (1, .int x1)]) : W p l e rmX7_late s m args below meth c H locs 0 0 (MQ below (Qi g A (wX g σ) R) args s 0 0 A) (F0 m 0 ls []) := by
  have hx := C.1.1
  have hb := C.1.2.1
  unfold f_X7_late at h
  refine lv_aload_n hx hb dX7_late_0 rfl (lv_at hl 0 rfl) ?_
  refine Xg_X7_debts C hA iX7_late_X7 (by decide +kernel) dX7_late_1 ?_
  refine lv_iload_n hx hb dX7_late_4 rfl (lv_at hl 1 rfl) ?_
  refine lv_aload_n hx hb dX7_late_5 rfl (lv_at hl 0 rfl) ?_
  refine Xg_X7_now (v := (σ.1 0)) C hA rfl iX7_late_X7 (by decide +kernel) dX7_late_6 ?_
  obtain ⟨r1, hc2, h⟩ := bd1 h
  refine r_callVi (r := r1) (w1 := wX g σ) (As := [.int x1, .int (σ.1 0)]) (rest := []) C hA hl.1 (k_X3_overdue C.2.2.2.2.2.2 hc2) (cwV 2 C.1.2.2.2.2 gX7_late_X3_overdue rfl rfl rfl nd_X3_overdue ⟨Nat.le_of_ble_eq_true rfl, Nat.le_of_ble_eq_true rfl⟩) 5 rfl rfl rfl rfl (Nat.le_of_ble_eq_true rfl) dX7_late_9 ⟨Nat.le_of_ble_eq_true rfl, Nat.le_of_ble_eq_true rfl⟩ (fun H locs hA => ?_)
  obtain rfl := Option.some.inj h
  exact r_iret C hA dX7_late_12
end
set_option maxRecDepth 100000 in
theorem k_X7_late {l : Launch} {g : Gm} {fu : Nat} {σ : SS} {x1 : Int32} {R : Int32} (hlt : l.stackTraces = false) (h : f_X7_late fu σ x1 = some R) (sz : Nat) : Met l yX7_late wsX7_late rmX7_late (Pw g (wX g σ) [.ref (g.2.1 0), .int x1] sz) (Qi g (va_A (wX g σ) sz) (wX g σ) R) 0 0 (va_A (wX g σ) sz) :=
  ofM (own := RX7) hlt (by decide) rfl rfl (Nat.le_of_ble_eq_true rfl) (fun p e s m below meth c hsz C hA ls hl => w_X7_late_0 C h hA hl)
abbrev rmX7_count : Room := { frames := 1, cells := 0, slots := 0, locals := 22 }
theorem iX7_count_X0 : ∀ x ∈ wsX00, x ∈ wsX7_count := by decide +kernel
theorem iX7_count_X1 : ∀ x ∈ wsX10, x ∈ wsX7_count := by decide +kernel
theorem iX7_count_X2 : ∀ x ∈ wsX20, x ∈ wsX7_count := by decide +kernel
theorem iX7_count_X3 : ∀ x ∈ wsX30, x ∈ wsX7_count := by decide +kernel
theorem iX7_count_X5 : ∀ x ∈ wsX50, x ∈ wsX7_count := by decide +kernel
theorem iX7_count_X7 : ∀ x ∈ wsX70, x ∈ wsX7_count := by decide +kernel
theorem nd_X7_count : yX7_count.cls = RX7 ∧ yX7_count.cls ≠ "java/lang/invoke/MethodHandle" ∧ yX7_count.cls ≠ "java/lang/invoke/VarHandle" ∧ (parseMethodDescriptor yX7_count.desc).map (fun d => d.parameters.length) = some 1 := by decide +kernel
def f_X7_count (fu : Nat) (σ : SS) (x1 : Int32) : Option (Int32) :=
  (if x1 = 0 then some (σ.1 14) else (if x1 = 1 then some (σ.1 13) else (if x1 = 2 then some (σ.1 15) else (if x1 = 3 then bnd1 (f_X3_open fu σ) (fun r1 => some r1) else (if x1 = 4 then some (σ.1 16) else (if x1 = 5 then some (σ.1 0) else (if x1 = 6 then some (σ.1 2) else some (-1))))))))
section
variable {p : Program} {l : Launch} {e : Env} {s : State} {m : MethodId} {args : Array Value} {below : List Frame} {meth : Method} {c : Code} {g : Gm} {A : Nat → Prop} {fu : Nat} {R : Int32}
set_option maxHeartbeats 4000000 in
set_option maxRecDepth 100000 in
theorem w_X7_count_0 {σ : SS} {x1 : Int32} (C : Cx p l s m args meth c cX7_count 2 wsX7_count (some .int) RX7 g A) (h : f_X7_count fu σ x1 = some R) {H : Heap} {locs : List Loc} {ls : Array Slot} (hA : Aw g A s.heap (wX g σ) H locs) (hl : lv_has ls 2 [(0, .ref (g.2.1 0)), (1, .int x1)]) : W p l e rmX7_count s m args below meth c H locs 0 0 (MQ below (Qi g A (wX g σ) R) args s 0 0 A) (F0 m 0 ls []) := by
  have hx := C.1.1
  have hb := C.1.2.1
  unfold f_X7_count at h
  refine lv_iload_n hx hb dX7_count_0 rfl (lv_at hl 1 rfl) ?_
  by_cases sw0 : x1 = 0
  · replace h := (if_pos sw0).symm.trans h
    rw [sw0]
    refine lv_tableIn (tgt := 44) hx hb dX7_count_1 (by decide) (by decide) rfl (by decide) ?_
    refine lv_aload_n hx hb dX7_count_44 rfl (lv_at hl 0 rfl) ?_
    refine Xg_X7_chiefs C hA iX7_count_X7 (by decide +kernel) dX7_count_45 ?_
    refine Xg_X0_size (v := (σ.1 14)) C hA rfl iX7_count_X0 (by decide +kernel) dX7_count_48 ?_
    obtain rfl := Option.some.inj h
    exact r_iret C hA dX7_count_51
  · replace h := (if_neg sw0).symm.trans h
    by_cases sw1 : x1 = 1
    · replace h := (if_pos sw1).symm.trans h
      rw [sw1]
      refine lv_tableIn (tgt := 52) hx hb dX7_count_1 (by decide) (by decide) rfl (by decide) ?_
      refine lv_aload_n hx hb dX7_count_52 rfl (lv_at hl 0 rfl) ?_
      refine Xg_X7_customs C hA iX7_count_X7 (by decide +kernel) dX7_count_53 ?_
      refine Xg_X2_size (v := (σ.1 13)) C hA rfl iX7_count_X2 (by decide +kernel) dX7_count_56 ?_
      obtain rfl := Option.some.inj h
      exact r_iret C hA dX7_count_59
    · replace h := (if_neg sw1).symm.trans h
      by_cases sw2 : x1 = 2
      · replace h := (if_pos sw2).symm.trans h
        rw [sw2]
        refine lv_tableIn (tgt := 60) hx hb dX7_count_1 (by decide) (by decide) rfl (by decide) ?_
        refine lv_aload_n hx hb dX7_count_60 rfl (lv_at hl 0 rfl) ?_
        refine Xg_X7_debts C hA iX7_count_X7 (by decide +kernel) dX7_count_61 ?_
        refine Xg_X3_size (v := (σ.1 15)) C hA rfl iX7_count_X3 (by decide +kernel) dX7_count_64 ?_
        obtain rfl := Option.some.inj h
        exact r_iret C hA dX7_count_67
      · replace h := (if_neg sw2).symm.trans h
        by_cases sw3 : x1 = 3
        · replace h := (if_pos sw3).symm.trans h
          rw [sw3]
          refine lv_tableIn (tgt := 68) hx hb dX7_count_1 (by decide) (by decide) rfl (by decide) ?_
          refine lv_aload_n hx hb dX7_count_68 rfl (lv_at hl 0 rfl) ?_
          refine Xg_X7_debts C hA iX7_count_X7 (by decide +kernel) dX7_count_69 ?_
          obtain ⟨r1, hc2, h⟩ := bd1 h
          refine r_callVi (r := r1) (w1 := wX g σ) (As := []) (rest := []) C hA hl.1 (k_X3_open C.2.2.2.2.2.2 hc2) (cwV 0 C.1.2.2.2.2 gX7_count_X3_open rfl rfl rfl nd_X3_open ⟨Nat.le_of_ble_eq_true rfl, Nat.le_of_ble_eq_true rfl⟩) 5 rfl rfl rfl rfl (Nat.le_of_ble_eq_true rfl) dX7_count_72 ⟨Nat.le_of_ble_eq_true rfl, Nat.le_of_ble_eq_true rfl⟩ (fun H locs hA => ?_)
          obtain rfl := Option.some.inj h
          exact r_iret C hA dX7_count_75
        · replace h := (if_neg sw3).symm.trans h
          by_cases sw4 : x1 = 4
          · replace h := (if_pos sw4).symm.trans h
            rw [sw4]
            refine lv_tableIn (tgt := 76) hx hb dX7_count_1 (by decide) (by decide) rfl (by decide) ?_
            refine lv_aload_n hx hb dX7_count_76 rfl (lv_at hl 0 rfl) ?_
            refine Xg_X7_coppers C hA iX7_count_X7 (by decide +kernel) dX7_count_77 ?_
            refine Xg_X1_size (v := (σ.1 16)) C hA rfl iX7_count_X1 (by decide +kernel) dX7_count_80 ?_
            obtain rfl := Option.some.inj h
            exact r_iret C hA dX7_count_83
          · replace h := (if_neg sw4).symm.trans h
            by_cases sw5 : x1 = 5
            · replace h := (if_pos sw5).symm.trans h
              rw [sw5]
              refine lv_tableIn (tgt := 84) hx hb dX7_count_1 (by decide) (by decide) rfl (by decide) ?_
              refine lv_aload_n hx hb dX7_count_84 rfl (lv_at hl 0 rfl) ?_
              refine Xg_X7_now (v := (σ.1 0)) C hA rfl iX7_count_X7 (by decide +kernel) dX7_count_85 ?_
              obtain rfl := Option.some.inj h
              exact r_iret C hA dX7_count_88
            · replace h := (if_neg sw5).symm.trans h
              by_cases sw6 : x1 = 6
              · replace h := (if_pos sw6).symm.trans h
                rw [sw6]
                refine lv_tableIn (tgt := 89) hx hb dX7_count_1 (by decide) (by decide) rfl (by decide) ?_
                refine lv_aload_n hx hb dX7_count_89 rfl (lv_at hl 0 rfl) ?_
                refine Xg_X7_tape C hA iX7_count_X7 (by decide +kernel) dX7_count_90 ?_
                refine Xg_X5_length (v := (σ.1 2)) C hA rfl iX7_count_X5 (by decide +kernel) dX7_count_93 ?_
                obtain rfl := Option.some.inj h
                exact r_iret C hA dX7_count_96
              · replace h := (if_neg sw6).symm.trans h
                refine lv_tableOut (tgt := 97) hx hb dX7_count_1 (sw_out6 sw0 sw1 sw2 sw3 sw4 sw5 sw6) (by decide) ?_
                refine lv_iconst (v := (-1)) hx hb dX7_count_97 (by decide) ?_
                obtain rfl := Option.some.inj h
                exact r_iret C hA dX7_count_98
end
set_option maxRecDepth 100000 in
theorem k_X7_count {l : Launch} {g : Gm} {fu : Nat} {σ : SS} {x1 : Int32} {R : Int32} (hlt : l.stackTraces = false) (h : f_X7_count fu σ x1 = some R) (sz : Nat) : Met l yX7_count wsX7_count rmX7_count (Pw g (wX g σ) [.ref (g.2.1 0), .int x1] sz) (Qi g (va_A (wX g σ) sz) (wX g σ) R) 0 0 (va_A (wX g σ) sz) :=
  ofM (own := RX7) hlt (by decide) rfl rfl (Nat.le_of_ble_eq_true rfl) (fun p e s m below meth c hsz C hA ls hl => w_X7_count_0 C h hA hl)
abbrev rmX7_debtsMadeBy : Room := { frames := 2, cells := 0, slots := 0, locals := 56 }
theorem iX7_debtsMadeBy_X7 : ∀ x ∈ wsX70, x ∈ wsX7_debtsMadeBy := by decide +kernel
theorem nd_X7_debtsMadeBy : yX7_debtsMadeBy.cls = RX7 ∧ yX7_debtsMadeBy.cls ≠ "java/lang/invoke/MethodHandle" ∧ yX7_debtsMadeBy.cls ≠ "java/lang/invoke/VarHandle" ∧ (parseMethodDescriptor yX7_debtsMadeBy.desc).map (fun d => d.parameters.length) = some 3 := by decide +kernel
def f_X7_debtsMadeBy (fu : Nat) (σ : SS) (x1 : Int32) (x2 : Int32) (x3 : Int32) : Option (Int32) :=
  bnd1 (f_X3_owed fu σ x1 x2) (fun r1 => bnd1 (f_X2_inForce fu σ (σ.1 0)) (fun r3 => bnd1 (f_X2_askedFor fu σ r3 ((x3).toInt64 - (if r1 < (x3).toInt64 then r1 else (x3).toInt64))) (fun r5 => (if r5 ≤ 0 then some (0 : Int32) else some (1 : Int32)))))
section
variable {p : Program} {l : Launch} {e : Env} {s : State} {m : MethodId} {args : Array Value} {below : List Frame} {meth : Method} {c : Code} {g : Gm} {A : Nat → Prop} {fu : Nat} {R : Int32}
set_option maxHeartbeats 4000000 in
set_option maxRecDepth 100000 in
theorem w_X7_debtsMadeBy_0 {σ : SS} {x1 : Int32} {x2 : Int32} {x3 : Int32} (C : Cx p l s m args meth c cX7_debtsMadeBy 6 wsX7_debtsMadeBy (some .int) RX7 g A) (h : f_X7_debtsMadeBy fu σ x1 x2 x3 = some R) {H : Heap} {locs : List Loc} {ls : Array Slot} (hA : Aw g A s.heap (wX g σ) H locs) (hl : lv_has ls 6 [(0, .ref (g.2.1 0)), (1, .int x1), (2, .int x2), (3, .int x3)]) : W p l e rmX7_debtsMadeBy s m args below meth c H locs 0 0 (MQ below (Qi g A (wX g σ) R) args s 0 0 A) (F0 m 0 ls []) := by
  have hx := C.1.1
  have hb := C.1.2.1
  unfold f_X7_debtsMadeBy at h
  refine lv_iload_n hx hb dX7_debtsMadeBy_0 rfl (lv_at hl 3 rfl) ?_
  refine lv_i2l hx hb dX7_debtsMadeBy_1 rfl ?_
  refine lv_iload_n hx hb dX7_debtsMadeBy_2 rfl (lv_at hl 3 rfl) ?_
  refine lv_i2l hx hb dX7_debtsMadeBy_3 rfl ?_
  refine lv_aload_n hx hb dX7_debtsMadeBy_4 rfl (lv_at hl 0 rfl) ?_
  refine Xg_X7_debts C hA iX7_debtsMadeBy_X7 (by decide +kernel) dX7_debtsMadeBy_5 ?_
  refine lv_iload_n hx hb dX7_debtsMadeBy_8 rfl (lv_at hl 1 rfl) ?_
  refine lv_iload_n hx hb dX7_debtsMadeBy_9 rfl (lv_at hl 2 rfl) ?_
  obtain ⟨r1, hc2, h⟩ := bd1 h
  refine r_callVl (r := r1) (w1 := wX g σ) (As := [.int x1, .int x2]) (rest := [.long (x3).toInt64, .long (x3).toInt64]) C hA hl.1 (k_X3_owed C.2.2.2.2.2.2 hc2) (cwV 2 C.1.2.2.2.2 gX7_debtsMadeBy_X3_owed rfl rfl rfl nd_X3_owed ⟨Nat.le_of_ble_eq_true rfl, Nat.le_of_ble_eq_true rfl⟩) 5 rfl rfl rfl rfl (Nat.le_of_ble_eq_true rfl) dX7_debtsMadeBy_10 ⟨Nat.le_of_ble_eq_true rfl, Nat.le_of_ble_eq_true rfl⟩ (fun H locs hA => ?_)
  refine va_mmin_long (rest := [.long (x3).toInt64]) hx hb (C.1.2.2.1.trans hl.1.symm) C.1.2.2.2.1 (C.1.2.2.2.2 (.methodLink RX7 275 Lib.MathLoose.min_long.x) (by decide +kernel)) (C.1.2.2.2.2 (.static Lib.MathLoose.min_long.x) (by decide +kernel)) (C.1.2.2.2.2 (.initialized "java/lang/Math") (by decide +kernel)) (C.1.2.2.2.2 (.code Lib.MathLoose.min_long.x Lib.MathLoose.min_long.code 4 (some .long)) (by decide +kernel)) (Nat.le_of_ble_eq_true rfl) (Nat.le_of_ble_eq_true rfl) (Nat.le_of_ble_eq_true rfl) (Nat.le_of_ble_eq_true rfl) dX7_debtsMadeBy_13 ?_
  refine lv_lsub hx hb dX7_debtsMadeBy_16 ?_
  refine lv_lstore (lv' := [(4, .long ((x3).toInt64 - (if r1 < (x3).toInt64 then r1 else (x3).toInt64))), (0, .ref (g.2.1 0)), (1, .int x1), (2, .int x2), (3, .int x3)]) hx hb dX7_debtsMadeBy_17 hl (by decide) rfl (fun ls hl => ?_)
  refine lv_aload_n hx hb dX7_debtsMadeBy_19 rfl (lv_at hl 1 rfl) ?_
  refine Xg_X7_customs C hA iX7_debtsMadeBy_X7 (by decide +kernel) dX7_debtsMadeBy_20 ?_
  refine lv_aload_n hx hb dX7_debtsMadeBy_23 rfl (lv_at hl 1 rfl) ?_
  refine Xg_X7_customs C hA iX7_debtsMadeBy_X7 (by decide +kernel) dX7_debtsMadeBy_24 ?_
  refine lv_aload_n hx hb dX7_debtsMadeBy_27 rfl (lv_at hl 1 rfl) ?_
  refine Xg_X7_now (v := (σ.1 0)) C hA rfl iX7_debtsMadeBy_X7 (by decide +kernel) dX7_debtsMadeBy_28 ?_
  obtain ⟨r3, hc4, h⟩ := bd1 h
  refine r_callVi (r := r3) (w1 := wX g σ) (As := [.int (σ.1 0)]) (rest := [.ref (g.2.1 3)]) C hA hl.1 (k_X2_inForce C.2.2.2.2.2.2 hc4) (cwV 1 C.1.2.2.2.2 gX7_debtsMadeBy_X2_inForce rfl rfl rfl nd_X2_inForce ⟨Nat.le_of_ble_eq_true rfl, Nat.le_of_ble_eq_true rfl⟩) 3 rfl rfl rfl rfl (Nat.le_of_ble_eq_true rfl) dX7_debtsMadeBy_31 ⟨Nat.le_of_ble_eq_true rfl, Nat.le_of_ble_eq_true rfl⟩ (fun H locs hA => ?_)
  refine lv_lload hx hb dX7_debtsMadeBy_34 (lv_at hl 0 rfl) ?_
  obtain ⟨r5, hc6, h⟩ := bd1 h
  refine r_callVi (r := r5) (w1 := wX g σ) (As := [.int r3, .long ((x3).toInt64 - (if r1 < (x3).toInt64 then r1 else (x3).toInt64))]) (rest := []) C hA hl.1 (k_X2_askedFor C.2.2.2.2.2.2 hc6) (cwV 2 C.1.2.2.2.2 gX7_debtsMadeBy_X2_askedFor rfl rfl rfl nd_X2_askedFor ⟨Nat.le_of_ble_eq_true rfl, Nat.le_of_ble_eq_true rfl⟩) 3 rfl rfl rfl rfl (Nat.le_of_ble_eq_true rfl) dX7_debtsMadeBy_36 ⟨Nat.le_of_ble_eq_true rfl, Nat.le_of_ble_eq_true rfl⟩ (fun H locs hA => ?_)
  refine lv_if_le (tgt := 46) hx hb dX7_debtsMadeBy_39 (by decide) (fun c7 => ?_) (fun c7 => ?_)
  · replace h := (if_pos c7).symm.trans h
    refine lv_iconst (v := 0) hx hb dX7_debtsMadeBy_46 (by decide) ?_
    obtain rfl := Option.some.inj h
    exact r_iret C hA dX7_debtsMadeBy_47
  · replace h := (if_neg c7).symm.trans h
    refine lv_iconst (v := 1) hx hb dX7_debtsMadeBy_42 (by decide) ?_
    refine lv_goto (tgt := 47) hx hb dX7_debtsMadeBy_43 (by decide) ?_
    obtain rfl := Option.some.inj h
    exact r_iret C hA dX7_debtsMadeBy_47
end
set_option maxRecDepth 100000 in
theorem k_X7_debtsMadeBy {l : Launch} {g : Gm} {fu : Nat} {σ : SS} {x1 : Int32} {x2 : Int32} {x3 : Int32} {R : Int32} (hlt : l.stackTraces = false) (h : f_X7_debtsMadeBy fu σ x1 x2 x3 = some R) (sz : Nat) : Met l yX7_debtsMadeBy wsX7_debtsMadeBy rmX7_debtsMadeBy (Pw g (wX g σ) [.ref (g.2.1 0), .int x1, .int x2, .int x3] sz) (Qi g (va_A (wX g σ) sz) (wX g σ) R) 0 0 (va_A (wX g σ) sz) :=
  ofM (own := RX7) hlt (by decide) rfl rfl (Nat.le_of_ble_eq_true rfl) (fun p e s m below meth c hsz C hA ls hl => w_X7_debtsMadeBy_0 C h hA hl)
abbrev rmX7_debtsMadeByFeast : Room := { frames := 3, cells := 0, slots := 0, locals := 81 }
theorem iX7_debtsMadeByFeast_X0 : ∀ x ∈ wsX00, x ∈ wsX7_debtsMadeByFeast := by decide +kernel
theorem iX7_debtsMadeByFeast_X7 : ∀ x ∈ wsX70, x ∈ wsX7_debtsMadeByFeast := by decide +kernel
theorem nd_X7_debtsMadeByFeast : yX7_debtsMadeByFeast.cls = RX7 ∧ yX7_debtsMadeByFeast.cls ≠ "java/lang/invoke/MethodHandle" ∧ yX7_debtsMadeByFeast.cls ≠ "java/lang/invoke/VarHandle" ∧ (parseMethodDescriptor yX7_debtsMadeByFeast.desc).map (fun d => d.parameters.length) = some 3 := by decide +kernel
def f_X7_debtsMadeByFeast_40 (fu : Nat) (k6 : SS → (Int32 × Int32 × Int32 × Int32 × Int32) → Option (Int32)) (σ : SS) (x1 : Int32) (x2 : Int32) (x3 : Int32) (x4 : Int32) (x5 : Int32) : Option (Int32) :=
  k6 σ (x1, x2, x3, x4, (x5 + 1))
def f_X7_debtsMadeByFeast_6 (fu : Nat) (k6 : SS → (Int32 × Int32 × Int32 × Int32 × Int32) → Option (Int32)) (σ : SS) (x1 : Int32) (x2 : Int32) (x3 : Int32) (x4 : Int32) (x5 : Int32) : Option (Int32) :=
  (if (σ.1 14) ≤ x5 then some x4 else bnd1 (f_X7_isIn fu σ x2 x5) (fun r2 => (if r2 = 0 then f_X7_debtsMadeByFeast_40 fu k6 σ x1 x2 x3 x4 x5 else bnd1 (f_X7_debtsMadeBy fu σ x1 x5 x3) (fun r5 => f_X7_debtsMadeByFeast_40 fu k6 σ x1 x2 x3 (x4 + r5) x5))))
def f_X7_debtsMadeByFeast_L6 (fu : Nat) : SS → (Int32 × Int32 × Int32 × Int32 × Int32) → Option (Int32) := loopN (fun k6 σ x => f_X7_debtsMadeByFeast_6 fu k6 σ x.1 x.2.1 x.2.2.1 x.2.2.2.1 x.2.2.2.2) fu
def f_X7_debtsMadeByFeast (fu : Nat) (σ : SS) (x1 : Int32) (x2 : Int32) (x3 : Int32) : Option (Int32) :=
  f_X7_debtsMadeByFeast_L6 fu σ (x1, x2, x3, (0 : Int32), (0 : Int32))
section
variable {p : Program} {l : Launch} {e : Env} {s : State} {m : MethodId} {args : Array Value} {below : List Frame} {meth : Method} {c : Code} {g : Gm} {A : Nat → Prop} {fu : Nat} {R : Int32}
set_option maxHeartbeats 4000000 in
set_option maxRecDepth 100000 in
theorem w_X7_debtsMadeByFeast_40 {σ : SS} {x1 : Int32} {x2 : Int32} {x3 : Int32} {x4 : Int32} {x5 : Int32} (C : Cx p l s m args meth c cX7_debtsMadeByFeast 6 wsX7_debtsMadeByFeast (some .int) RX7 g A) {k6 : SS → (Int32 × Int32 × Int32 × Int32 × Int32) → Option (Int32)} (hk6 : ∀ (σ1 : SS) (x : Int32 × Int32 × Int32 × Int32 × Int32), σ1 = σ → k6 σ1 x = some R → ∀ (H : Heap) (locs : List Loc) (ls : Array Slot), Aw g A s.heap (wX g σ) H locs → lv_has ls 6 [(0, .ref (g.2.1 0)), (1, .int x.1), (2, .int x.2.1), (3, .int x.2.2.1), (4, .int x.2.2.2.1), (5, .int x.2.2.2.2)] → W p l e rmX7_debtsMadeByFeast s m args below meth c H locs 0 0 (MQ below (Qi g A (wX g σ) R) args s 0 0 A) (F0 m 6 ls [])) (h : f_X7_debtsMadeByFeast_40 fu k6 σ x1 x2 x3 x4 x5 = some R) {H : Heap} {locs : List Loc} {ls : Array Slot} (hA : Aw g A s.heap (wX g σ) H locs) (hl : lv_has ls 6 [(0, .ref (g.2.1 0)), (1, .int x1), (2, .int x2), (3, .int x3), (4, .int x4), (5, .int x5)]) : W p l e rmX7_debtsMadeByFeast s m args below meth c H locs 0 0 (MQ below (Qi g A (wX g σ) R) args s 0 0 A) (F0 m 40 ls []) := by
  have hx := C.1.1
  have hb := C.1.2.1
  unfold f_X7_debtsMadeByFeast_40 at h
  refine lv_iinc (v := (x5 + 1)) (lv' := [(5, .int (x5 + 1)), (0, .ref (g.2.1 0)), (1, .int x1), (2, .int x2), (3, .int x3), (4, .int x4)]) hx hb dX7_debtsMadeByFeast_40 hl (k := 5) rfl rfl (by decide) rfl (fun ls hl => ?_)
  refine lv_goto (tgt := 6) hx hb dX7_debtsMadeByFeast_43 (by decide) ?_
  exact hk6 _ _ rfl h _ _ _ hA (lv_sub hl [1, 2, 3, 4, 5, 0] rfl)
set_option maxHeartbeats 4000000 in
set_option maxRecDepth 100000 in
theorem w_X7_debtsMadeByFeast_6 {σ : SS} {x1 : Int32} {x2 : Int32} {x3 : Int32} {x4 : Int32} {x5 : Int32} (C : Cx p l s m args meth c cX7_debtsMadeByFeast 6 wsX7_debtsMadeByFeast (some .int) RX7 g A) {k6 : SS → (Int32 × Int32 × Int32 × Int32 × Int32) → Option (Int32)} (hk6 : ∀ (σ1 : SS) (x : Int32 × Int32 × Int32 × Int32 × Int32), σ1 = σ → k6 σ1 x = some R → ∀ (H : Heap) (locs : List Loc) (ls : Array Slot), Aw g A s.heap (wX g σ) H locs → lv_has ls 6 [(0, .ref (g.2.1 0)), (1, .int x.1), (2, .int x.2.1), (3, .int x.2.2.1), (4, .int x.2.2.2.1), (5, .int x.2.2.2.2)] → W p l e rmX7_debtsMadeByFeast s m args below meth c H locs 0 0 (MQ below (Qi g A (wX g σ) R) args s 0 0 A) (F0 m 6 ls [])) (h : f_X7_debtsMadeByFeast_6 fu k6 σ x1 x2 x3 x4 x5 = some R) {H : Heap} {locs : List Loc} {ls : Array Slot} (hA : Aw g A s.heap (wX g σ) H locs) (hl : lv_has ls 6 [(0, .ref (g.2.1 0)), (1, .int x1), (2, .int x2), (3, .int x3), (4, .int x4), (5, .int x5)]) : W p l e rmX7_debtsMadeByFeast s m args below meth c H locs 0 0 (MQ below (Qi g A (wX g σ) R) args s 0 0 A) (F0 m 6 ls []) := by
  have hx := C.1.1
  have hb := C.1.2.1
  unfold f_X7_debtsMadeByFeast_6 at h
  refine lv_iload hx hb dX7_debtsMadeByFeast_6 (lv_at hl 5 rfl) ?_
  refine lv_aload_n hx hb dX7_debtsMadeByFeast_8 rfl (lv_at hl 0 rfl) ?_
  refine Xg_X7_chiefs C hA iX7_debtsMadeByFeast_X7 (by decide +kernel) dX7_debtsMadeByFeast_9 ?_
  refine Xg_X0_size (v := (σ.1 14)) C hA rfl iX7_debtsMadeByFeast_X0 (by decide +kernel) dX7_debtsMadeByFeast_12 ?_
  refine lv_icmp_ge (tgt := 46) hx hb dX7_debtsMadeByFeast_15 (by decide) (fun c1 => ?_) (fun c1 => ?_)
  · replace h := (if_pos c1).symm.trans h
    refine lv_iload hx hb dX7_debtsMadeByFeast_46 (lv_at hl 4 rfl) ?_
    obtain rfl := Option.some.inj h
    exact r_iret C hA dX7_debtsMadeByFeast_48
  · replace h := (if_neg c1).symm.trans h
    refine lv_iload_n hx hb dX7_debtsMadeByFeast_18 rfl (lv_at hl 2 rfl) ?_
    refine lv_iload hx hb dX7_debtsMadeByFeast_19 (lv_at hl 5 rfl) ?_
    obtain ⟨r2, hc3, h⟩ := bd1 h
    refine r_callSi (r := r2) (w1 := wX g σ) (As := [.int x2, .int x5]) (rest := []) C hA hl.1 (k_X7_isIn (g := g) C.2.2.2.2.2.2 hc3) (va_cwS 2 C.1.2.2.2.2 gX7_debtsMadeByFeast_X7_isIn rfl rfl rfl nd_X7_isIn ⟨Nat.le_of_ble_eq_true rfl, Nat.le_of_ble_eq_true rfl⟩) rfl rfl (Nat.le_of_ble_eq_true rfl) dX7_debtsMadeByFeast_21 ⟨Nat.le_of_ble_eq_true rfl, Nat.le_of_ble_eq_true rfl⟩ (fun H locs hA => ?_)
    refine lv_if_eq (tgt := 40) hx hb dX7_debtsMadeByFeast_24 (by decide) (fun c4 => ?_) (fun c4 => ?_)
    · replace h := (if_pos c4).symm.trans h
      exact w_X7_debtsMadeByFeast_40 C hk6 h hA (lv_sub hl [0, 1, 2, 3, 4, 5] rfl)
    · replace h := (if_neg c4).symm.trans h
      refine lv_iload hx hb dX7_debtsMadeByFeast_27 (lv_at hl 4 rfl) ?_
      refine lv_aload_n hx hb dX7_debtsMadeByFeast_29 rfl (lv_at hl 0 rfl) ?_
      refine lv_iload_n hx hb dX7_debtsMadeByFeast_30 rfl (lv_at hl 1 rfl) ?_
      refine lv_iload hx hb dX7_debtsMadeByFeast_31 (lv_at hl 5 rfl) ?_
      refine lv_iload_n hx hb dX7_debtsMadeByFeast_33 rfl (lv_at hl 3 rfl) ?_
      obtain ⟨r5, hc6, h⟩ := bd1 h
      refine r_callVi (r := r5) (w1 := wX g σ) (As := [.int x1, .int x5, .int x3]) (rest := [.int x4]) C hA hl.1 (k_X7_debtsMadeBy C.2.2.2.2.2.2 hc6) (cwV 3 C.1.2.2.2.2 gX7_debtsMadeByFeast_X7_debtsMadeBy rfl rfl rfl nd_X7_debtsMadeBy ⟨Nat.le_of_ble_eq_true rfl, Nat.le_of_ble_eq_true rfl⟩) 0 rfl rfl rfl rfl (Nat.le_of_ble_eq_true rfl) dX7_debtsMadeByFeast_34 ⟨Nat.le_of_ble_eq_true rfl, Nat.le_of_ble_eq_true rfl⟩ (fun H locs hA => ?_)
      refine lv_iadd hx hb dX7_debtsMadeByFeast_37 ?_
      refine lv_istore (lv' := [(4, .int (x4 + r5)), (0, .ref (g.2.1 0)), (1, .int x1), (2, .int x2), (3, .int x3), (5, .int x5)]) hx hb dX7_debtsMadeByFeast_38 hl (by decide) rfl (fun ls hl => ?_)
      exact w_X7_debtsMadeByFeast_40 C hk6 h hA (lv_sub hl [1, 2, 3, 4, 0, 5] rfl)
set_option maxHeartbeats 4000000 in
theorem w_X7_debtsMadeByFeast_L6 {σ : SS} {x : Int32 × Int32 × Int32 × Int32 × Int32} (C : Cx p l s m args meth c cX7_debtsMadeByFeast 6 wsX7_debtsMadeByFeast (some .int) RX7 g A) (h : f_X7_debtsMadeByFeast_L6 fu σ x = some R) {H : Heap} {locs : List Loc} {ls : Array Slot} (hA : Aw g A s.heap (wX g σ) H locs) (hl : lv_has ls 6 [(0, .ref (g.2.1 0)), (1, .int x.1), (2, .int x.2.1), (3, .int x.2.2.1), (4, .int x.2.2.2.1), (5, .int x.2.2.2.2)]) : W p l e rmX7_debtsMadeByFeast s m args below meth c H locs 0 0 (MQ below (Qi g A (wX g σ) R) args s 0 0 A) (F0 m 6 ls []) := by
  refine loopW (P := fun σ1 x => σ1 = σ → ∀ (H : Heap) (locs : List Loc) (ls : Array Slot), Aw g A s.heap (wX g σ) H locs → lv_has ls 6 [(0, .ref (g.2.1 0)), (1, .int x.1), (2, .int x.2.1), (3, .int x.2.2.1), (4, .int x.2.2.2.1), (5, .int x.2.2.2.2)] → W p l e rmX7_debtsMadeByFeast s m args below meth c H locs 0 0 (MQ below (Qi g A (wX g σ) R) args s 0 0 A) (F0 m 6 ls [])) (fun k hk σ1 x h9 e1 H locs ls hA9 hl9 => ?_) fu σ x h rfl H locs ls hA hl
  subst e1
  exact w_X7_debtsMadeByFeast_6 C (fun σ2 x e2 h2 => hk σ2 x h2 e2) h9 hA9 hl9
set_option maxHeartbeats 4000000 in
set_option maxRecDepth 100000 in
theorem w_X7_debtsMadeByFeast_0 {σ : SS} {x1 : Int32} {x2 : Int32} {x3 : Int32} (C : Cx p l s m args meth c cX7_debtsMadeByFeast 6 wsX7_debtsMadeByFeast (some .int) RX7 g A) (h : f_X7_debtsMadeByFeast fu σ x1 x2 x3 = some R) {H : Heap} {locs : List Loc} {ls : Array Slot} (hA : Aw g A s.heap (wX g σ) H locs) (hl : lv_has ls 6 [(0, .ref (g.2.1 0)), (1, .int x1), (2, .int x2), (3, .int x3)]) : W p l e rmX7_debtsMadeByFeast s m args below meth c H locs 0 0 (MQ below (Qi g A (wX g σ) R) args s 0 0 A) (F0 m 0 ls []) := by
  have hx := C.1.1
  have hb := C.1.2.1
  unfold f_X7_debtsMadeByFeast at h
  refine lv_iconst (v := 0) hx hb dX7_debtsMadeByFeast_0 (by decide) ?_
  refine lv_istore (lv' := [(4, .int (0 : Int32)), (0, .ref (g.2.1 0)), (1, .int x1), (2, .int x2), (3, .int x3)]) hx hb dX7_debtsMadeByFeast_1 hl (by decide) rfl (fun ls hl => ?_)
  refine lv_iconst (v := 0) hx hb dX7_debtsMadeByFeast_3 (by decide) ?_
  refine lv_istore (lv' := [(5, .int (0 : Int32)), (4, .int (0 : Int32)), (0, .ref (g.2.1 0)), (1, .int x1), (2, .int x2), (3, .int x3)]) hx hb dX7_debtsMadeByFeast_4 hl (by decide) rfl (fun ls hl => ?_)
  exact w_X7_debtsMadeByFeast_L6 C h hA (lv_sub hl [2, 3, 4, 5, 1, 0] rfl)
end
set_option maxRecDepth 100000 in
theorem k_X7_debtsMadeByFeast {l : Launch} {g : Gm} {fu : Nat} {σ : SS} {x1 : Int32} {x2 : Int32} {x3 : Int32} {R : Int32} (hlt : l.stackTraces = false) (h : f_X7_debtsMadeByFeast fu σ x1 x2 x3 = some R) (sz : Nat) : Met l yX7_debtsMadeByFeast wsX7_debtsMadeByFeast rmX7_debtsMadeByFeast (Pw g (wX g σ) [.ref (g.2.1 0), .int x1, .int x2, .int x3] sz) (Qi g (va_A (wX g σ) sz) (wX g σ) R) 0 0 (va_A (wX g σ) sz) :=
  ofM (own := RX7) hlt (by decide) rfl rfl (Nat.le_of_ble_eq_true rfl) (fun p e s m below meth c hsz C hA ls hl => w_X7_debtsMadeByFeast_0 C h hA hl)
abbrev rmX7_recordGiven : Room := { frames := 4, cells := 0, slots := 0, locals := 93 }
theorem iX7_recordGiven_X0 : ∀ x ∈ wsX00, x ∈ wsX7_recordGiven := by decide +kernel
theorem iX7_recordGiven_X7 : ∀ x ∈ wsX70, x ∈ wsX7_recordGiven := by decide +kernel
theorem nd_X7_recordGiven : yX7_recordGiven.cls = RX7 ∧ yX7_recordGiven.cls ≠ "java/lang/invoke/MethodHandle" ∧ yX7_recordGiven.cls ≠ "java/lang/invoke/VarHandle" ∧ (parseMethodDescriptor yX7_recordGiven.desc).map (fun d => d.parameters.length) = some 3 := by decide +kernel
def f_X7_recordGiven (fu : Nat) (σ : SS) (x1 : Int32) (x2 : Int32) (x3 : Int32) : Option (Int32 × SS) :=
  bnd (f_X3_answer fu σ x1 x2 x3) (fun r1 t3 => if inB x1 12 then bnd1 (f_X2_inForce fu (sL t3 20 (x1).toNatClampNeg ((t3.2.2 20 (x1).toNatClampNeg) + (x3).toInt64)) (t3.1 0)) (fun r5 => bnd1 (f_X2_askedFor fu (sL t3 20 (x1).toNatClampNeg ((t3.2.2 20 (x1).toNatClampNeg) + (x3).toInt64)) r5 ((x3 - r1)).toInt64) (fun r7 => (if r7 ≤ 0 then some (r1, (sL t3 20 (x1).toNatClampNeg ((t3.2.2 20 (x1).toNatClampNeg) + (x3).toInt64))) else bnd1 (f_X2_yearsToAnswer fu (sL t3 20 (x1).toNatClampNeg ((t3.2.2 20 (x1).toNatClampNeg) + (x3).toInt64)) r5) (fun r10 => bnd (f_X3_add fu (sL t3 20 (x1).toNatClampNeg ((t3.2.2 20 (x1).toNatClampNeg) + (x3).toInt64)) x2 x1 r7 ((t3.1 0) + r10)) (fun r12 t14 => some (r1, t14)))))) else none)
section
variable {p : Program} {l : Launch} {e : Env} {s : State} {m : MethodId} {args : Array Value} {below : List Frame} {meth : Method} {c : Code} {g : Gm} {A : Nat → Prop} {fu : Nat} {R : Int32 × SS}
set_option maxHeartbeats 4000000 in
set_option maxRecDepth 100000 in
theorem w_X7_recordGiven_0 {σ : SS} {x1 : Int32} {x2 : Int32} {x3 : Int32} (C : Cx p l s m args meth c cX7_recordGiven 7 wsX7_recordGiven (some .int) RX7 g A) (h : f_X7_recordGiven fu σ x1 x2 x3 = some R) {H : Heap} {locs : List Loc} {ls : Array Slot} (hA : Aw g A s.heap (wX g σ) H locs) (hl : lv_has ls 7 [(0, .ref (g.2.1 0)), (1, .int x1), (2, .int x2), (3, .int x3)]) : W p l e rmX7_recordGiven s m args below meth c H locs 0 0 (MQ below (Qi g A (wX g R.2) R.1) args s 0 0 A) (F0 m 0 ls []) := by
  have hx := C.1.1
  have hb := C.1.2.1
  unfold f_X7_recordGiven at h
  refine lv_aload_n hx hb dX7_recordGiven_0 rfl (lv_at hl 0 rfl) ?_
  refine Xg_X7_debts C hA iX7_recordGiven_X7 (by decide +kernel) dX7_recordGiven_1 ?_
  refine lv_iload_n hx hb dX7_recordGiven_4 rfl (lv_at hl 1 rfl) ?_
  refine lv_iload_n hx hb dX7_recordGiven_5 rfl (lv_at hl 2 rfl) ?_
  refine lv_iload_n hx hb dX7_recordGiven_6 rfl (lv_at hl 3 rfl) ?_
  obtain ⟨r1, t3, hc2, h⟩ := bd h
  refine r_callVi (r := r1) (w1 := wX g t3) (As := [.int x1, .int x2, .int x3]) (rest := []) C hA hl.1 (k_X3_answer C.2.2.2.2.2.2 hc2) (cwV 3 C.1.2.2.2.2 gX7_recordGiven_X3_answer rfl rfl rfl nd_X3_answer ⟨Nat.le_of_ble_eq_true rfl, Nat.le_of_ble_eq_true rfl⟩) 5 rfl rfl rfl rfl (Nat.le_of_ble_eq_true rfl) dX7_recordGiven_7 ⟨Nat.le_of_ble_eq_true rfl, Nat.le_of_ble_eq_true rfl⟩ (fun H locs hA => ?_)
  refine lv_istore (lv' := [(4, .int r1), (0, .ref (g.2.1 0)), (1, .int x1), (2, .int x2), (3, .int x3)]) hx hb dX7_recordGiven_10 hl (by decide) rfl (fun ls hl => ?_)
  refine lv_aload_n hx hb dX7_recordGiven_12 rfl (lv_at hl 1 rfl) ?_
  refine Xg_X7_chiefs C hA iX7_recordGiven_X7 (by decide +kernel) dX7_recordGiven_13 ?_
  refine Xg_X0_fame C hA iX7_recordGiven_X0 (by decide +kernel) dX7_recordGiven_16 ?_
  refine lv_iload_n hx hb dX7_recordGiven_19 rfl (lv_at hl 2 rfl) ?_
  refine lv_dup2_11 hx hb dX7_recordGiven_20 rfl rfl ?_
  obtain ⟨g4, h⟩ := gd h
  refine Xld_20 (v := (t3.2.2 20 (x1).toNatClampNeg)) C hA rfl g4 dX7_recordGiven_21 ?_
  refine lv_iload_n hx hb dX7_recordGiven_22 rfl (lv_at hl 4 rfl) ?_
  refine lv_i2l hx hb dX7_recordGiven_23 rfl ?_
  refine lv_ladd hx hb dX7_recordGiven_24 ?_
  refine Xst_20 C hA g4 dX7_recordGiven_25 (fun H locs hA => ?_)
  refine lv_aload_n hx hb dX7_recordGiven_26 rfl (lv_at hl 1 rfl) ?_
  refine Xg_X7_customs C hA iX7_recordGiven_X7 (by decide +kernel) dX7_recordGiven_27 ?_
  refine lv_aload_n hx hb dX7_recordGiven_30 rfl (lv_at hl 1 rfl) ?_
  refine Xg_X7_now (v := (t3.1 0)) C hA rfl iX7_recordGiven_X7 (by decide +kernel) dX7_recordGiven_31 ?_
  obtain ⟨r5, hc6, h⟩ := bd1 h
  refine r_callVi (r := r5) (w1 := wX g (sL t3 20 (x1).toNatClampNeg ((t3.2.2 20 (x1).toNatClampNeg) + (x3).toInt64))) (As := [.int (t3.1 0)]) (rest := []) C hA hl.1 (k_X2_inForce C.2.2.2.2.2.2 hc6) (cwV 1 C.1.2.2.2.2 gX7_recordGiven_X2_inForce rfl rfl rfl nd_X2_inForce ⟨Nat.le_of_ble_eq_true rfl, Nat.le_of_ble_eq_true rfl⟩) 3 rfl rfl rfl rfl (Nat.le_of_ble_eq_true rfl) dX7_recordGiven_34 ⟨Nat.le_of_ble_eq_true rfl, Nat.le_of_ble_eq_true rfl⟩ (fun H locs hA => ?_)
  refine lv_istore (lv' := [(5, .int r5), (4, .int r1), (0, .ref (g.2.1 0)), (1, .int x1), (2, .int x2), (3, .int x3)]) hx hb dX7_recordGiven_37 hl (by decide) rfl (fun ls hl => ?_)
  refine lv_aload_n hx hb dX7_recordGiven_39 rfl (lv_at hl 2 rfl) ?_
  refine Xg_X7_customs C hA iX7_recordGiven_X7 (by decide +kernel) dX7_recordGiven_40 ?_
  refine lv_iload hx hb dX7_recordGiven_43 (lv_at hl 0 rfl) ?_
  refine lv_iload_n hx hb dX7_recordGiven_45 rfl (lv_at hl 5 rfl) ?_
  refine lv_iload hx hb dX7_recordGiven_46 (lv_at hl 1 rfl) ?_
  refine lv_isub hx hb dX7_recordGiven_48 ?_
  refine lv_i2l hx hb dX7_recordGiven_49 rfl ?_
  obtain ⟨r7, hc8, h⟩ := bd1 h
  refine r_callVi (r := r7) (w1 := wX g (sL t3 20 (x1).toNatClampNeg ((t3.2.2 20 (x1).toNatClampNeg) + (x3).toInt64))) (As := [.int r5, .long ((x3 - r1)).toInt64]) (rest := []) C hA hl.1 (k_X2_askedFor C.2.2.2.2.2.2 hc8) (cwV 2 C.1.2.2.2.2 gX7_recordGiven_X2_askedFor rfl rfl rfl nd_X2_askedFor ⟨Nat.le_of_ble_eq_true rfl, Nat.le_of_ble_eq_true rfl⟩) 3 rfl rfl rfl rfl (Nat.le_of_ble_eq_true rfl) dX7_recordGiven_50 ⟨Nat.le_of_ble_eq_true rfl, Nat.le_of_ble_eq_true rfl⟩ (fun H locs hA => ?_)
  refine lv_istore (lv' := [(6, .int r7), (5, .int r5), (4, .int r1), (0, .ref (g.2.1 0)), (1, .int x1), (2, .int x2), (3, .int x3)]) hx hb dX7_recordGiven_53 hl (by decide) rfl (fun ls hl => ?_)
  refine lv_iload hx hb dX7_recordGiven_55 (lv_at hl 0 rfl) ?_
  refine lv_if_le (tgt := 86) hx hb dX7_recordGiven_57 (by decide) (fun c9 => ?_) (fun c9 => ?_)
  · replace h := (if_pos c9).symm.trans h
    refine lv_iload hx hb dX7_recordGiven_86 (lv_at hl 2 rfl) ?_
    obtain rfl := Option.some.inj h
    exact r_iret C hA dX7_recordGiven_88
  · replace h := (if_neg c9).symm.trans h
    refine lv_aload_n hx hb dX7_recordGiven_60 rfl (lv_at hl 3 rfl) ?_
    refine Xg_X7_debts C hA iX7_recordGiven_X7 (by decide +kernel) dX7_recordGiven_61 ?_
    refine lv_iload_n hx hb dX7_recordGiven_64 rfl (lv_at hl 5 rfl) ?_
    refine lv_iload_n hx hb dX7_recordGiven_65 rfl (lv_at hl 4 rfl) ?_
    refine lv_iload hx hb dX7_recordGiven_66 (lv_at hl 0 rfl) ?_
    refine lv_aload_n hx hb dX7_recordGiven_68 rfl (lv_at hl 3 rfl) ?_
    refine Xg_X7_now (v := (t3.1 0)) C hA rfl iX7_recordGiven_X7 (by decide +kernel) dX7_recordGiven_69 ?_
    refine lv_aload_n hx hb dX7_recordGiven_72 rfl (lv_at hl 3 rfl) ?_
    refine Xg_X7_customs C hA iX7_recordGiven_X7 (by decide +kernel) dX7_recordGiven_73 ?_
    refine lv_iload hx hb dX7_recordGiven_76 (lv_at hl 1 rfl) ?_
    obtain ⟨r10, hc11, h⟩ := bd1 h
    refine r_callVi (r := r10) (w1 := wX g (sL t3 20 (x1).toNatClampNeg ((t3.2.2 20 (x1).toNatClampNeg) + (x3).toInt64))) (As := [.int r5]) (rest := [.int (t3.1 0), .int r7, .int x1, .int x2, .ref (g.2.1 5)]) C hA hl.1 (k_X2_yearsToAnswer C.2.2.2.2.2.2 hc11) (cwV 1 C.1.2.2.2.2 gX7_recordGiven_X2_yearsToAnswer rfl rfl rfl nd_X2_yearsToAnswer ⟨Nat.le_of_ble_eq_true rfl, Nat.le_of_ble_eq_true rfl⟩) 3 rfl rfl rfl rfl (Nat.le_of_ble_eq_true rfl) dX7_recordGiven_78 ⟨Nat.le_of_ble_eq_true rfl, Nat.le_of_ble_eq_true rfl⟩ (fun H locs hA => ?_)
    refine lv_iadd hx hb dX7_recordGiven_81 ?_
    obtain ⟨r12, t14, hc13, h⟩ := bd h
    refine r_callVi (r := r12) (w1 := wX g t14) (As := [.int x2, .int x1, .int r7, .int ((t3.1 0) + r10)]) (rest := []) C hA hl.1 (k_X3_add C.2.2.2.2.2.2 hc13) (cwV 4 C.1.2.2.2.2 gX7_recordGiven_X3_add rfl rfl rfl nd_X3_add ⟨Nat.le_of_ble_eq_true rfl, Nat.le_of_ble_eq_true rfl⟩) 5 rfl rfl rfl rfl (Nat.le_of_ble_eq_true rfl) dX7_recordGiven_82 ⟨Nat.le_of_ble_eq_true rfl, Nat.le_of_ble_eq_true rfl⟩ (fun H locs hA => ?_)
    refine lv_pop hx hb dX7_recordGiven_85 rfl ?_
    refine lv_iload hx hb dX7_recordGiven_86 (lv_at hl 2 rfl) ?_
    obtain rfl := Option.some.inj h
    exact r_iret C hA dX7_recordGiven_88
end
set_option maxRecDepth 100000 in
theorem k_X7_recordGiven {l : Launch} {g : Gm} {fu : Nat} {σ : SS} {x1 : Int32} {x2 : Int32} {x3 : Int32} {R : Int32 × SS} (hlt : l.stackTraces = false) (h : f_X7_recordGiven fu σ x1 x2 x3 = some R) (sz : Nat) : Met l yX7_recordGiven wsX7_recordGiven rmX7_recordGiven (Pw g (wX g σ) [.ref (g.2.1 0), .int x1, .int x2, .int x3] sz) (Qi g (va_A (wX g σ) sz) (wX g R.2) R.1) 0 0 (va_A (wX g σ) sz) :=
  ofM (own := RX7) hlt (by decide) rfl rfl (Nat.le_of_ble_eq_true rfl) (fun p e s m below meth c hsz C hA ls hl => w_X7_recordGiven_0 C h hA hl)
abbrev rmX7_growLoans : Room := { frames := 2, cells := 0, slots := 0, locals := 55 }
theorem iX7_growLoans_X3 : ∀ x ∈ wsX30, x ∈ wsX7_growLoans := by decide +kernel
theorem iX7_growLoans_X7 : ∀ x ∈ wsX70, x ∈ wsX7_growLoans := by decide +kernel
theorem nd_X7_growLoans : yX7_growLoans.cls = RX7 ∧ yX7_growLoans.cls ≠ "java/lang/invoke/MethodHandle" ∧ yX7_growLoans.cls ≠ "java/lang/invoke/VarHandle" ∧ (parseMethodDescriptor yX7_growLoans.desc).map (fun d => d.parameters.length) = some 0 := by decide +kernel
def f_X7_growLoans_62 (fu : Nat) (k14 : SS → (Int32 × Int32) → Option (Unit × SS)) (σ : SS) (x1 : Int32) (x2 : Int32) : Option (Unit × SS) :=
  k14 σ (x1, (x2 + 1))
def f_X7_growLoans_14 (fu : Nat) (k14 : SS → (Int32 × Int32) → Option (Unit × SS)) (σ : SS) (x1 : Int32) (x2 : Int32) : Option (Unit × SS) :=
  (if (σ.1 15) ≤ x2 then some ((), σ) else bnd1 (f_X3_isLoan fu σ x2) (fun r2 => (if r2 = 0 then f_X7_growLoans_62 fu k14 σ x1 x2 else if inB x2 400 then bnd1 (f_X2_grown fu σ x1 (σ.2.1 24 (x2).toNatClampNeg)) (fun r6 => f_X7_growLoans_62 fu k14 (sA σ 24 (x2).toNatClampNeg r6) x1 x2) else none)))
def f_X7_growLoans_L14 (fu : Nat) : SS → (Int32 × Int32) → Option (Unit × SS) := loopN (fun k14 σ x => f_X7_growLoans_14 fu k14 σ x.1 x.2) fu
def f_X7_growLoans (fu : Nat) (σ : SS) : Option (Unit × SS) :=
  bnd1 (f_X2_inForce fu σ (σ.1 0)) (fun r1 => f_X7_growLoans_L14 fu σ (r1, (0 : Int32)))
section
variable {p : Program} {l : Launch} {e : Env} {s : State} {m : MethodId} {args : Array Value} {below : List Frame} {meth : Method} {c : Code} {g : Gm} {A : Nat → Prop} {fu : Nat} {R : Unit × SS}
set_option maxHeartbeats 4000000 in
set_option maxRecDepth 100000 in
theorem w_X7_growLoans_62 {σ : SS} {x1 : Int32} {x2 : Int32} (C : Cx p l s m args meth c cX7_growLoans 3 wsX7_growLoans none RX7 g A) {k14 : SS → (Int32 × Int32) → Option (Unit × SS)} (hk14 : ∀ (σ : SS) (x : Int32 × Int32), k14 σ x = some R → ∀ (H : Heap) (locs : List Loc) (ls : Array Slot), Aw g A s.heap (wX g σ) H locs → lv_has ls 3 [(0, .ref (g.2.1 0)), (1, .int x.1), (2, .int x.2)] → W p l e rmX7_growLoans s m args below meth c H locs 0 0 (MQ below (Qv g A (wX g R.2) R.1) args s 0 0 A) (F0 m 14 ls [])) (h : f_X7_growLoans_62 fu k14 σ x1 x2 = some R) {H : Heap} {locs : List Loc} {ls : Array Slot} (hA : Aw g A s.heap (wX g σ) H locs) (hl : lv_has ls 3 [(0, .ref (g.2.1 0)), (1, .int x1), (2, .int x2)]) : W p l e rmX7_growLoans s m args below meth c H locs 0 0 (MQ below (Qv g A (wX g R.2) R.1) args s 0 0 A) (F0 m 62 ls []) := by
  have hx := C.1.1
  have hb := C.1.2.1
  unfold f_X7_growLoans_62 at h
  refine lv_iinc (v := (x2 + 1)) (lv' := [(2, .int (x2 + 1)), (0, .ref (g.2.1 0)), (1, .int x1)]) hx hb dX7_growLoans_62 hl (k := 2) rfl rfl (by decide) rfl (fun ls hl => ?_)
  refine lv_goto (tgt := 14) hx hb dX7_growLoans_65 (by decide) ?_
  exact hk14 _ _ h _ _ _ hA (lv_sub hl [1, 2, 0] rfl)
set_option maxHeartbeats 4000000 in
set_option maxRecDepth 100000 in
theorem w_X7_growLoans_14 {σ : SS} {x1 : Int32} {x2 : Int32} (C : Cx p l s m args meth c cX7_growLoans 3 wsX7_growLoans none RX7 g A) {k14 : SS → (Int32 × Int32) → Option (Unit × SS)} (hk14 : ∀ (σ : SS) (x : Int32 × Int32), k14 σ x = some R → ∀ (H : Heap) (locs : List Loc) (ls : Array Slot), Aw g A s.heap (wX g σ) H locs → lv_has ls 3 [(0, .ref (g.2.1 0)), (1, .int x.1), (2, .int x.2)] → W p l e rmX7_growLoans s m args below meth c H locs 0 0 (MQ below (Qv g A (wX g R.2) R.1) args s 0 0 A) (F0 m 14 ls [])) (h : f_X7_growLoans_14 fu k14 σ x1 x2 = some R) {H : Heap} {locs : List Loc} {ls : Array Slot} (hA : Aw g A s.heap (wX g σ) H locs) (hl : lv_has ls 3 [(0, .ref (g.2.1 0)), (1, .int x1), (2, .int x2)]) : W p l e rmX7_growLoans s m args below meth c H locs 0 0 (MQ below (Qv g A (wX g R.2) R.1) args s 0 0 A) (F0 m 14 ls []) := by
  have hx := C.1.1
  have hb := C.1.2.1
  unfold f_X7_growLoans_14 at h
  refine lv_iload_n hx hb dX7_growLoans_14 rfl (lv_at hl 2 rfl) ?_
  refine lv_aload_n hx hb dX7_growLoans_15 rfl (lv_at hl 0 rfl) ?_
  refine Xg_X7_debts C hA iX7_growLoans_X7 (by decide +kernel) dX7_growLoans_16 ?_
  refine Xg_X3_size (v := (σ.1 15)) C hA rfl iX7_growLoans_X3 (by decide +kernel) dX7_growLoans_19 ?_
  refine lv_icmp_ge (tgt := 68) hx hb dX7_growLoans_22 (by decide) (fun c1 => ?_) (fun c1 => ?_)
  · replace h := (if_pos c1).symm.trans h
    obtain rfl := Option.some.inj h
    exact r_vret C hA dX7_growLoans_68
  · replace h := (if_neg c1).symm.trans h
    refine lv_aload_n hx hb dX7_growLoans_25 rfl (lv_at hl 0 rfl) ?_
    refine Xg_X7_debts C hA iX7_growLoans_X7 (by decide +kernel) dX7_growLoans_26 ?_
    refine lv_iload_n hx hb dX7_growLoans_29 rfl (lv_at hl 2 rfl) ?_
    obtain ⟨r2, hc3, h⟩ := bd1 h
    refine r_callVi (r := r2) (w1 := wX g σ) (As := [.int x2]) (rest := []) C hA hl.1 (k_X3_isLoan C.2.2.2.2.2.2 hc3) (cwV 1 C.1.2.2.2.2 gX7_growLoans_X3_isLoan rfl rfl rfl nd_X3_isLoan ⟨Nat.le_of_ble_eq_true rfl, Nat.le_of_ble_eq_true rfl⟩) 5 rfl rfl rfl rfl (Nat.le_of_ble_eq_true rfl) dX7_growLoans_30 ⟨Nat.le_of_ble_eq_true rfl, Nat.le_of_ble_eq_true rfl⟩ (fun H locs hA => ?_)
    refine lv_if_eq (tgt := 62) hx hb dX7_growLoans_33 (by decide) (fun c4 => ?_) (fun c4 => ?_)
    · replace h := (if_pos c4).symm.trans h
      exact w_X7_growLoans_62 C hk14 h hA (lv_sub hl [0, 1, 2] rfl)
    · replace h := (if_neg c4).symm.trans h
      refine lv_aload_n hx hb dX7_growLoans_36 rfl (lv_at hl 0 rfl) ?_
      refine Xg_X7_debts C hA iX7_growLoans_X7 (by decide +kernel) dX7_growLoans_37 ?_
      refine Xg_X3_left C hA iX7_growLoans_X3 (by decide +kernel) dX7_growLoans_40 ?_
      refine lv_iload_n hx hb dX7_growLoans_43 rfl (lv_at hl 2 rfl) ?_
      refine lv_aload_n hx hb dX7_growLoans_44 rfl (lv_at hl 0 rfl) ?_
      refine Xg_X7_customs C hA iX7_growLoans_X7 (by decide +kernel) dX7_growLoans_45 ?_
      refine lv_iload_n hx hb dX7_growLoans_48 rfl (lv_at hl 1 rfl) ?_
      refine lv_aload_n hx hb dX7_growLoans_49 rfl (lv_at hl 0 rfl) ?_
      refine Xg_X7_debts C hA iX7_growLoans_X7 (by decide +kernel) dX7_growLoans_50 ?_
      refine Xg_X3_left C hA iX7_growLoans_X3 (by decide +kernel) dX7_growLoans_53 ?_
      refine lv_iload_n hx hb dX7_growLoans_56 rfl (lv_at hl 2 rfl) ?_
      obtain ⟨g5, h⟩ := gd h
      refine Xld_24 (v := (σ.2.1 24 (x2).toNatClampNeg)) C hA rfl g5 dX7_growLoans_57 ?_
      obtain ⟨r6, hc7, h⟩ := bd1 h
      refine r_callVi (r := r6) (w1 := wX g σ) (As := [.int x1, .int (σ.2.1 24 (x2).toNatClampNeg)]) (rest := [.int x2, .ref (g.2.1 24)]) C hA hl.1 (k_X2_grown C.2.2.2.2.2.2 hc7) (cwV 2 C.1.2.2.2.2 gX7_growLoans_X2_grown rfl rfl rfl nd_X2_grown ⟨Nat.le_of_ble_eq_true rfl, Nat.le_of_ble_eq_true rfl⟩) 3 rfl rfl rfl rfl (Nat.le_of_ble_eq_true rfl) dX7_growLoans_58 ⟨Nat.le_of_ble_eq_true rfl, Nat.le_of_ble_eq_true rfl⟩ (fun H locs hA => ?_)
      refine Xst_24 C hA g5 dX7_growLoans_61 (fun H locs hA => ?_)
      exact w_X7_growLoans_62 C hk14 h hA (lv_sub hl [0, 1, 2] rfl)
set_option maxHeartbeats 4000000 in
theorem w_X7_growLoans_L14 {σ : SS} {x : Int32 × Int32} (C : Cx p l s m args meth c cX7_growLoans 3 wsX7_growLoans none RX7 g A) (h : f_X7_growLoans_L14 fu σ x = some R) {H : Heap} {locs : List Loc} {ls : Array Slot} (hA : Aw g A s.heap (wX g σ) H locs) (hl : lv_has ls 3 [(0, .ref (g.2.1 0)), (1, .int x.1), (2, .int x.2)]) : W p l e rmX7_growLoans s m args below meth c H locs 0 0 (MQ below (Qv g A (wX g R.2) R.1) args s 0 0 A) (F0 m 14 ls []) := by
  refine loopW (P := fun σ x => ∀ (H : Heap) (locs : List Loc) (ls : Array Slot), Aw g A s.heap (wX g σ) H locs → lv_has ls 3 [(0, .ref (g.2.1 0)), (1, .int x.1), (2, .int x.2)] → W p l e rmX7_growLoans s m args below meth c H locs 0 0 (MQ below (Qv g A (wX g R.2) R.1) args s 0 0 A) (F0 m 14 ls [])) (fun k hk σ x h9 H locs ls hA9 hl9 => ?_) fu σ x h H locs ls hA hl
  exact w_X7_growLoans_14 C hk h9 hA9 hl9
set_option maxHeartbeats 4000000 in
set_option maxRecDepth 100000 in
theorem w_X7_growLoans_0 {σ : SS} (C : Cx p l s m args meth c cX7_growLoans 3 wsX7_growLoans none RX7 g A) (h : f_X7_growLoans fu σ = some R) {H : Heap} {locs : List Loc} {ls : Array Slot} (hA : Aw g A s.heap (wX g σ) H locs) (hl : lv_has ls 3 [(0, .ref (g.2.1 0))]) : W p l e rmX7_growLoans s m args below meth c H locs 0 0 (MQ below (Qv g A (wX g R.2) R.1) args s 0 0 A) (F0 m 0 ls []) := by
  have hx := C.1.1
  have hb := C.1.2.1
  unfold f_X7_growLoans at h
  refine lv_aload_n hx hb dX7_growLoans_0 rfl (lv_at hl 0 rfl) ?_
  refine Xg_X7_customs C hA iX7_growLoans_X7 (by decide +kernel) dX7_growLoans_1 ?_
  refine lv_aload_n hx hb dX7_growLoans_4 rfl (lv_at hl 0 rfl) ?_
  refine Xg_X7_now (v := (σ.1 0)) C hA rfl iX7_growLoans_X7 (by decide +kernel) dX7_growLoans_5 ?_
  obtain ⟨r1, hc2, h⟩ := bd1 h
  refine r_callVi (r := r1) (w1 := wX g σ) (As := [.int (σ.1 0)]) (rest := []) C hA hl.1 (k_X2_inForce C.2.2.2.2.2.2 hc2) (cwV 1 C.1.2.2.2.2 gX7_growLoans_X2_inForce rfl rfl rfl nd_X2_inForce ⟨Nat.le_of_ble_eq_true rfl, Nat.le_of_ble_eq_true rfl⟩) 3 rfl rfl rfl rfl (Nat.le_of_ble_eq_true rfl) dX7_growLoans_8 ⟨Nat.le_of_ble_eq_true rfl, Nat.le_of_ble_eq_true rfl⟩ (fun H locs hA => ?_)
  refine lv_istore_n (lv' := [(1, .int r1), (0, .ref (g.2.1 0))]) hx hb dX7_growLoans_11 rfl hl (by decide) rfl (fun ls hl => ?_)
  refine lv_iconst (v := 0) hx hb dX7_growLoans_12 (by decide) ?_
  refine lv_istore_n (lv' := [(2, .int (0 : Int32)), (1, .int r1), (0, .ref (g.2.1 0))]) hx hb dX7_growLoans_13 rfl hl (by decide) rfl (fun ls hl => ?_)
  exact w_X7_growLoans_L14 C h hA (lv_sub hl [2, 1, 0] rfl)
end
set_option maxRecDepth 100000 in
theorem k_X7_growLoans {l : Launch} {g : Gm} {fu : Nat} {σ : SS} {R : Unit × SS} (hlt : l.stackTraces = false) (h : f_X7_growLoans fu σ = some R) (sz : Nat) : Met l yX7_growLoans wsX7_growLoans rmX7_growLoans (Pw g (wX g σ) [.ref (g.2.1 0)] sz) (Qv g (va_A (wX g σ) sz) (wX g R.2) R.1) 0 0 (va_A (wX g σ) sz) :=
  ofM (own := RX7) hlt (by decide) rfl rfl (Nat.le_of_ble_eq_true rfl) (fun p e s m below meth c hsz C hA ls hl => w_X7_growLoans_0 C h hA hl)
abbrev rmX7_checkChief : Room := { frames := 0, cells := 0, slots := 0, locals := 0 }
abbrev rxX7_checkChief : Room := { frames := 6, cells := 1, slots := 6, locals := 90 }
theorem iX7_checkChief_X0 : ∀ x ∈ wsX00, x ∈ wsX7_checkChief := by decide +kernel
theorem iX7_checkChief_X7 : ∀ x ∈ wsX70, x ∈ wsX7_checkChief := by decide +kernel
set_option maxRecDepth 20000 in
theorem xi_X7_checkChief_2 : ∀ w ∈ (vx_atS RX7 211 "java/lang/IndexOutOfBoundsException" xNames).filter goodWord, w ∈ wsX7_checkChief := by decide +kernel
set_option maxRecDepth 20000 in
theorem xn_X7_2 : ∀ w ∈ (vx_atS RX7 211 "java/lang/IndexOutOfBoundsException" xNames).filter (fun w => !goodWord w), w ∈ [Cond.castable "java/lang/IndexOutOfBoundsException" "java/lang/IndexOutOfBoundsException", Cond.declares (Bundle.initS "java/lang/RuntimeException"), Cond.declares (Bundle.initS "java/lang/Exception"), Cond.declares (Bundle.initS Bundle.tN)] := by decide +kernel
set_option maxRecDepth 20000 in
theorem xg_X7_2 : ∀ w ∈ Cond.classLink RX7 207 "java/lang/IndexOutOfBoundsException" :: Cond.initialized "java/lang/IndexOutOfBoundsException" :: vx_atS RX7 211 "java/lang/IndexOutOfBoundsException" xNames, vx_ot w = true := by decide +kernel
theorem nd_X7_checkChief : yX7_checkChief.cls = RX7 ∧ yX7_checkChief.cls ≠ "java/lang/invoke/MethodHandle" ∧ yX7_checkChief.cls ≠ "java/lang/invoke/VarHandle" ∧ (parseMethodDescriptor yX7_checkChief.desc).map (fun d => d.parameters.length) = some 1 := by decide +kernel
def f_X7_checkChief_15 (fu : Nat) (σ : SS) : Option (Unit ⊕ Nat) :=
  some (.inr 2)
def f_X7_checkChief (fu : Nat) (σ : SS) (x1 : Int32) : Option (Unit ⊕ Nat) :=
  (if x1 < 0 then f_X7_checkChief_15 fu σ else (if x1 < (σ.1 14) then some (.inl ()) else f_X7_checkChief_15 fu σ))
section
variable {p : Program} {l : Launch} {e : Env} {s : State} {m : MethodId} {args : Array Value} {below : List Frame} {meth : Method} {c : Code} {g : Gm} {A : Nat → Prop} {fu : Nat} {v0 : Unit} {τ : SS} {j : Nat}
set_option maxHeartbeats 4000000 in
set_option maxRecDepth 100000 in
theorem w_X7_checkChief_15 {σ : SS} (C : Cx p l s m args meth c cX7_checkChief 2 wsX7_checkChief none RX7 g A) (h : f_X7_checkChief_15 fu σ = some (.inl v0)) {H : Heap} {locs : List Loc} {ls : Array Slot} (hA : Aw g A s.heap (wX g σ) H locs) (hl : lv_has ls 2 []) : W p l e rmX7_checkChief s m args below meth c H locs 0 0 (MQ below (Qv g A (wX g σ) v0) args s 0 0 A) (F0 m 15 ls []) := by
  have hx := C.1.1
  have hb := C.1.2.1
  unfold f_X7_checkChief_15 at h
  cases h
set_option maxHeartbeats 4000000 in
set_option maxRecDepth 100000 in
theorem w_X7_checkChief_0 {σ : SS} {x1 : Int32} (C : Cx p l s m args meth c cX7_checkChief 2 wsX7_checkChief none RX7 g A) (h : f_X7_checkChief fu σ x1 = some (.inl v0)) {H : Heap} {locs : List Loc} {ls : Array Slot} (hA : Aw g A s.heap (wX g σ) H locs) (hl : lv_has ls 2 [(0, .ref (g.2.1 0)), (1, .int x1)]) : W p l e rmX7_checkChief s m args below meth c H locs 0 0 (MQ below (Qv g A (wX g σ) v0) args s 0 0 A) (F0 m 0 ls []) := by
  have hx := C.1.1
  have hb := C.1.2.1
  unfold f_X7_checkChief at h
  refine lv_iload_n hx hb dX7_checkChief_0 rfl (lv_at hl 1 rfl) ?_
  refine lv_if_lt (tgt := 15) hx hb dX7_checkChief_1 (by decide) (fun c1 => ?_) (fun c1 => ?_)
  · replace h := (if_pos c1).symm.trans h
    exact w_X7_checkChief_15 C h hA (lv_sub hl [] rfl)
  · replace h := (if_neg c1).symm.trans h
    refine lv_iload_n hx hb dX7_checkChief_4 rfl (lv_at hl 1 rfl) ?_
    refine lv_aload_n hx hb dX7_checkChief_5 rfl (lv_at hl 0 rfl) ?_
    refine Xg_X7_chiefs C hA iX7_checkChief_X7 (by decide +kernel) dX7_checkChief_6 ?_
    refine Xg_X0_size (v := (σ.1 14)) C hA rfl iX7_checkChief_X0 (by decide +kernel) dX7_checkChief_9 ?_
    refine lv_icmp_lt (tgt := 26) hx hb dX7_checkChief_12 (by decide) (fun c2 => ?_) (fun c2 => ?_)
    · replace h := (if_pos c2).symm.trans h
      obtain rfl := inl_inj0 h
      exact r_vret C hA dX7_checkChief_26
    · replace h := (if_neg c2).symm.trans h
      exact w_X7_checkChief_15 C h hA (lv_sub hl [] rfl)
set_option maxHeartbeats 4000000 in
set_option maxRecDepth 100000 in
theorem v_X7_checkChief_15 {σ : SS} (C : Cx p l s m args meth c cX7_checkChief 2 wsX7_checkChief none RX7 g A) (hT : ∀ x ∈ c.exceptionTable.toList, False) (h : f_X7_checkChief_15 fu σ = some (.inr j)) {H : Heap} {locs : List Loc} {ls : Array Slot} (hA : Aw g A s.heap (wX g σ) H locs) (hl : lv_has ls 2 []) : W p l e rxX7_checkChief s m args below meth c H locs 0 0 (vx_MQ below (QFv A) (Xw g A (wX g σ) j) args s 1 6 A) (F0 m 15 ls []) := by
  have hx := C.1.1
  have hb := C.1.2.1
  unfold f_X7_checkChief_15 at h
  obtain rfl := inr_inj0 h
  exact r_throwW (j := 2) (rest := []) C hA hl.1 hT rfl (by decide +kernel) C.2.2.2.2.2.1.2.2.2.2.2.2.2.2.2.2.2.2.2.2.2.2.2.2.2.2.2.1 (by decide +kernel) (by decide +kernel) xi_X7_checkChief_2 xn_X7_2 C.2.2.2.2.2.1.2.2.2.2.2.2.2.1 xg_X7_2 dX7_checkChief_15 dX7_checkChief_18 dX7_checkChief_19 dX7_checkChief_22 dX7_checkChief_25 (Nat.le_of_ble_eq_true rfl) (Nat.le_of_ble_eq_true rfl) (Nat.le_of_ble_eq_true rfl) (Nat.le_of_ble_eq_true rfl)
set_option maxHeartbeats 4000000 in
set_option maxRecDepth 100000 in
theorem v_X7_checkChief_0 {σ : SS} {x1 : Int32} (C : Cx p l s m args meth c cX7_checkChief 2 wsX7_checkChief none RX7 g A) (hT : ∀ x ∈ c.exceptionTable.toList, False) (h : f_X7_checkChief fu σ x1 = some (.inr j)) {H : Heap} {locs : List Loc} {ls : Array Slot} (hA : Aw g A s.heap (wX g σ) H locs) (hl : lv_has ls 2 [(0, .ref (g.2.1 0)), (1, .int x1)]) : W p l e rxX7_checkChief s m args below meth c H locs 0 0 (vx_MQ below (QFv A) (Xw g A (wX g σ) j) args s 1 6 A) (F0 m 0 ls []) := by
  have hx := C.1.1
  have hb := C.1.2.1
  unfold f_X7_checkChief at h
  refine lv_iload_n hx hb dX7_checkChief_0 rfl (lv_at hl 1 rfl) ?_
  refine lv_if_lt (tgt := 15) hx hb dX7_checkChief_1 (by decide) (fun c1 => ?_) (fun c1 => ?_)
  · replace h := (if_pos c1).symm.trans h
    exact v_X7_checkChief_15 C hT h hA (lv_sub hl [] rfl)
  · replace h := (if_neg c1).symm.trans h
    refine lv_iload_n hx hb dX7_checkChief_4 rfl (lv_at hl 1 rfl) ?_
    refine lv_aload_n hx hb dX7_checkChief_5 rfl (lv_at hl 0 rfl) ?_
    refine Xg_X7_chiefs C hA iX7_checkChief_X7 (by decide +kernel) dX7_checkChief_6 ?_
    refine Xg_X0_size (v := (σ.1 14)) C hA rfl iX7_checkChief_X0 (by decide +kernel) dX7_checkChief_9 ?_
    refine lv_icmp_lt (tgt := 26) hx hb dX7_checkChief_12 (by decide) (fun c2 => ?_) (fun c2 => ?_)
    · replace h := (if_pos c2).symm.trans h
      cases h
    · replace h := (if_neg c2).symm.trans h
      exact v_X7_checkChief_15 C hT h hA (lv_sub hl [] rfl)
end
set_option maxRecDepth 100000 in
theorem k_X7_checkChief {l : Launch} {g : Gm} {fu : Nat} {σ : SS} {x1 : Int32} {v0 : Unit} (hlt : l.stackTraces = false) (h : f_X7_checkChief fu σ x1 = some (.inl v0)) (sz : Nat) : Met l yX7_checkChief wsX7_checkChief rmX7_checkChief (Pw g (wX g σ) [.ref (g.2.1 0), .int x1] sz) (Qv g (va_A (wX g σ) sz) (wX g σ) v0) 0 0 (va_A (wX g σ) sz) :=
  ofM (own := RX7) hlt (by decide) rfl rfl (Nat.le_of_ble_eq_true rfl) (fun p e s m below meth c hsz C hA ls hl => w_X7_checkChief_0 C h hA hl)
set_option maxRecDepth 100000 in
theorem kx_X7_checkChief {l : Launch} {g : Gm} {fu : Nat} {σ : SS} {x1 : Int32} {j : Nat} (hlt : l.stackTraces = false) (h : f_X7_checkChief fu σ x1 = some (.inr j)) (sz : Nat) : vx_Met l yX7_checkChief wsX7_checkChief rxX7_checkChief (Pw g (wX g σ) [.ref (g.2.1 0), .int x1] sz) (QFv (va_A (wX g σ) sz)) (Xw g (va_A (wX g σ) sz) (wX g σ) j) 1 6 (va_A (wX g σ) sz) :=
  ofX (own := RX7) hlt (by decide) rfl rfl (Nat.le_of_ble_eq_true rfl) (fun p e s m below meth c hsz C hT hA ls hl => v_X7_checkChief_0 C hT h hA hl)
abbrev rmX7_checkLives : Room := { frames := 0, cells := 0, slots := 0, locals := 0 }
abbrev rxX7_checkLives : Room := { frames := 6, cells := 1, slots := 6, locals := 90 }
theorem iX7_checkLives_X0 : ∀ x ∈ wsX00, x ∈ wsX7_checkLives := by decide +kernel
theorem iX7_checkLives_X7 : ∀ x ∈ wsX70, x ∈ wsX7_checkLives := by decide +kernel
set_option maxRecDepth 20000 in
theorem xi_X7_checkLives_1 : ∀ w ∈ (vx_atS RX7 80 "java/lang/IllegalStateException" xNames).filter goodWord, w ∈ wsX7_checkLives := by decide +kernel
set_option maxRecDepth 20000 in
theorem xn_X7_1 : ∀ w ∈ (vx_atS RX7 80 "java/lang/IllegalStateException" xNames).filter (fun w => !goodWord w), w ∈ [Cond.castable "java/lang/IllegalStateException" "java/lang/IllegalStateException", Cond.declares (Bundle.initS "java/lang/RuntimeException"), Cond.declares (Bundle.initS "java/lang/Exception"), Cond.declares (Bundle.initS Bundle.tN)] := by decide +kernel
set_option maxRecDepth 20000 in
theorem xg_X7_1 : ∀ w ∈ Cond.classLink RX7 76 "java/lang/IllegalStateException" :: Cond.initialized "java/lang/IllegalStateException" :: vx_atS RX7 80 "java/lang/IllegalStateException" xNames, vx_ot w = true := by decide +kernel
theorem nd_X7_checkLives : yX7_checkLives.cls = RX7 ∧ yX7_checkLives.cls ≠ "java/lang/invoke/MethodHandle" ∧ yX7_checkLives.cls ≠ "java/lang/invoke/VarHandle" ∧ (parseMethodDescriptor yX7_checkLives.desc).map (fun d => d.parameters.length) = some 1 := by decide +kernel
def f_X7_checkLives (fu : Nat) (σ : SS) (x1 : Int32) : Option (Unit ⊕ Nat) :=
  if inB x1 12 then (if (σ.2.1 21 (x1).toNatClampNeg) = 0 then some (.inr 1) else some (.inl ())) else none
section
variable {p : Program} {l : Launch} {e : Env} {s : State} {m : MethodId} {args : Array Value} {below : List Frame} {meth : Method} {c : Code} {g : Gm} {A : Nat → Prop} {fu : Nat} {v0 : Unit} {τ : SS} {j : Nat}
set_option maxHeartbeats 4000000 in
set_option maxRecDepth 100000 in
theorem w_X7_checkLives_0 {σ : SS} {x1 : Int32} (C : Cx p l s m args meth c cX7_checkLives 2 wsX7_checkLives none RX7 g A) (h : f_X7_checkLives fu σ x1 = some (.inl v0)) {H : Heap} {locs : List Loc} {ls : Array Slot} (hA : Aw g A s.heap (wX g σ) H locs) (hl : lv_has ls 2 [(0, .ref (g.2.1 0)), (1, .int x1)]) : W p l e rmX7_checkLives s m args below meth c H locs 0 0 (MQ below (Qv g A (wX g σ) v0) args s 0 0 A) (F0 m 0 ls []) := by
  have hx := C.1.1
  have hb := C.1.2.1
  unfold f_X7_checkLives at h
  refine lv_aload_n hx hb dX7_checkLives_0 rfl (lv_at hl 0 rfl) ?_
  refine Xg_X7_chiefs C hA iX7_checkLives_X7 (by decide +kernel) dX7_checkLives_1 ?_
  refine Xg_X0_lives C hA iX7_checkLives_X0 (by decide +kernel) dX7_checkLives_4 ?_
  refine lv_iload_n hx hb dX7_checkLives_7 rfl (lv_at hl 1 rfl) ?_
  obtain ⟨g1, h⟩ := gd h
  refine Xld_21 (v := (σ.2.1 21 (x1).toNatClampNeg)) C hA rfl g1 dX7_checkLives_8 ?_
  refine lv_if_ne (tgt := 23) hx hb dX7_checkLives_9 (by decide) (fun c2 => ?_) (fun c2 => ?_)
  · replace h := (if_neg c2).symm.trans h
    obtain rfl := inl_inj0 h
    exact r_vret C hA dX7_checkLives_23
  · replace h := (if_pos c2).symm.trans h
    cases h
set_option maxHeartbeats 4000000 in
set_option maxRecDepth 100000 in
theorem v_X7_checkLives_0 {σ : SS} {x1 : Int32} (C : Cx p l s m args meth c cX7_checkLives 2 wsX7_checkLives none RX7 g A) (hT : ∀ x ∈ c.exceptionTable.toList, False) (h : f_X7_checkLives fu σ x1 = some (.inr j)) {H : Heap} {locs : List Loc} {ls : Array Slot} (hA : Aw g A s.heap (wX g σ) H locs) (hl : lv_has ls 2 [(0, .ref (g.2.1 0)), (1, .int x1)]) : W p l e rxX7_checkLives s m args below meth c H locs 0 0 (vx_MQ below (QFv A) (Xw g A (wX g σ) j) args s 1 6 A) (F0 m 0 ls []) := by
  have hx := C.1.1
  have hb := C.1.2.1
  unfold f_X7_checkLives at h
  refine lv_aload_n hx hb dX7_checkLives_0 rfl (lv_at hl 0 rfl) ?_
  refine Xg_X7_chiefs C hA iX7_checkLives_X7 (by decide +kernel) dX7_checkLives_1 ?_
  refine Xg_X0_lives C hA iX7_checkLives_X0 (by decide +kernel) dX7_checkLives_4 ?_
  refine lv_iload_n hx hb dX7_checkLives_7 rfl (lv_at hl 1 rfl) ?_
  obtain ⟨g1, h⟩ := gd h
  refine Xld_21 (v := (σ.2.1 21 (x1).toNatClampNeg)) C hA rfl g1 dX7_checkLives_8 ?_
  refine lv_if_ne (tgt := 23) hx hb dX7_checkLives_9 (by decide) (fun c2 => ?_) (fun c2 => ?_)
  · replace h := (if_neg c2).symm.trans h
    cases h
  · replace h := (if_pos c2).symm.trans h
    obtain rfl := inr_inj0 h
    exact r_throwW (j := 1) (rest := []) C hA hl.1 hT rfl (by decide +kernel) C.2.2.2.2.2.1.2.2.2.2.2.2.2.2.2.2.2.2.2.2.2.2.2.2.2.2.2.2.1 (by decide +kernel) (by decide +kernel) xi_X7_checkLives_1 xn_X7_1 C.2.2.2.2.2.1.2.2.2.2.2.2.1 xg_X7_1 dX7_checkLives_12 dX7_checkLives_15 dX7_checkLives_16 dX7_checkLives_19 dX7_checkLives_22 (Nat.le_of_ble_eq_true rfl) (Nat.le_of_ble_eq_true rfl) (Nat.le_of_ble_eq_true rfl) (Nat.le_of_ble_eq_true rfl)
end
set_option maxRecDepth 100000 in
theorem k_X7_checkLives {l : Launch} {g : Gm} {fu : Nat} {σ : SS} {x1 : Int32} {v0 : Unit} (hlt : l.stackTraces = false) (h : f_X7_checkLives fu σ x1 = some (.inl v0)) (sz : Nat) : Met l yX7_checkLives wsX7_checkLives rmX7_checkLives (Pw g (wX g σ) [.ref (g.2.1 0), .int x1] sz) (Qv g (va_A (wX g σ) sz) (wX g σ) v0) 0 0 (va_A (wX g σ) sz) :=
  ofM (own := RX7) hlt (by decide) rfl rfl (Nat.le_of_ble_eq_true rfl) (fun p e s m below meth c hsz C hA ls hl => w_X7_checkLives_0 C h hA hl)
set_option maxRecDepth 100000 in
theorem kx_X7_checkLives {l : Launch} {g : Gm} {fu : Nat} {σ : SS} {x1 : Int32} {j : Nat} (hlt : l.stackTraces = false) (h : f_X7_checkLives fu σ x1 = some (.inr j)) (sz : Nat) : vx_Met l yX7_checkLives wsX7_checkLives rxX7_checkLives (Pw g (wX g σ) [.ref (g.2.1 0), .int x1] sz) (QFv (va_A (wX g σ) sz)) (Xw g (va_A (wX g σ) sz) (wX g σ) j) 1 6 (va_A (wX g σ) sz) :=
  ofX (own := RX7) hlt (by decide) rfl rfl (Nat.le_of_ble_eq_true rfl) (fun p e s m below meth c hsz C hT hA ls hl => v_X7_checkLives_0 C hT h hA hl)
abbrev rmX7_checkCopper : Room := { frames := 0, cells := 0, slots := 0, locals := 0 }
abbrev rxX7_checkCopper : Room := { frames := 6, cells := 1, slots := 6, locals := 90 }
theorem iX7_checkCopper_X1 : ∀ x ∈ wsX10, x ∈ wsX7_checkCopper := by decide +kernel
theorem iX7_checkCopper_X7 : ∀ x ∈ wsX70, x ∈ wsX7_checkCopper := by decide +kernel
set_option maxRecDepth 20000 in
theorem xi_X7_checkCopper_2 : ∀ w ∈ (vx_atS RX7 211 "java/lang/IndexOutOfBoundsException" xNames).filter goodWord, w ∈ wsX7_checkCopper := by decide +kernel
theorem nd_X7_checkCopper : yX7_checkCopper.cls = RX7 ∧ yX7_checkCopper.cls ≠ "java/lang/invoke/MethodHandle" ∧ yX7_checkCopper.cls ≠ "java/lang/invoke/VarHandle" ∧ (parseMethodDescriptor yX7_checkCopper.desc).map (fun d => d.parameters.length) = some 1 := by decide +kernel
def f_X7_checkCopper_15 (fu : Nat) (σ : SS) : Option (Unit ⊕ Nat) :=
  some (.inr 2)
def f_X7_checkCopper (fu : Nat) (σ : SS) (x1 : Int32) : Option (Unit ⊕ Nat) :=
  (if x1 < 0 then f_X7_checkCopper_15 fu σ else (if x1 < (σ.1 16) then some (.inl ()) else f_X7_checkCopper_15 fu σ))
section
variable {p : Program} {l : Launch} {e : Env} {s : State} {m : MethodId} {args : Array Value} {below : List Frame} {meth : Method} {c : Code} {g : Gm} {A : Nat → Prop} {fu : Nat} {v0 : Unit} {τ : SS} {j : Nat}
set_option maxHeartbeats 4000000 in
set_option maxRecDepth 100000 in
theorem w_X7_checkCopper_15 {σ : SS} (C : Cx p l s m args meth c cX7_checkCopper 2 wsX7_checkCopper none RX7 g A) (h : f_X7_checkCopper_15 fu σ = some (.inl v0)) {H : Heap} {locs : List Loc} {ls : Array Slot} (hA : Aw g A s.heap (wX g σ) H locs) (hl : lv_has ls 2 []) : W p l e rmX7_checkCopper s m args below meth c H locs 0 0 (MQ below (Qv g A (wX g σ) v0) args s 0 0 A) (F0 m 15 ls []) := by
  have hx := C.1.1
  have hb := C.1.2.1
  unfold f_X7_checkCopper_15 at h
  cases h
set_option maxHeartbeats 4000000 in
set_option maxRecDepth 100000 in
theorem w_X7_checkCopper_0 {σ : SS} {x1 : Int32} (C : Cx p l s m args meth c cX7_checkCopper 2 wsX7_checkCopper none RX7 g A) (h : f_X7_checkCopper fu σ x1 = some (.inl v0)) {H : Heap} {locs : List Loc} {ls : Array Slot} (hA : Aw g A s.heap (wX g σ) H locs) (hl : lv_has ls 2 [(0, .ref (g.2.1 0)), (1, .int x1)]) : W p l e rmX7_checkCopper s m args below meth c H locs 0 0 (MQ below (Qv g A (wX g σ) v0) args s 0 0 A) (F0 m 0 ls []) := by
  have hx := C.1.1
  have hb := C.1.2.1
  unfold f_X7_checkCopper at h
  refine lv_iload_n hx hb dX7_checkCopper_0 rfl (lv_at hl 1 rfl) ?_
  refine lv_if_lt (tgt := 15) hx hb dX7_checkCopper_1 (by decide) (fun c1 => ?_) (fun c1 => ?_)
  · replace h := (if_pos c1).symm.trans h
    exact w_X7_checkCopper_15 C h hA (lv_sub hl [] rfl)
  · replace h := (if_neg c1).symm.trans h
    refine lv_iload_n hx hb dX7_checkCopper_4 rfl (lv_at hl 1 rfl) ?_
    refine lv_aload_n hx hb dX7_checkCopper_5 rfl (lv_at hl 0 rfl) ?_
    refine Xg_X7_coppers C hA iX7_checkCopper_X7 (by decide +kernel) dX7_checkCopper_6 ?_
    refine Xg_X1_size (v := (σ.1 16)) C hA rfl iX7_checkCopper_X1 (by decide +kernel) dX7_checkCopper_9 ?_
    refine lv_icmp_lt (tgt := 26) hx hb dX7_checkCopper_12 (by decide) (fun c2 => ?_) (fun c2 => ?_)
    · replace h := (if_pos c2).symm.trans h
      obtain rfl := inl_inj0 h
      exact r_vret C hA dX7_checkCopper_26
    · replace h := (if_neg c2).symm.trans h
      exact w_X7_checkCopper_15 C h hA (lv_sub hl [] rfl)
set_option maxHeartbeats 4000000 in
set_option maxRecDepth 100000 in
theorem v_X7_checkCopper_15 {σ : SS} (C : Cx p l s m args meth c cX7_checkCopper 2 wsX7_checkCopper none RX7 g A) (hT : ∀ x ∈ c.exceptionTable.toList, False) (h : f_X7_checkCopper_15 fu σ = some (.inr j)) {H : Heap} {locs : List Loc} {ls : Array Slot} (hA : Aw g A s.heap (wX g σ) H locs) (hl : lv_has ls 2 []) : W p l e rxX7_checkCopper s m args below meth c H locs 0 0 (vx_MQ below (QFv A) (Xw g A (wX g σ) j) args s 1 6 A) (F0 m 15 ls []) := by
  have hx := C.1.1
  have hb := C.1.2.1
  unfold f_X7_checkCopper_15 at h
  obtain rfl := inr_inj0 h
  exact r_throwW (j := 2) (rest := []) C hA hl.1 hT rfl (by decide +kernel) C.2.2.2.2.2.1.2.2.2.2.2.2.2.2.2.2.2.2.2.2.2.2.2.2.2.2.2.2.2.1 (by decide +kernel) (by decide +kernel) xi_X7_checkCopper_2 xn_X7_2 C.2.2.2.2.2.1.2.2.2.2.2.2.2.1 xg_X7_2 dX7_checkCopper_15 dX7_checkCopper_18 dX7_checkCopper_19 dX7_checkCopper_22 dX7_checkCopper_25 (Nat.le_of_ble_eq_true rfl) (Nat.le_of_ble_eq_true rfl) (Nat.le_of_ble_eq_true rfl) (Nat.le_of_ble_eq_true rfl)
set_option maxHeartbeats 4000000 in
set_option maxRecDepth 100000 in
theorem v_X7_checkCopper_0 {σ : SS} {x1 : Int32} (C : Cx p l s m args meth c cX7_checkCopper 2 wsX7_checkCopper none RX7 g A) (hT : ∀ x ∈ c.exceptionTable.toList, False) (h : f_X7_checkCopper fu σ x1 = some (.inr j)) {H : Heap} {locs : List Loc} {ls : Array Slot} (hA : Aw g A s.heap (wX g σ) H locs) (hl : lv_has ls 2 [(0, .ref (g.2.1 0)), (1, .int x1)]) : W p l e rxX7_checkCopper s m args below meth c H locs 0 0 (vx_MQ below (QFv A) (Xw g A (wX g σ) j) args s 1 6 A) (F0 m 0 ls []) := by
  have hx := C.1.1
  have hb := C.1.2.1
  unfold f_X7_checkCopper at h
  refine lv_iload_n hx hb dX7_checkCopper_0 rfl (lv_at hl 1 rfl) ?_
  refine lv_if_lt (tgt := 15) hx hb dX7_checkCopper_1 (by decide) (fun c1 => ?_) (fun c1 => ?_)
  · replace h := (if_pos c1).symm.trans h
    exact v_X7_checkCopper_15 C hT h hA (lv_sub hl [] rfl)
  · replace h := (if_neg c1).symm.trans h
    refine lv_iload_n hx hb dX7_checkCopper_4 rfl (lv_at hl 1 rfl) ?_
    refine lv_aload_n hx hb dX7_checkCopper_5 rfl (lv_at hl 0 rfl) ?_
    refine Xg_X7_coppers C hA iX7_checkCopper_X7 (by decide +kernel) dX7_checkCopper_6 ?_
    refine Xg_X1_size (v := (σ.1 16)) C hA rfl iX7_checkCopper_X1 (by decide +kernel) dX7_checkCopper_9 ?_
    refine lv_icmp_lt (tgt := 26) hx hb dX7_checkCopper_12 (by decide) (fun c2 => ?_) (fun c2 => ?_)
    · replace h := (if_pos c2).symm.trans h
      cases h
    · replace h := (if_neg c2).symm.trans h
      exact v_X7_checkCopper_15 C hT h hA (lv_sub hl [] rfl)
end
set_option maxRecDepth 100000 in
theorem k_X7_checkCopper {l : Launch} {g : Gm} {fu : Nat} {σ : SS} {x1 : Int32} {v0 : Unit} (hlt : l.stackTraces = false) (h : f_X7_checkCopper fu σ x1 = some (.inl v0)) (sz : Nat) : Met l yX7_checkCopper wsX7_checkCopper rmX7_checkCopper (Pw g (wX g σ) [.ref (g.2.1 0), .int x1] sz) (Qv g (va_A (wX g σ) sz) (wX g σ) v0) 0 0 (va_A (wX g σ) sz) :=
  ofM (own := RX7) hlt (by decide) rfl rfl (Nat.le_of_ble_eq_true rfl) (fun p e s m below meth c hsz C hA ls hl => w_X7_checkCopper_0 C h hA hl)
set_option maxRecDepth 100000 in
theorem kx_X7_checkCopper {l : Launch} {g : Gm} {fu : Nat} {σ : SS} {x1 : Int32} {j : Nat} (hlt : l.stackTraces = false) (h : f_X7_checkCopper fu σ x1 = some (.inr j)) (sz : Nat) : vx_Met l yX7_checkCopper wsX7_checkCopper rxX7_checkCopper (Pw g (wX g σ) [.ref (g.2.1 0), .int x1] sz) (QFv (va_A (wX g σ) sz)) (Xw g (va_A (wX g σ) sz) (wX g σ) j) 1 6 (va_A (wX g σ) sz) :=
  ofX (own := RX7) hlt (by decide) rfl rfl (Nat.le_of_ble_eq_true rfl) (fun p e s m below meth c hsz C hT hA ls hl => v_X7_checkCopper_0 C hT h hA hl)
abbrev rmX7_checkHandingOver : Room := { frames := 1, cells := 0, slots := 0, locals := 21 }
abbrev rxX7_checkHandingOver : Room := { frames := 7, cells := 1, slots := 6, locals := 111 }
set_option maxRecDepth 20000 in
theorem xi_X7_checkHandingOver_0 : ∀ w ∈ (vx_atS RX7 70 "java/lang/IllegalArgumentException" xNames).filter goodWord, w ∈ wsX7_checkHandingOver := by decide +kernel
set_option maxRecDepth 20000 in
theorem xn_X7_0 : ∀ w ∈ (vx_atS RX7 70 "java/lang/IllegalArgumentException" xNames).filter (fun w => !goodWord w), w ∈ [Cond.castable "java/lang/IllegalArgumentException" "java/lang/IllegalArgumentException", Cond.declares (Bundle.initS "java/lang/RuntimeException"), Cond.declares (Bundle.initS "java/lang/Exception"), Cond.declares (Bundle.initS Bundle.tN)] := by decide +kernel
set_option maxRecDepth 20000 in
theorem xg_X7_0 : ∀ w ∈ Cond.classLink RX7 66 "java/lang/IllegalArgumentException" :: Cond.initialized "java/lang/IllegalArgumentException" :: vx_atS RX7 70 "java/lang/IllegalArgumentException" xNames, vx_ot w = true := by decide +kernel
theorem nd_X7_checkHandingOver : yX7_checkHandingOver.cls = RX7 ∧ yX7_checkHandingOver.cls ≠ "java/lang/invoke/MethodHandle" ∧ yX7_checkHandingOver.cls ≠ "java/lang/invoke/VarHandle" ∧ (parseMethodDescriptor yX7_checkHandingOver.desc).map (fun d => d.parameters.length) = some 3 := by decide +kernel
def f_X7_checkHandingOver_20 (fu : Nat) (σ : SS) : Option (Unit ⊕ Nat) :=
  some (.inr 0)
def f_X7_checkHandingOver (fu : Nat) (σ : SS) (x1 : Int32) (x2 : Int32) (x3 : Int32) : Option (Unit ⊕ Nat) :=
  bndX0 (f_X7_checkChief fu σ x1) (fun r1 => bndX0 (f_X7_checkChief fu σ x2) (fun r3 => (if x1 = x2 then f_X7_checkHandingOver_20 fu σ else (if (1 : Int32) ≤ x3 then bndX0 (f_X7_checkLives fu σ x1) (fun r7 => bndX0 (f_X7_checkLives fu σ x2) (fun r9 => some (.inl ()))) else f_X7_checkHandingOver_20 fu σ))))
section
variable {p : Program} {l : Launch} {e : Env} {s : State} {m : MethodId} {args : Array Value} {below : List Frame} {meth : Method} {c : Code} {g : Gm} {A : Nat → Prop} {fu : Nat} {v0 : Unit} {τ : SS} {j : Nat}
set_option maxHeartbeats 4000000 in
set_option maxRecDepth 100000 in
theorem w_X7_checkHandingOver_20 {σ : SS} (C : Cx p l s m args meth c cX7_checkHandingOver 4 wsX7_checkHandingOver none RX7 g A) (h : f_X7_checkHandingOver_20 fu σ = some (.inl v0)) {H : Heap} {locs : List Loc} {ls : Array Slot} (hA : Aw g A s.heap (wX g σ) H locs) (hl : lv_has ls 4 []) : W p l e rmX7_checkHandingOver s m args below meth c H locs 0 0 (MQ below (Qv g A (wX g σ) v0) args s 0 0 A) (F0 m 20 ls []) := by
  have hx := C.1.1
  have hb := C.1.2.1
  unfold f_X7_checkHandingOver_20 at h
  cases h
set_option maxHeartbeats 4000000 in
set_option maxRecDepth 100000 in
theorem w_X7_checkHandingOver_0 {σ : SS} {x1 : Int32} {x2 : Int32} {x3 : Int32} (C : Cx p l s m args meth c cX7_checkHandingOver 4 wsX7_checkHandingOver none RX7 g A) (h : f_X7_checkHandingOver fu σ x1 x2 x3 = some (.inl v0)) {H : Heap} {locs : List Loc} {ls : Array Slot} (hA : Aw g A s.heap (wX g σ) H locs) (hl : lv_has ls 4 [(0, .ref (g.2.1 0)), (1, .int x1), (2, .int x2), (3, .int x3)]) : W p l e rmX7_checkHandingOver s m args below meth c H locs 0 0 (MQ below (Qv g A (wX g σ) v0) args s 0 0 A) (F0 m 0 ls []) := by
  have hx := C.1.1
  have hb := C.1.2.1
  unfold f_X7_checkHandingOver at h
  refine lv_aload_n hx hb dX7_checkHandingOver_0 rfl (lv_at hl 0 rfl) ?_
  refine lv_iload_n hx hb dX7_checkHandingOver_1 rfl (lv_at hl 1 rfl) ?_
  obtain ⟨r1, hc2, h⟩ := bdX0 h
  refine r_callVv (r := ()) (w1 := wX g σ) (As := [.int x1]) (rest := []) C hA hl.1 (k_X7_checkChief C.2.2.2.2.2.2 hc2) (cwV 1 C.1.2.2.2.2 gX7_checkHandingOver_X7_checkChief rfl rfl rfl nd_X7_checkChief ⟨Nat.le_of_ble_eq_true rfl, Nat.le_of_ble_eq_true rfl⟩) 0 rfl rfl rfl rfl (Nat.le_of_ble_eq_true rfl) dX7_checkHandingOver_2 ⟨Nat.le_of_ble_eq_true rfl, Nat.le_of_ble_eq_true rfl⟩ (fun H locs hA => ?_)
  refine lv_aload_n hx hb dX7_checkHandingOver_5 rfl (lv_at hl 0 rfl) ?_
  refine lv_iload_n hx hb dX7_checkHandingOver_6 rfl (lv_at hl 2 rfl) ?_
  obtain ⟨r3, hc4, h⟩ := bdX0 h
  refine r_callVv (r := ()) (w1 := wX g σ) (As := [.int x2]) (rest := []) C hA hl.1 (k_X7_checkChief C.2.2.2.2.2.2 hc4) (cwV 1 C.1.2.2.2.2 gX7_checkHandingOver_X7_checkChief rfl rfl rfl nd_X7_checkChief ⟨Nat.le_of_ble_eq_true rfl, Nat.le_of_ble_eq_true rfl⟩) 0 rfl rfl rfl rfl (Nat.le_of_ble_eq_true rfl) dX7_checkHandingOver_7 ⟨Nat.le_of_ble_eq_true rfl, Nat.le_of_ble_eq_true rfl⟩ (fun H locs hA => ?_)
  refine lv_iload_n hx hb dX7_checkHandingOver_10 rfl (lv_at hl 1 rfl) ?_
  refine lv_iload_n hx hb dX7_checkHandingOver_11 rfl (lv_at hl 2 rfl) ?_
  refine lv_icmp_eq (tgt := 20) hx hb dX7_checkHandingOver_12 (by decide) (fun c5 => ?_) (fun c5 => ?_)
  · replace h := (if_pos c5).symm.trans h
    exact w_X7_checkHandingOver_20 C h hA (lv_sub hl [] rfl)
  · replace h := (if_neg c5).symm.trans h
    refine lv_iload_n hx hb dX7_checkHandingOver_15 rfl (lv_at hl 3 rfl) ?_
    refine lv_iconst (v := 1) hx hb dX7_checkHandingOver_16 (by decide) ?_
    refine lv_icmp_ge (tgt := 31) hx hb dX7_checkHandingOver_17 (by decide) (fun c6 => ?_) (fun c6 => ?_)
    · replace h := (if_pos c6).symm.trans h
      refine lv_aload_n hx hb dX7_checkHandingOver_31 rfl (lv_at hl 0 rfl) ?_
      refine lv_iload_n hx hb dX7_checkHandingOver_32 rfl (lv_at hl 1 rfl) ?_
      obtain ⟨r7, hc8, h⟩ := bdX0 h
      refine r_callVv (r := ()) (w1 := wX g σ) (As := [.int x1]) (rest := []) C hA hl.1 (k_X7_checkLives C.2.2.2.2.2.2 hc8) (cwV 1 C.1.2.2.2.2 gX7_checkHandingOver_X7_checkLives rfl rfl rfl nd_X7_checkLives ⟨Nat.le_of_ble_eq_true rfl, Nat.le_of_ble_eq_true rfl⟩) 0 rfl rfl rfl rfl (Nat.le_of_ble_eq_true rfl) dX7_checkHandingOver_33 ⟨Nat.le_of_ble_eq_true rfl, Nat.le_of_ble_eq_true rfl⟩ (fun H locs hA => ?_)
      refine lv_aload_n hx hb dX7_checkHandingOver_36 rfl (lv_at hl 0 rfl) ?_
      refine lv_iload_n hx hb dX7_checkHandingOver_37 rfl (lv_at hl 2 rfl) ?_
      obtain ⟨r9, hc10, h⟩ := bdX0 h
      refine r_callVv (r := ()) (w1 := wX g σ) (As := [.int x2]) (rest := []) C hA hl.1 (k_X7_checkLives C.2.2.2.2.2.2 hc10) (cwV 1 C.1.2.2.2.2 gX7_checkHandingOver_X7_checkLives rfl rfl rfl nd_X7_checkLives ⟨Nat.le_of_ble_eq_true rfl, Nat.le_of_ble_eq_true rfl⟩) 0 rfl rfl rfl rfl (Nat.le_of_ble_eq_true rfl) dX7_checkHandingOver_38 ⟨Nat.le_of_ble_eq_true rfl, Nat.le_of_ble_eq_true rfl⟩ (fun H locs hA => ?_)
      obtain rfl := inl_inj0 h
      exact r_vret C hA dX7_checkHandingOver_41
    · replace h := (if_neg c6).symm.trans h
      exact w_X7_checkHandingOver_20 C h hA (lv_sub hl [] rfl)
set_option maxHeartbeats 4000000 in
set_option maxRecDepth 100000 in
theorem v_X7_checkHandingOver_20 {σ : SS} (C : Cx p l s m args meth c cX7_checkHandingOver 4 wsX7_checkHandingOver none RX7 g A) (hT : ∀ x ∈ c.exceptionTable.toList, False) (h : f_X7_checkHandingOver_20 fu σ = some (.inr j)) {H : Heap} {locs : List Loc} {ls : Array Slot} (hA : Aw g A s.heap (wX g σ) H locs) (hl : lv_has ls 4 []) : W p l e rxX7_checkHandingOver s m args below meth c H locs 0 0 (vx_MQ below (QFv A) (Xw g A (wX g σ) j) args s 1 6 A) (F0 m 20 ls []) := by
  have hx := C.1.1
  have hb := C.1.2.1
  unfold f_X7_checkHandingOver_20 at h
  obtain rfl := inr_inj0 h
  exact r_throwW (j := 0) (rest := []) C hA hl.1 hT rfl (by decide +kernel) C.2.2.2.2.2.1.2.2.2.2.2.2.2.2.2.2.2.2.2.2.2.2.2.2.2.2.2.2.2.2.1 (by decide +kernel) (by decide +kernel) xi_X7_checkHandingOver_0 xn_X7_0 C.2.2.2.2.2.1.2.2.2.2.2.1 xg_X7_0 dX7_checkHandingOver_20 dX7_checkHandingOver_23 dX7_checkHandingOver_24 dX7_checkHandingOver_27 dX7_checkHandingOver_30 (Nat.le_of_ble_eq_true rfl) (Nat.le_of_ble_eq_true rfl) (Nat.le_of_ble_eq_true rfl) (Nat.le_of_ble_eq_true rfl)
set_option maxHeartbeats 4000000 in
set_option maxRecDepth 100000 in
theorem v_X7_checkHandingOver_0 {σ : SS} {x1 : Int32} {x2 : Int32} {x3 : Int32} (C : Cx p l s m args meth c cX7_checkHandingOver 4 wsX7_checkHandingOver none RX7 g A) (hT : ∀ x ∈ c.exceptionTable.toList, False) (h : f_X7_checkHandingOver fu σ x1 x2 x3 = some (.inr j)) {H : Heap} {locs : List Loc} {ls : Array Slot} (hA : Aw g A s.heap (wX g σ) H locs) (hl : lv_has ls 4 [(0, .ref (g.2.1 0)), (1, .int x1), (2, .int x2), (3, .int x3)]) : W p l e rxX7_checkHandingOver s m args below meth c H locs 0 0 (vx_MQ below (QFv A) (Xw g A (wX g σ) j) args s 1 6 A) (F0 m 0 ls []) := by
  have hx := C.1.1
  have hb := C.1.2.1
  unfold f_X7_checkHandingOver at h
  refine lv_aload_n hx hb dX7_checkHandingOver_0 rfl (lv_at hl 0 rfl) ?_
  refine lv_iload_n hx hb dX7_checkHandingOver_1 rfl (lv_at hl 1 rfl) ?_
  rcases bdX0t h with ⟨r1, hc2, h⟩ | hc2
  rotate_left
  · exact r_xVv (w1 := wX g σ) (As := [.int x1]) (rest := []) C hA hl.1 hT (kx_X7_checkChief C.2.2.2.2.2.2 hc2) (cwV 1 C.1.2.2.2.2 gX7_checkHandingOver_X7_checkChief rfl rfl rfl nd_X7_checkChief ⟨Nat.le_of_ble_eq_true rfl, Nat.le_of_ble_eq_true rfl⟩) 0 rfl rfl rfl rfl (Nat.le_of_ble_eq_true rfl) dX7_checkHandingOver_2 ⟨Nat.le_of_ble_eq_true rfl, Nat.le_of_ble_eq_true rfl⟩
  refine r_callVv (r := ()) (w1 := wX g σ) (As := [.int x1]) (rest := []) C hA hl.1 (k_X7_checkChief C.2.2.2.2.2.2 hc2) (cwV 1 C.1.2.2.2.2 gX7_checkHandingOver_X7_checkChief rfl rfl rfl nd_X7_checkChief ⟨Nat.le_of_ble_eq_true rfl, Nat.le_of_ble_eq_true rfl⟩) 0 rfl rfl rfl rfl (Nat.le_of_ble_eq_true rfl) dX7_checkHandingOver_2 ⟨Nat.le_of_ble_eq_true rfl, Nat.le_of_ble_eq_true rfl⟩ (fun H locs hA => ?_)
  refine lv_aload_n hx hb dX7_checkHandingOver_5 rfl (lv_at hl 0 rfl) ?_
  refine lv_iload_n hx hb dX7_checkHandingOver_6 rfl (lv_at hl 2 rfl) ?_
  rcases bdX0t h with ⟨r3, hc4, h⟩ | hc4
  rotate_left
  · exact r_xVv (w1 := wX g σ) (As := [.int x2]) (rest := []) C hA hl.1 hT (kx_X7_checkChief C.2.2.2.2.2.2 hc4) (cwV 1 C.1.2.2.2.2 gX7_checkHandingOver_X7_checkChief rfl rfl rfl nd_X7_checkChief ⟨Nat.le_of_ble_eq_true rfl, Nat.le_of_ble_eq_true rfl⟩) 0 rfl rfl rfl rfl (Nat.le_of_ble_eq_true rfl) dX7_checkHandingOver_7 ⟨Nat.le_of_ble_eq_true rfl, Nat.le_of_ble_eq_true rfl⟩
  refine r_callVv (r := ()) (w1 := wX g σ) (As := [.int x2]) (rest := []) C hA hl.1 (k_X7_checkChief C.2.2.2.2.2.2 hc4) (cwV 1 C.1.2.2.2.2 gX7_checkHandingOver_X7_checkChief rfl rfl rfl nd_X7_checkChief ⟨Nat.le_of_ble_eq_true rfl, Nat.le_of_ble_eq_true rfl⟩) 0 rfl rfl rfl rfl (Nat.le_of_ble_eq_true rfl) dX7_checkHandingOver_7 ⟨Nat.le_of_ble_eq_true rfl, Nat.le_of_ble_eq_true rfl⟩ (fun H locs hA => ?_)
  refine lv_iload_n hx hb dX7_checkHandingOver_10 rfl (lv_at hl 1 rfl) ?_
  refine lv_iload_n hx hb dX7_checkHandingOver_11 rfl (lv_at hl 2 rfl) ?_
  refine lv_icmp_eq (tgt := 20) hx hb dX7_checkHandingOver_12 (by decide) (fun c5 => ?_) (fun c5 => ?_)
  · replace h := (if_pos c5).symm.trans h
    exact v_X7_checkHandingOver_20 C hT h hA (lv_sub hl [] rfl)
  · replace h := (if_neg c5).symm.trans h
    refine lv_iload_n hx hb dX7_checkHandingOver_15 rfl (lv_at hl 3 rfl) ?_
    refine lv_iconst (v := 1) hx hb dX7_checkHandingOver_16 (by decide) ?_
    refine lv_icmp_ge (tgt := 31) hx hb dX7_checkHandingOver_17 (by decide) (fun c6 => ?_) (fun c6 => ?_)
    · replace h := (if_pos c6).symm.trans h
      refine lv_aload_n hx hb dX7_checkHandingOver_31 rfl (lv_at hl 0 rfl) ?_
      refine lv_iload_n hx hb dX7_checkHandingOver_32 rfl (lv_at hl 1 rfl) ?_
      rcases bdX0t h with ⟨r7, hc8, h⟩ | hc8
      rotate_left
      · exact r_xVv (w1 := wX g σ) (As := [.int x1]) (rest := []) C hA hl.1 hT (kx_X7_checkLives C.2.2.2.2.2.2 hc8) (cwV 1 C.1.2.2.2.2 gX7_checkHandingOver_X7_checkLives rfl rfl rfl nd_X7_checkLives ⟨Nat.le_of_ble_eq_true rfl, Nat.le_of_ble_eq_true rfl⟩) 0 rfl rfl rfl rfl (Nat.le_of_ble_eq_true rfl) dX7_checkHandingOver_33 ⟨Nat.le_of_ble_eq_true rfl, Nat.le_of_ble_eq_true rfl⟩
      refine r_callVv (r := ()) (w1 := wX g σ) (As := [.int x1]) (rest := []) C hA hl.1 (k_X7_checkLives C.2.2.2.2.2.2 hc8) (cwV 1 C.1.2.2.2.2 gX7_checkHandingOver_X7_checkLives rfl rfl rfl nd_X7_checkLives ⟨Nat.le_of_ble_eq_true rfl, Nat.le_of_ble_eq_true rfl⟩) 0 rfl rfl rfl rfl (Nat.le_of_ble_eq_true rfl) dX7_checkHandingOver_33 ⟨Nat.le_of_ble_eq_true rfl, Nat.le_of_ble_eq_true rfl⟩ (fun H locs hA => ?_)
      refine lv_aload_n hx hb dX7_checkHandingOver_36 rfl (lv_at hl 0 rfl) ?_
      refine lv_iload_n hx hb dX7_checkHandingOver_37 rfl (lv_at hl 2 rfl) ?_
      rcases bdX0t h with ⟨r9, hc10, h⟩ | hc10
      rotate_left
      · exact r_xVv (w1 := wX g σ) (As := [.int x2]) (rest := []) C hA hl.1 hT (kx_X7_checkLives C.2.2.2.2.2.2 hc10) (cwV 1 C.1.2.2.2.2 gX7_checkHandingOver_X7_checkLives rfl rfl rfl nd_X7_checkLives ⟨Nat.le_of_ble_eq_true rfl, Nat.le_of_ble_eq_true rfl⟩) 0 rfl rfl rfl rfl (Nat.le_of_ble_eq_true rfl) dX7_checkHandingOver_38 ⟨Nat.le_of_ble_eq_true rfl, Nat.le_of_ble_eq_true rfl⟩
      refine r_callVv (r := ()) (w1 := wX g σ) (As := [.int x2]) (rest := []) C hA hl.1 (k_X7_checkLives C.2.2.2.2.2.2 hc10) (cwV 1 C.1.2.2.2.2 gX7_checkHandingOver_X7_checkLives rfl rfl rfl nd_X7_checkLives ⟨Nat.le_of_ble_eq_true rfl, Nat.le_of_ble_eq_true rfl⟩) 0 rfl rfl rfl rfl (Nat.le_of_ble_eq_true rfl) dX7_checkHandingOver_38 ⟨Nat.le_of_ble_eq_true rfl, Nat.le_of_ble_eq_true rfl⟩ (fun H locs hA => ?_)
      cases h
    · replace h := (if_neg c6).symm.trans h
      exact v_X7_checkHandingOver_20 C hT h hA (lv_sub hl [] rfl)
end
set_option maxRecDepth 100000 in
theorem k_X7_checkHandingOver {l : Launch} {g : Gm} {fu : Nat} {σ : SS} {x1 : Int32} {x2 : Int32} {x3 : Int32} {v0 : Unit} (hlt : l.stackTraces = false) (h : f_X7_checkHandingOver fu σ x1 x2 x3 = some (.inl v0)) (sz : Nat) : Met l yX7_checkHandingOver wsX7_checkHandingOver rmX7_checkHandingOver (Pw g (wX g σ) [.ref (g.2.1 0), .int x1, .int x2, .int x3] sz) (Qv g (va_A (wX g σ) sz) (wX g σ) v0) 0 0 (va_A (wX g σ) sz) :=
  ofM (own := RX7) hlt (by decide) rfl rfl (Nat.le_of_ble_eq_true rfl) (fun p e s m below meth c hsz C hA ls hl => w_X7_checkHandingOver_0 C h hA hl)
set_option maxRecDepth 100000 in
theorem kx_X7_checkHandingOver {l : Launch} {g : Gm} {fu : Nat} {σ : SS} {x1 : Int32} {x2 : Int32} {x3 : Int32} {j : Nat} (hlt : l.stackTraces = false) (h : f_X7_checkHandingOver fu σ x1 x2 x3 = some (.inr j)) (sz : Nat) : vx_Met l yX7_checkHandingOver wsX7_checkHandingOver rxX7_checkHandingOver (Pw g (wX g σ) [.ref (g.2.1 0), .int x1, .int x2, .int x3] sz) (QFv (va_A (wX g σ) sz)) (Xw g (va_A (wX g σ) sz) (wX g σ) j) 1 6 (va_A (wX g σ) sz) :=
  ofX (own := RX7) hlt (by decide) rfl rfl (Nat.le_of_ble_eq_true rfl) (fun p e s m below meth c hsz C hT hA ls hl => v_X7_checkHandingOver_0 C hT h hA hl)
abbrev rmX7_checkFeast : Room := { frames := 1, cells := 0, slots := 0, locals := 21 }
abbrev rxX7_checkFeast : Room := { frames := 7, cells := 1, slots := 6, locals := 111 }
theorem iX7_checkFeast_X0 : ∀ x ∈ wsX00, x ∈ wsX7_checkFeast := by decide +kernel
theorem iX7_checkFeast_X7 : ∀ x ∈ wsX70, x ∈ wsX7_checkFeast := by decide +kernel
set_option maxRecDepth 20000 in
theorem xi_X7_checkFeast_0 : ∀ w ∈ (vx_atS RX7 70 "java/lang/IllegalArgumentException" xNames).filter goodWord, w ∈ wsX7_checkFeast := by decide +kernel
theorem nd_X7_checkFeast : yX7_checkFeast.cls = RX7 ∧ yX7_checkFeast.cls ≠ "java/lang/invoke/MethodHandle" ∧ yX7_checkFeast.cls ≠ "java/lang/invoke/VarHandle" ∧ (parseMethodDescriptor yX7_checkFeast.desc).map (fun d => d.parameters.length) = some 4 := by decide +kernel
def f_X7_checkFeast_110 (fu : Nat) (k82 : SS → (Int32 × Int32) → Option (Unit ⊕ Nat)) (σ : SS) (x5 : Int32) (x6 : Int32) : Option (Unit ⊕ Nat) :=
  k82 σ (x5, (x6 + 1))
def f_X7_checkFeast_82 (fu : Nat) (k82 : SS → (Int32 × Int32) → Option (Unit ⊕ Nat)) (σ : SS) (x5 : Int32) (x6 : Int32) : Option (Unit ⊕ Nat) :=
  (if (σ.1 14) ≤ x6 then some (.inl ()) else bnd1 (f_X7_isIn fu σ x5 x6) (fun r2 => (if r2 = 0 then f_X7_checkFeast_110 fu k82 σ x5 x6 else bndX0 (f_X7_checkLives fu σ x6) (fun r5 => f_X7_checkFeast_110 fu k82 σ x5 x6))))
def f_X7_checkFeast_L82 (fu : Nat) : SS → (Int32 × Int32) → Option (Unit ⊕ Nat) := loopN (fun k82 σ x => f_X7_checkFeast_82 fu k82 σ x.1 x.2) fu
def f_X7_checkFeast_63 (fu : Nat) (σ : SS) : Option (Unit ⊕ Nat) :=
  some (.inr 0)
def f_X7_checkFeast_40 (fu : Nat) (σ : SS) : Option (Unit ⊕ Nat) :=
  some (.inr 0)
def f_X7_checkFeast (fu : Nat) (σ : SS) (x1 : Int32) (x2 : Int32) (x3 : Int32) (x4 : Int32) : Option (Unit ⊕ Nat) :=
  bndX0 (f_X7_checkChief fu σ x1) (fun r1 => (if ((x2 ||| x4) >>> ((σ.1 14) &&& 31)) = 0 then bnd1 (f_X7_isIn fu σ (x2 ||| x4) x1) (fun r4 => (if r4 = 0 then (if (x2 &&& x4) = 0 then (if x3 < (1 : Int32) then f_X7_checkFeast_63 fu σ else (if x3 ≤ (100000 : Int32) then bndX0 (f_X7_checkLives fu σ x1) (fun r10 => f_X7_checkFeast_L82 fu σ ((x2 ||| x4), (0 : Int32))) else f_X7_checkFeast_63 fu σ)) else f_X7_checkFeast_40 fu σ) else f_X7_checkFeast_40 fu σ)) else f_X7_checkFeast_40 fu σ))
section
variable {p : Program} {l : Launch} {e : Env} {s : State} {m : MethodId} {args : Array Value} {below : List Frame} {meth : Method} {c : Code} {g : Gm} {A : Nat → Prop} {fu : Nat} {v0 : Unit} {τ : SS} {j : Nat}
set_option maxHeartbeats 4000000 in
set_option maxRecDepth 100000 in
theorem w_X7_checkFeast_110 {σ : SS} {x5 : Int32} {x6 : Int32} (C : Cx p l s m args meth c cX7_checkFeast 7 wsX7_checkFeast none RX7 g A) {k82 : SS → (Int32 × Int32) → Option (Unit ⊕ Nat)} (hk82 : ∀ (σ1 : SS) (x : Int32 × Int32), σ1 = σ → k82 σ1 x = some (.inl v0) → ∀ (H : Heap) (locs : List Loc) (ls : Array Slot), Aw g A s.heap (wX g σ) H locs → lv_has ls 7 [(0, .ref (g.2.1 0)), (5, .int x.1), (6, .int x.2)] → W p l e rmX7_checkFeast s m args below meth c H locs 0 0 (MQ below (Qv g A (wX g σ) v0) args s 0 0 A) (F0 m 82 ls [])) (h : f_X7_checkFeast_110 fu k82 σ x5 x6 = some (.inl v0)) {H : Heap} {locs : List Loc} {ls : Array Slot} (hA : Aw g A s.heap (wX g σ) H locs) (hl : lv_has ls 7 [(0, .ref (g.2.1 0)), (5, .int x5), (6, .int x6)]) : W p l e rmX7_checkFeast s m args below meth c H locs 0 0 (MQ below (Qv g A (wX g σ) v0) args s 0 0 A) (F0 m 110 ls []) := by
  have hx := C.1.1
  have hb := C.1.2.1
  unfold f_X7_checkFeast_110 at h
  refine lv_iinc (v := (x6 + 1)) (lv' := [(6, .int (x6 + 1)), (0, .ref (g.2.1 0)), (5, .int x5)]) hx hb dX7_checkFeast_110 hl (k := 2) rfl rfl (by decide) rfl (fun ls hl => ?_)
  refine lv_goto (tgt := 82) hx hb dX7_checkFeast_113 (by decide) ?_
  exact hk82 _ _ rfl h _ _ _ hA (lv_sub hl [1, 2, 0] rfl)
set_option maxHeartbeats 4000000 in
set_option maxRecDepth 100000 in
theorem w_X7_checkFeast_82 {σ : SS} {x5 : Int32} {x6 : Int32} (C : Cx p l s m args meth c cX7_checkFeast 7 wsX7_checkFeast none RX7 g A) {k82 : SS → (Int32 × Int32) → Option (Unit ⊕ Nat)} (hk82 : ∀ (σ1 : SS) (x : Int32 × Int32), σ1 = σ → k82 σ1 x = some (.inl v0) → ∀ (H : Heap) (locs : List Loc) (ls : Array Slot), Aw g A s.heap (wX g σ) H locs → lv_has ls 7 [(0, .ref (g.2.1 0)), (5, .int x.1), (6, .int x.2)] → W p l e rmX7_checkFeast s m args below meth c H locs 0 0 (MQ below (Qv g A (wX g σ) v0) args s 0 0 A) (F0 m 82 ls [])) (h : f_X7_checkFeast_82 fu k82 σ x5 x6 = some (.inl v0)) {H : Heap} {locs : List Loc} {ls : Array Slot} (hA : Aw g A s.heap (wX g σ) H locs) (hl : lv_has ls 7 [(0, .ref (g.2.1 0)), (5, .int x5), (6, .int x6)]) : W p l e rmX7_checkFeast s m args below meth c H locs 0 0 (MQ below (Qv g A (wX g σ) v0) args s 0 0 A) (F0 m 82 ls []) := by
  have hx := C.1.1
  have hb := C.1.2.1
  unfold f_X7_checkFeast_82 at h
  refine lv_iload hx hb dX7_checkFeast_82 (lv_at hl 2 rfl) ?_
  refine lv_aload_n hx hb dX7_checkFeast_84 rfl (lv_at hl 0 rfl) ?_
  refine Xg_X7_chiefs C hA iX7_checkFeast_X7 (by decide +kernel) dX7_checkFeast_85 ?_
  refine Xg_X0_size (v := (σ.1 14)) C hA rfl iX7_checkFeast_X0 (by decide +kernel) dX7_checkFeast_88 ?_
  refine lv_icmp_ge (tgt := 116) hx hb dX7_checkFeast_91 (by decide) (fun c1 => ?_) (fun c1 => ?_)
  · replace h := (if_pos c1).symm.trans h
    obtain rfl := inl_inj0 h
    exact r_vret C hA dX7_checkFeast_116
  · replace h := (if_neg c1).symm.trans h
    refine lv_iload hx hb dX7_checkFeast_94 (lv_at hl 1 rfl) ?_
    refine lv_iload hx hb dX7_checkFeast_96 (lv_at hl 2 rfl) ?_
    obtain ⟨r2, hc3, h⟩ := bd1 h
    refine r_callSi (r := r2) (w1 := wX g σ) (As := [.int x5, .int x6]) (rest := []) C hA hl.1 (k_X7_isIn (g := g) C.2.2.2.2.2.2 hc3) (va_cwS 2 C.1.2.2.2.2 gX7_checkFeast_X7_isIn rfl rfl rfl nd_X7_isIn ⟨Nat.le_of_ble_eq_true rfl, Nat.le_of_ble_eq_true rfl⟩) rfl rfl (Nat.le_of_ble_eq_true rfl) dX7_checkFeast_98 ⟨Nat.le_of_ble_eq_true rfl, Nat.le_of_ble_eq_true rfl⟩ (fun H locs hA => ?_)
    refine lv_if_eq (tgt := 110) hx hb dX7_checkFeast_101 (by decide) (fun c4 => ?_) (fun c4 => ?_)
    · replace h := (if_pos c4).symm.trans h
      exact w_X7_checkFeast_110 C hk82 h hA (lv_sub hl [0, 1, 2] rfl)
    · replace h := (if_neg c4).symm.trans h
      refine lv_aload_n hx hb dX7_checkFeast_104 rfl (lv_at hl 0 rfl) ?_
      refine lv_iload hx hb dX7_checkFeast_105 (lv_at hl 2 rfl) ?_
      obtain ⟨r5, hc6, h⟩ := bdX0 h
      refine r_callVv (r := ()) (w1 := wX g σ) (As := [.int x6]) (rest := []) C hA hl.1 (k_X7_checkLives C.2.2.2.2.2.2 hc6) (cwV 1 C.1.2.2.2.2 gX7_checkFeast_X7_checkLives rfl rfl rfl nd_X7_checkLives ⟨Nat.le_of_ble_eq_true rfl, Nat.le_of_ble_eq_true rfl⟩) 0 rfl rfl rfl rfl (Nat.le_of_ble_eq_true rfl) dX7_checkFeast_107 ⟨Nat.le_of_ble_eq_true rfl, Nat.le_of_ble_eq_true rfl⟩ (fun H locs hA => ?_)
      exact w_X7_checkFeast_110 C hk82 h hA (lv_sub hl [0, 1, 2] rfl)
set_option maxHeartbeats 4000000 in
theorem w_X7_checkFeast_L82 {σ : SS} {x : Int32 × Int32} (C : Cx p l s m args meth c cX7_checkFeast 7 wsX7_checkFeast none RX7 g A) (h : f_X7_checkFeast_L82 fu σ x = some (.inl v0)) {H : Heap} {locs : List Loc} {ls : Array Slot} (hA : Aw g A s.heap (wX g σ) H locs) (hl : lv_has ls 7 [(0, .ref (g.2.1 0)), (5, .int x.1), (6, .int x.2)]) : W p l e rmX7_checkFeast s m args below meth c H locs 0 0 (MQ below (Qv g A (wX g σ) v0) args s 0 0 A) (F0 m 82 ls []) := by
  refine loopW (P := fun σ1 x => σ1 = σ → ∀ (H : Heap) (locs : List Loc) (ls : Array Slot), Aw g A s.heap (wX g σ) H locs → lv_has ls 7 [(0, .ref (g.2.1 0)), (5, .int x.1), (6, .int x.2)] → W p l e rmX7_checkFeast s m args below meth c H locs 0 0 (MQ below (Qv g A (wX g σ) v0) args s 0 0 A) (F0 m 82 ls [])) (fun k hk σ1 x h9 e1 H locs ls hA9 hl9 => ?_) fu σ x h rfl H locs ls hA hl
  subst e1
  exact w_X7_checkFeast_82 C (fun σ2 x e2 h2 => hk σ2 x h2 e2) h9 hA9 hl9
set_option maxHeartbeats 4000000 in
set_option maxRecDepth 100000 in
theorem w_X7_checkFeast_63 {σ : SS} (C : Cx p l s m args meth c cX7_checkFeast 7 wsX7_checkFeast none RX7 g A) (h : f_X7_checkFeast_63 fu σ = some (.inl v0)) {H : Heap} {locs : List Loc} {ls : Array Slot} (hA : Aw g A s.heap (wX g σ) H locs) (hl : lv_has ls 7 []) : W p l e rmX7_checkFeast s m args below meth c H locs 0 0 (MQ below (Qv g A (wX g σ) v0) args s 0 0 A) (F0 m 63 ls []) := by
  have hx := C.1.1
  have hb := C.1.2.1
  unfold f_X7_checkFeast_63 at h
  cases h
set_option maxHeartbeats 4000000 in
set_option maxRecDepth 100000 in
theorem w_X7_checkFeast_40 {σ : SS} (C : Cx p l s m args meth c cX7_checkFeast 7 wsX7_checkFeast none RX7 g A) (h : f_X7_checkFeast_40 fu σ = some (.inl v0)) {H : Heap} {locs : List Loc} {ls : Array Slot} (hA : Aw g A s.heap (wX g σ) H locs) (hl : lv_has ls 7 []) : W p l e rmX7_checkFeast s m args below meth c H locs 0 0 (MQ below (Qv g A (wX g σ) v0) args s 0 0 A) (F0 m 40 ls []) := by
  have hx := C.1.1
  have hb := C.1.2.1
  unfold f_X7_checkFeast_40 at h
  cases h
set_option maxHeartbeats 4000000 in
set_option maxRecDepth 100000 in
theorem w_X7_checkFeast_0 {σ : SS} {x1 : Int32} {x2 : Int32} {x3 : Int32} {x4 : Int32} (C : Cx p l s m args meth c cX7_checkFeast 7 wsX7_checkFeast none RX7 g A) (h : f_X7_checkFeast fu σ x1 x2 x3 x4 = some (.inl v0)) {H : Heap} {locs : List Loc} {ls : Array Slot} (hA : Aw g A s.heap (wX g σ) H locs) (hl : lv_has ls 7 [(0, .ref (g.2.1 0)), (1, .int x1), (2, .int x2), (3, .int x3), (4, .int x4)]) : W p l e rmX7_checkFeast s m args below meth c H locs 0 0 (MQ below (Qv g A (wX g σ) v0) args s 0 0 A) (F0 m 0 ls []) := by
  have hx := C.1.1
  have hb := C.1.2.1
  unfold f_X7_checkFeast at h
  refine lv_aload_n hx hb dX7_checkFeast_0 rfl (lv_at hl 0 rfl) ?_
  refine lv_iload_n hx hb dX7_checkFeast_1 rfl (lv_at hl 1 rfl) ?_
  obtain ⟨r1, hc2, h⟩ := bdX0 h
  refine r_callVv (r := ()) (w1 := wX g σ) (As := [.int x1]) (rest := []) C hA hl.1 (k_X7_checkChief C.2.2.2.2.2.2 hc2) (cwV 1 C.1.2.2.2.2 gX7_checkFeast_X7_checkChief rfl rfl rfl nd_X7_checkChief ⟨Nat.le_of_ble_eq_true rfl, Nat.le_of_ble_eq_true rfl⟩) 0 rfl rfl rfl rfl (Nat.le_of_ble_eq_true rfl) dX7_checkFeast_2 ⟨Nat.le_of_ble_eq_true rfl, Nat.le_of_ble_eq_true rfl⟩ (fun H locs hA => ?_)
  refine lv_iload_n hx hb dX7_checkFeast_5 rfl (lv_at hl 2 rfl) ?_
  refine lv_iload hx hb dX7_checkFeast_6 (lv_at hl 4 rfl) ?_
  refine lv_ior hx hb dX7_checkFeast_8 ?_
  refine lv_istore (lv' := [(5, .int (x2 ||| x4)), (0, .ref (g.2.1 0)), (1, .int x1), (2, .int x2), (3, .int x3), (4, .int x4)]) hx hb dX7_checkFeast_9 hl (by decide) rfl (fun ls hl => ?_)
  refine lv_iload hx hb dX7_checkFeast_11 (lv_at hl 0 rfl) ?_
  refine lv_aload_n hx hb dX7_checkFeast_13 rfl (lv_at hl 1 rfl) ?_
  refine Xg_X7_chiefs C hA iX7_checkFeast_X7 (by decide +kernel) dX7_checkFeast_14 ?_
  refine Xg_X0_size (v := (σ.1 14)) C hA rfl iX7_checkFeast_X0 (by decide +kernel) dX7_checkFeast_17 ?_
  refine lv_ishr hx hb dX7_checkFeast_20 ?_
  refine lv_if_ne (tgt := 40) hx hb dX7_checkFeast_21 (by decide) (fun c3 => ?_) (fun c3 => ?_)
  · replace h := (if_neg c3).symm.trans h
    exact w_X7_checkFeast_40 C h hA (lv_sub hl [] rfl)
  · replace h := (if_pos c3).symm.trans h
    refine lv_iload hx hb dX7_checkFeast_24 (lv_at hl 0 rfl) ?_
    refine lv_iload_n hx hb dX7_checkFeast_26 rfl (lv_at hl 2 rfl) ?_
    obtain ⟨r4, hc5, h⟩ := bd1 h
    refine r_callSi (r := r4) (w1 := wX g σ) (As := [.int (x2 ||| x4), .int x1]) (rest := []) C hA hl.1 (k_X7_isIn (g := g) C.2.2.2.2.2.2 hc5) (va_cwS 2 C.1.2.2.2.2 gX7_checkFeast_X7_isIn rfl rfl rfl nd_X7_isIn ⟨Nat.le_of_ble_eq_true rfl, Nat.le_of_ble_eq_true rfl⟩) rfl rfl (Nat.le_of_ble_eq_true rfl) dX7_checkFeast_27 ⟨Nat.le_of_ble_eq_true rfl, Nat.le_of_ble_eq_true rfl⟩ (fun H locs hA => ?_)
    refine lv_if_ne (tgt := 40) hx hb dX7_checkFeast_30 (by decide) (fun c6 => ?_) (fun c6 => ?_)
    · replace h := (if_neg c6).symm.trans h
      exact w_X7_checkFeast_40 C h hA (lv_sub hl [] rfl)
    · replace h := (if_pos c6).symm.trans h
      refine lv_iload_n hx hb dX7_checkFeast_33 rfl (lv_at hl 3 rfl) ?_
      refine lv_iload hx hb dX7_checkFeast_34 (lv_at hl 5 rfl) ?_
      refine lv_iand hx hb dX7_checkFeast_36 ?_
      refine lv_if_eq (tgt := 51) hx hb dX7_checkFeast_37 (by decide) (fun c7 => ?_) (fun c7 => ?_)
      · replace h := (if_pos c7).symm.trans h
        refine lv_iload_n hx hb dX7_checkFeast_51 rfl (lv_at hl 4 rfl) ?_
        refine lv_iconst (v := 1) hx hb dX7_checkFeast_52 (by decide) ?_
        refine lv_icmp_lt (tgt := 63) hx hb dX7_checkFeast_53 (by decide) (fun c8 => ?_) (fun c8 => ?_)
        · replace h := (if_pos c8).symm.trans h
          exact w_X7_checkFeast_63 C h hA (lv_sub hl [] rfl)
        · replace h := (if_neg c8).symm.trans h
          refine lv_iload_n hx hb dX7_checkFeast_56 rfl (lv_at hl 4 rfl) ?_
          refine lv_ldcw (v := 100000) hx hb C.1.2.2.2.1 (C.1.2.2.2.2 (.constant RX7 268 (100000)) (by decide +kernel)) dX7_checkFeast_57 ?_
          refine lv_icmp_le (tgt := 74) hx hb dX7_checkFeast_60 (by decide) (fun c9 => ?_) (fun c9 => ?_)
          · replace h := (if_pos c9).symm.trans h
            refine lv_aload_n hx hb dX7_checkFeast_74 rfl (lv_at hl 1 rfl) ?_
            refine lv_iload_n hx hb dX7_checkFeast_75 rfl (lv_at hl 2 rfl) ?_
            obtain ⟨r10, hc11, h⟩ := bdX0 h
            refine r_callVv (r := ()) (w1 := wX g σ) (As := [.int x1]) (rest := []) C hA hl.1 (k_X7_checkLives C.2.2.2.2.2.2 hc11) (cwV 1 C.1.2.2.2.2 gX7_checkFeast_X7_checkLives rfl rfl rfl nd_X7_checkLives ⟨Nat.le_of_ble_eq_true rfl, Nat.le_of_ble_eq_true rfl⟩) 0 rfl rfl rfl rfl (Nat.le_of_ble_eq_true rfl) dX7_checkFeast_76 ⟨Nat.le_of_ble_eq_true rfl, Nat.le_of_ble_eq_true rfl⟩ (fun H locs hA => ?_)
            refine lv_iconst (v := 0) hx hb dX7_checkFeast_79 (by decide) ?_
            refine lv_istore (lv' := [(6, .int (0 : Int32)), (5, .int (x2 ||| x4)), (0, .ref (g.2.1 0)), (1, .int x1), (2, .int x2), (3, .int x3), (4, .int x4)]) hx hb dX7_checkFeast_80 hl (by decide) rfl (fun ls hl => ?_)
            exact w_X7_checkFeast_L82 C h hA (lv_sub hl [2, 1, 0] rfl)
          · replace h := (if_neg c9).symm.trans h
            exact w_X7_checkFeast_63 C h hA (lv_sub hl [] rfl)
      · replace h := (if_neg c7).symm.trans h
        exact w_X7_checkFeast_40 C h hA (lv_sub hl [] rfl)
set_option maxHeartbeats 4000000 in
set_option maxRecDepth 100000 in
theorem v_X7_checkFeast_110 {σ : SS} {x5 : Int32} {x6 : Int32} (C : Cx p l s m args meth c cX7_checkFeast 7 wsX7_checkFeast none RX7 g A) (hT : ∀ x ∈ c.exceptionTable.toList, False) {k82 : SS → (Int32 × Int32) → Option (Unit ⊕ Nat)} (hk82 : ∀ (σ1 : SS) (x : Int32 × Int32), σ1 = σ → k82 σ1 x = some (.inr j) → ∀ (H : Heap) (locs : List Loc) (ls : Array Slot), Aw g A s.heap (wX g σ) H locs → lv_has ls 7 [(0, .ref (g.2.1 0)), (5, .int x.1), (6, .int x.2)] → W p l e rxX7_checkFeast s m args below meth c H locs 0 0 (vx_MQ below (QFv A) (Xw g A (wX g σ) j) args s 1 6 A) (F0 m 82 ls [])) (h : f_X7_checkFeast_110 fu k82 σ x5 x6 = some (.inr j)) {H : Heap} {locs : List Loc} {ls : Array Slot} (hA : Aw g A s.heap (wX g σ) H locs) (hl : lv_has ls 7 [(0, .ref (g.2.1 0)), (5, .int x5), (6, .int x6)]) : W p l e rxX7_checkFeast s m args below meth c H locs 0 0 (vx_MQ below (QFv A) (Xw g A (wX g σ) j) args s 1 6 A) (F0 m 110 ls []) := by
  have hx := C.1.1
  have hb := C.1.2.1
  unfold f_X7_checkFeast_110 at h
  refine lv_iinc (v := (x6 + 1)) (lv' := [(6, .int (x6 + 1)), (0, .ref (g.2.1 0)), (5, .int x5)]) hx hb dX7_checkFeast_110 hl (k := 2) rfl rfl (by decide) rfl (fun ls hl => ?_)
  refine lv_goto (tgt := 82) hx hb dX7_checkFeast_113 (by decide) ?_
  exact hk82 _ _ rfl h _ _ _ hA (lv_sub hl [1, 2, 0] rfl)
set_option maxHeartbeats 4000000 in
set_option maxRecDepth 100000 in
theorem v_X7_checkFeast_82 {σ : SS} {x5 : Int32} {x6 : Int32} (C : Cx p l s m args meth c cX7_checkFeast 7 wsX7_checkFeast none RX7 g A) (hT : ∀ x ∈ c.exceptionTable.toList, False) {k82 : SS → (Int32 × Int32) → Option (Unit ⊕ Nat)} (hk82 : ∀ (σ1 : SS) (x : Int32 × Int32), σ1 = σ → k82 σ1 x = some (.inr j) → ∀ (H : Heap) (locs : List Loc) (ls : Array Slot), Aw g A s.heap (wX g σ) H locs → lv_has ls 7 [(0, .ref (g.2.1 0)), (5, .int x.1), (6, .int x.2)] → W p l e rxX7_checkFeast s m args below meth c H locs 0 0 (vx_MQ below (QFv A) (Xw g A (wX g σ) j) args s 1 6 A) (F0 m 82 ls [])) (h : f_X7_checkFeast_82 fu k82 σ x5 x6 = some (.inr j)) {H : Heap} {locs : List Loc} {ls : Array Slot} (hA : Aw g A s.heap (wX g σ) H locs) (hl : lv_has ls 7 [(0, .ref (g.2.1 0)), (5, .int x5), (6, .int x6)]) : W p l e rxX7_checkFeast s m args below meth c H locs 0 0 (vx_MQ below (QFv A) (Xw g A (wX g σ) j) args s 1 6 A) (F0 m 82 ls []) := by
  have hx := C.1.1
  have hb := C.1.2.1
  unfold f_X7_checkFeast_82 at h
  refine lv_iload hx hb dX7_checkFeast_82 (lv_at hl 2 rfl) ?_
  refine lv_aload_n hx hb dX7_checkFeast_84 rfl (lv_at hl 0 rfl) ?_
  refine Xg_X7_chiefs C hA iX7_checkFeast_X7 (by decide +kernel) dX7_checkFeast_85 ?_
  refine Xg_X0_size (v := (σ.1 14)) C hA rfl iX7_checkFeast_X0 (by decide +kernel) dX7_checkFeast_88 ?_
  refine lv_icmp_ge (tgt := 116) hx hb dX7_checkFeast_91 (by decide) (fun c1 => ?_) (fun c1 => ?_)
  · replace h := (if_pos c1).symm.trans h
    cases h
  · replace h := (if_neg c1).symm.trans h
    refine lv_iload hx hb dX7_checkFeast_94 (lv_at hl 1 rfl) ?_
    refine lv_iload hx hb dX7_checkFeast_96 (lv_at hl 2 rfl) ?_
    obtain ⟨r2, hc3, h⟩ := bd1 h
    refine r_callSi (r := r2) (w1 := wX g σ) (As := [.int x5, .int x6]) (rest := []) C hA hl.1 (k_X7_isIn (g := g) C.2.2.2.2.2.2 hc3) (va_cwS 2 C.1.2.2.2.2 gX7_checkFeast_X7_isIn rfl rfl rfl nd_X7_isIn ⟨Nat.le_of_ble_eq_true rfl, Nat.le_of_ble_eq_true rfl⟩) rfl rfl (Nat.le_of_ble_eq_true rfl) dX7_checkFeast_98 ⟨Nat.le_of_ble_eq_true rfl, Nat.le_of_ble_eq_true rfl⟩ (fun H locs hA => ?_)
    refine lv_if_eq (tgt := 110) hx hb dX7_checkFeast_101 (by decide) (fun c4 => ?_) (fun c4 => ?_)
    · replace h := (if_pos c4).symm.trans h
      exact v_X7_checkFeast_110 C hT hk82 h hA (lv_sub hl [0, 1, 2] rfl)
    · replace h := (if_neg c4).symm.trans h
      refine lv_aload_n hx hb dX7_checkFeast_104 rfl (lv_at hl 0 rfl) ?_
      refine lv_iload hx hb dX7_checkFeast_105 (lv_at hl 2 rfl) ?_
      rcases bdX0t h with ⟨r5, hc6, h⟩ | hc6
      rotate_left
      · exact r_xVv (w1 := wX g σ) (As := [.int x6]) (rest := []) C hA hl.1 hT (kx_X7_checkLives C.2.2.2.2.2.2 hc6) (cwV 1 C.1.2.2.2.2 gX7_checkFeast_X7_checkLives rfl rfl rfl nd_X7_checkLives ⟨Nat.le_of_ble_eq_true rfl, Nat.le_of_ble_eq_true rfl⟩) 0 rfl rfl rfl rfl (Nat.le_of_ble_eq_true rfl) dX7_checkFeast_107 ⟨Nat.le_of_ble_eq_true rfl, Nat.le_of_ble_eq_true rfl⟩
      refine r_callVv (r := ()) (w1 := wX g σ) (As := [.int x6]) (rest := []) C hA hl.1 (k_X7_checkLives C.2.2.2.2.2.2 hc6) (cwV 1 C.1.2.2.2.2 gX7_checkFeast_X7_checkLives rfl rfl rfl nd_X7_checkLives ⟨Nat.le_of_ble_eq_true rfl, Nat.le_of_ble_eq_true rfl⟩) 0 rfl rfl rfl rfl (Nat.le_of_ble_eq_true rfl) dX7_checkFeast_107 ⟨Nat.le_of_ble_eq_true rfl, Nat.le_of_ble_eq_true rfl⟩ (fun H locs hA => ?_)
      exact v_X7_checkFeast_110 C hT hk82 h hA (lv_sub hl [0, 1, 2] rfl)
set_option maxHeartbeats 4000000 in
theorem v_X7_checkFeast_L82 {σ : SS} {x : Int32 × Int32} (C : Cx p l s m args meth c cX7_checkFeast 7 wsX7_checkFeast none RX7 g A) (hT : ∀ x ∈ c.exceptionTable.toList, False) (h : f_X7_checkFeast_L82 fu σ x = some (.inr j)) {H : Heap} {locs : List Loc} {ls : Array Slot} (hA : Aw g A s.heap (wX g σ) H locs) (hl : lv_has ls 7 [(0, .ref (g.2.1 0)), (5, .int x.1), (6, .int x.2)]) : W p l e rxX7_checkFeast s m args below meth c H locs 0 0 (vx_MQ below (QFv A) (Xw g A (wX g σ) j) args s 1 6 A) (F0 m 82 ls []) := by
  refine loopW (P := fun σ1 x => σ1 = σ → ∀ (H : Heap) (locs : List Loc) (ls : Array Slot), Aw g A s.heap (wX g σ) H locs → lv_has ls 7 [(0, .ref (g.2.1 0)), (5, .int x.1), (6, .int x.2)] → W p l e rxX7_checkFeast s m args below meth c H locs 0 0 (vx_MQ below (QFv A) (Xw g A (wX g σ) j) args s 1 6 A) (F0 m 82 ls [])) (fun k hk σ1 x h9 e1 H locs ls hA9 hl9 => ?_) fu σ x h rfl H locs ls hA hl
  subst e1
  exact v_X7_checkFeast_82 C hT (fun σ2 x e2 h2 => hk σ2 x h2 e2) h9 hA9 hl9
set_option maxHeartbeats 4000000 in
set_option maxRecDepth 100000 in
theorem v_X7_checkFeast_63 {σ : SS} (C : Cx p l s m args meth c cX7_checkFeast 7 wsX7_checkFeast none RX7 g A) (hT : ∀ x ∈ c.exceptionTable.toList, False) (h : f_X7_checkFeast_63 fu σ = some (.inr j)) {H : Heap} {locs : List Loc} {ls : Array Slot} (hA : Aw g A s.heap (wX g σ) H locs) (hl : lv_has ls 7 []) : W p l e rxX7_checkFeast s m args below meth c H locs 0 0 (vx_MQ below (QFv A) (Xw g A (wX g σ) j) args s 1 6 A) (F0 m 63 ls []) := by
  have hx := C.1.1
  have hb := C.1.2.1
  unfold f_X7_checkFeast_63 at h
  obtain rfl := inr_inj0 h
  exact r_throwW (j := 0) (rest := []) C hA hl.1 hT rfl (by decide +kernel) C.2.2.2.2.2.1.2.2.2.2.2.2.2.2.2.2.2.2.2.2.2.2.2.2.2.2.2.2.2.2.2.2.1 (by decide +kernel) (by decide +kernel) xi_X7_checkFeast_0 xn_X7_0 C.2.2.2.2.2.1.2.2.2.2.2.1 xg_X7_0 dX7_checkFeast_63 dX7_checkFeast_66 dX7_checkFeast_67 dX7_checkFeast_70 dX7_checkFeast_73 (Nat.le_of_ble_eq_true rfl) (Nat.le_of_ble_eq_true rfl) (Nat.le_of_ble_eq_true rfl) (Nat.le_of_ble_eq_true rfl)
set_option maxHeartbeats 4000000 in
set_option maxRecDepth 100000 in
theorem v_X7_checkFeast_40 {σ : SS} (C : Cx p l s m args meth c cX7_checkFeast 7 wsX7_checkFeast none RX7 g A) (hT : ∀ x ∈ c.exceptionTable.toList, False) (h : f_X7_checkFeast_40 fu σ = some (.inr j)) {H : Heap} {locs : List Loc} {ls : Array Slot} (hA : Aw g A s.heap (wX g σ) H locs) (hl : lv_has ls 7 []) : W p l e rxX7_checkFeast s m args below meth c H locs 0 0 (vx_MQ below (QFv A) (Xw g A (wX g σ) j) args s 1 6 A) (F0 m 40 ls []) := by
  have hx := C.1.1
  have hb := C.1.2.1
  unfold f_X7_checkFeast_40 at h
  obtain rfl := inr_inj0 h
  exact r_throwW (j := 0) (rest := []) C hA hl.1 hT rfl (by decide +kernel) C.2.2.2.2.2.1.2.2.2.2.2.2.2.2.2.2.2.2.2.2.2.2.2.2.2.2.2.2.2.2.2.1 (by decide +kernel) (by decide +kernel) xi_X7_checkFeast_0 xn_X7_0 C.2.2.2.2.2.1.2.2.2.2.2.1 xg_X7_0 dX7_checkFeast_40 dX7_checkFeast_43 dX7_checkFeast_44 dX7_checkFeast_47 dX7_checkFeast_50 (Nat.le_of_ble_eq_true rfl) (Nat.le_of_ble_eq_true rfl) (Nat.le_of_ble_eq_true rfl) (Nat.le_of_ble_eq_true rfl)
set_option maxHeartbeats 4000000 in
set_option maxRecDepth 100000 in
theorem v_X7_checkFeast_0 {σ : SS} {x1 : Int32} {x2 : Int32} {x3 : Int32} {x4 : Int32} (C : Cx p l s m args meth c cX7_checkFeast 7 wsX7_checkFeast none RX7 g A) (hT : ∀ x ∈ c.exceptionTable.toList, False) (h : f_X7_checkFeast fu σ x1 x2 x3 x4 = some (.inr j)) {H : Heap} {locs : List Loc} {ls : Array Slot} (hA : Aw g A s.heap (wX g σ) H locs) (hl : lv_has ls 7 [(0, .ref (g.2.1 0)), (1, .int x1), (2, .int x2), (3, .int x3), (4, .int x4)]) : W p l e rxX7_checkFeast s m args below meth c H locs 0 0 (vx_MQ below (QFv A) (Xw g A (wX g σ) j) args s 1 6 A) (F0 m 0 ls []) := by
  have hx := C.1.1
  have hb := C.1.2.1
  unfold f_X7_checkFeast at h
  refine lv_aload_n hx hb dX7_checkFeast_0 rfl (lv_at hl 0 rfl) ?_
  refine lv_iload_n hx hb dX7_checkFeast_1 rfl (lv_at hl 1 rfl) ?_
  rcases bdX0t h with ⟨r1, hc2, h⟩ | hc2
  rotate_left
  · exact r_xVv (w1 := wX g σ) (As := [.int x1]) (rest := []) C hA hl.1 hT (kx_X7_checkChief C.2.2.2.2.2.2 hc2) (cwV 1 C.1.2.2.2.2 gX7_checkFeast_X7_checkChief rfl rfl rfl nd_X7_checkChief ⟨Nat.le_of_ble_eq_true rfl, Nat.le_of_ble_eq_true rfl⟩) 0 rfl rfl rfl rfl (Nat.le_of_ble_eq_true rfl) dX7_checkFeast_2 ⟨Nat.le_of_ble_eq_true rfl, Nat.le_of_ble_eq_true rfl⟩
  refine r_callVv (r := ()) (w1 := wX g σ) (As := [.int x1]) (rest := []) C hA hl.1 (k_X7_checkChief C.2.2.2.2.2.2 hc2) (cwV 1 C.1.2.2.2.2 gX7_checkFeast_X7_checkChief rfl rfl rfl nd_X7_checkChief ⟨Nat.le_of_ble_eq_true rfl, Nat.le_of_ble_eq_true rfl⟩) 0 rfl rfl rfl rfl (Nat.le_of_ble_eq_true rfl) dX7_checkFeast_2 ⟨Nat.le_of_ble_eq_true rfl, Nat.le_of_ble_eq_true rfl⟩ (fun H locs hA => ?_)
  refine lv_iload_n hx hb dX7_checkFeast_5 rfl (lv_at hl 2 rfl) ?_
  refine lv_iload hx hb dX7_checkFeast_6 (lv_at hl 4 rfl) ?_
  refine lv_ior hx hb dX7_checkFeast_8 ?_
  refine lv_istore (lv' := [(5, .int (x2 ||| x4)), (0, .ref (g.2.1 0)), (1, .int x1), (2, .int x2), (3, .int x3), (4, .int x4)]) hx hb dX7_checkFeast_9 hl (by decide) rfl (fun ls hl => ?_)
  refine lv_iload hx hb dX7_checkFeast_11 (lv_at hl 0 rfl) ?_
  refine lv_aload_n hx hb dX7_checkFeast_13 rfl (lv_at hl 1 rfl) ?_
  refine Xg_X7_chiefs C hA iX7_checkFeast_X7 (by decide +kernel) dX7_checkFeast_14 ?_
  refine Xg_X0_size (v := (σ.1 14)) C hA rfl iX7_checkFeast_X0 (by decide +kernel) dX7_checkFeast_17 ?_
  refine lv_ishr hx hb dX7_checkFeast_20 ?_
  refine lv_if_ne (tgt := 40) hx hb dX7_checkFeast_21 (by decide) (fun c3 => ?_) (fun c3 => ?_)
  · replace h := (if_neg c3).symm.trans h
    exact v_X7_checkFeast_40 C hT h hA (lv_sub hl [] rfl)
  · replace h := (if_pos c3).symm.trans h
    refine lv_iload hx hb dX7_checkFeast_24 (lv_at hl 0 rfl) ?_
    refine lv_iload_n hx hb dX7_checkFeast_26 rfl (lv_at hl 2 rfl) ?_
    obtain ⟨r4, hc5, h⟩ := bd1 h
    refine r_callSi (r := r4) (w1 := wX g σ) (As := [.int (x2 ||| x4), .int x1]) (rest := []) C hA hl.1 (k_X7_isIn (g := g) C.2.2.2.2.2.2 hc5) (va_cwS 2 C.1.2.2.2.2 gX7_checkFeast_X7_isIn rfl rfl rfl nd_X7_isIn ⟨Nat.le_of_ble_eq_true rfl, Nat.le_of_ble_eq_true rfl⟩) rfl rfl (Nat.le_of_ble_eq_true rfl) dX7_checkFeast_27 ⟨Nat.le_of_ble_eq_true rfl, Nat.le_of_ble_eq_true rfl⟩ (fun H locs hA => ?_)
    refine lv_if_ne (tgt := 40) hx hb dX7_checkFeast_30 (by decide) (fun c6 => ?_) (fun c6 => ?_)
    · replace h := (if_neg c6).symm.trans h
      exact v_X7_checkFeast_40 C hT h hA (lv_sub hl [] rfl)
    · replace h := (if_pos c6).symm.trans h
      refine lv_iload_n hx hb dX7_checkFeast_33 rfl (lv_at hl 3 rfl) ?_
      refine lv_iload hx hb dX7_checkFeast_34 (lv_at hl 5 rfl) ?_
      refine lv_iand hx hb dX7_checkFeast_36 ?_
      refine lv_if_eq (tgt := 51) hx hb dX7_checkFeast_37 (by decide) (fun c7 => ?_) (fun c7 => ?_)
      · replace h := (if_pos c7).symm.trans h
        refine lv_iload_n hx hb dX7_checkFeast_51 rfl (lv_at hl 4 rfl) ?_
        refine lv_iconst (v := 1) hx hb dX7_checkFeast_52 (by decide) ?_
        refine lv_icmp_lt (tgt := 63) hx hb dX7_checkFeast_53 (by decide) (fun c8 => ?_) (fun c8 => ?_)
        · replace h := (if_pos c8).symm.trans h
          exact v_X7_checkFeast_63 C hT h hA (lv_sub hl [] rfl)
        · replace h := (if_neg c8).symm.trans h
          refine lv_iload_n hx hb dX7_checkFeast_56 rfl (lv_at hl 4 rfl) ?_
          refine lv_ldcw (v := 100000) hx hb C.1.2.2.2.1 (C.1.2.2.2.2 (.constant RX7 268 (100000)) (by decide +kernel)) dX7_checkFeast_57 ?_
          refine lv_icmp_le (tgt := 74) hx hb dX7_checkFeast_60 (by decide) (fun c9 => ?_) (fun c9 => ?_)
          · replace h := (if_pos c9).symm.trans h
            refine lv_aload_n hx hb dX7_checkFeast_74 rfl (lv_at hl 1 rfl) ?_
            refine lv_iload_n hx hb dX7_checkFeast_75 rfl (lv_at hl 2 rfl) ?_
            rcases bdX0t h with ⟨r10, hc11, h⟩ | hc11
            rotate_left
            · exact r_xVv (w1 := wX g σ) (As := [.int x1]) (rest := []) C hA hl.1 hT (kx_X7_checkLives C.2.2.2.2.2.2 hc11) (cwV 1 C.1.2.2.2.2 gX7_checkFeast_X7_checkLives rfl rfl rfl nd_X7_checkLives ⟨Nat.le_of_ble_eq_true rfl, Nat.le_of_ble_eq_true rfl⟩) 0 rfl rfl rfl rfl (Nat.le_of_ble_eq_true rfl) dX7_checkFeast_76 ⟨Nat.le_of_ble_eq_true rfl, Nat.le_of_ble_eq_true rfl⟩
            refine r_callVv (r := ()) (w1 := wX g σ) (As := [.int x1]) (rest := []) C hA hl.1 (k_X7_checkLives C.2.2.2.2.2.2 hc11) (cwV 1 C.1.2.2.2.2 gX7_checkFeast_X7_checkLives rfl rfl rfl nd_X7_checkLives ⟨Nat.le_of_ble_eq_true rfl, Nat.le_of_ble_eq_true rfl⟩) 0 rfl rfl rfl rfl (Nat.le_of_ble_eq_true rfl) dX7_checkFeast_76 ⟨Nat.le_of_ble_eq_true rfl, Nat.le_of_ble_eq_true rfl⟩ (fun H locs hA => ?_)
            refine lv_iconst (v := 0) hx hb dX7_checkFeast_79 (by decide) ?_
            refine lv_istore (lv' := [(6, .int (0 : Int32)), (5, .int (x2 ||| x4)), (0, .ref (g.2.1 0)), (1, .int x1), (2, .int x2), (3, .int x3), (4, .int x4)]) hx hb dX7_checkFeast_80 hl (by decide) rfl (fun ls hl => ?_)
            exact v_X7_checkFeast_L82 C hT h hA (lv_sub hl [2, 1, 0] rfl)
          · replace h := (if_neg c9).symm.trans h
            exact v_X7_checkFeast_63 C hT h hA (lv_sub hl [] rfl)
      · replace h := (if_neg c7).symm.trans h
        exact v_X7_checkFeast_40 C hT h hA (lv_sub hl [] rfl)
end
set_option maxRecDepth 100000 in
theorem k_X7_checkFeast {l : Launch} {g : Gm} {fu : Nat} {σ : SS} {x1 : Int32} {x2 : Int32} {x3 : Int32} {x4 : Int32} {v0 : Unit} (hlt : l.stackTraces = false) (h : f_X7_checkFeast fu σ x1 x2 x3 x4 = some (.inl v0)) (sz : Nat) : Met l yX7_checkFeast wsX7_checkFeast rmX7_checkFeast (Pw g (wX g σ) [.ref (g.2.1 0), .int x1, .int x2, .int x3, .int x4] sz) (Qv g (va_A (wX g σ) sz) (wX g σ) v0) 0 0 (va_A (wX g σ) sz) :=
  ofM (own := RX7) hlt (by decide) rfl rfl (Nat.le_of_ble_eq_true rfl) (fun p e s m below meth c hsz C hA ls hl => w_X7_checkFeast_0 C h hA hl)
set_option maxRecDepth 100000 in
theorem kx_X7_checkFeast {l : Launch} {g : Gm} {fu : Nat} {σ : SS} {x1 : Int32} {x2 : Int32} {x3 : Int32} {x4 : Int32} {j : Nat} (hlt : l.stackTraces = false) (h : f_X7_checkFeast fu σ x1 x2 x3 x4 = some (.inr j)) (sz : Nat) : vx_Met l yX7_checkFeast wsX7_checkFeast rxX7_checkFeast (Pw g (wX g σ) [.ref (g.2.1 0), .int x1, .int x2, .int x3, .int x4] sz) (QFv (va_A (wX g σ) sz)) (Xw g (va_A (wX g σ) sz) (wX g σ) j) 1 6 (va_A (wX g σ) sz) :=
  ofX (own := RX7) hlt (by decide) rfl rfl (Nat.le_of_ble_eq_true rfl) (fun p e s m below meth c hsz C hT hA ls hl => v_X7_checkFeast_0 C hT h hA hl)

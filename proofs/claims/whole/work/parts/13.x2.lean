abbrev rmX6_mark : Room := { frames := 0, cells := 0, slots := 0, locals := 0 }
theorem iX6_mark_X6 : ∀ x ∈ wsX60, x ∈ wsX6_mark := by decide +kernel
theorem nd_X6_mark : yX6_mark.cls = RX6 ∧ yX6_mark.cls ≠ "java/lang/invoke/MethodHandle" ∧ yX6_mark.cls ≠ "java/lang/invoke/VarHandle" ∧ (parseMethodDescriptor yX6_mark.desc).map (fun d => d.parameters.length) = some 2 := by decide +kernel
def f_X6_mark (fu : Nat) (σ : SS) (x1 : Int32) (x2 : Int32) : Option (Unit × SS) :=
  (if (σ.1 5) = 0 then some ((), (sI (sI σ 5 x1) 6 x2)) else some ((), σ))
section
variable {p : Program} {l : Launch} {e : Env} {s : State} {m : MethodId} {args : Array Value} {below : List Frame} {meth : Method} {c : Code} {g : Gm} {A : Nat → Prop} {fu : Nat} {R : Unit × SS}
set_option maxHeartbeats 4000000 in
set_option maxRecDepth 100000 in
theorem w_X6_mark_0 {σ : SS} {x1 : Int32} {x2 : Int32} (C : Cx p l s m args meth c cX6_mark 3 wsX6_mark none RX6 g A) (h : f_X6_mark fu σ x1 x2 = some R) {H : Heap} {locs : List Loc} {ls : Array Slot} (hA : Aw g A s.heap (wX g σ) H locs) (hl : lv_has ls 3 [(0, .ref (g.2.1 2)), (1, .int x1), (2, .int x2)]) : W p l e rmX6_mark s m args below meth c H locs 0 0 (MQ below (Qv g A (wX g R.2) R.1) args s 0 0 A) (F0 m 0 ls []) := by
  have hx := C.1.1
  have hb := C.1.2.1
  unfold f_X6_mark at h
  refine lv_aload_n hx hb dX6_mark_0 rfl (lv_at hl 0 rfl) ?_
  refine Xg_X6_fault (v := (σ.1 5)) C hA rfl iX6_mark_X6 (by decide +kernel) dX6_mark_1 ?_
  refine lv_if_ne (tgt := 17) hx hb dX6_mark_4 (by decide) (fun c1 => ?_) (fun c1 => ?_)
  · replace h := (if_neg c1).symm.trans h
    obtain rfl := Option.some.inj h
    exact r_vret C hA dX6_mark_17
  · replace h := (if_pos c1).symm.trans h
    refine lv_aload_n hx hb dX6_mark_7 rfl (lv_at hl 0 rfl) ?_
    refine lv_iload_n hx hb dX6_mark_8 rfl (lv_at hl 1 rfl) ?_
    refine Xp_X6_fault C hA iX6_mark_X6 (by decide +kernel) dX6_mark_9 (fun H locs hA => ?_)
    refine lv_aload_n hx hb dX6_mark_12 rfl (lv_at hl 0 rfl) ?_
    refine lv_iload_n hx hb dX6_mark_13 rfl (lv_at hl 2 rfl) ?_
    refine Xp_X6_faultPlace C hA iX6_mark_X6 (by decide +kernel) dX6_mark_14 (fun H locs hA => ?_)
    obtain rfl := Option.some.inj h
    exact r_vret C hA dX6_mark_17
end
set_option maxRecDepth 100000 in
theorem k_X6_mark {l : Launch} {g : Gm} {fu : Nat} {σ : SS} {x1 : Int32} {x2 : Int32} {R : Unit × SS} (hlt : l.stackTraces = false) (h : f_X6_mark fu σ x1 x2 = some R) (sz : Nat) : Met l yX6_mark wsX6_mark rmX6_mark (Pw g (wX g σ) [.ref (g.2.1 2), .int x1, .int x2] sz) (Qv g (va_A (wX g σ) sz) (wX g R.2) R.1) 0 0 (va_A (wX g σ) sz) :=
  ofM (own := RX6) hlt (by decide) rfl rfl (Nat.le_of_ble_eq_true rfl) (fun p e s m below meth c hsz C hA ls hl => w_X6_mark_0 C h hA hl)
abbrev rmX6_skipBlanks : Room := { frames := 0, cells := 0, slots := 0, locals := 0 }
theorem iX6_skipBlanks_X6 : ∀ x ∈ wsX60, x ∈ wsX6_skipBlanks := by decide +kernel
theorem nd_X6_skipBlanks : yX6_skipBlanks.cls = RX6 ∧ yX6_skipBlanks.cls ≠ "java/lang/invoke/MethodHandle" ∧ yX6_skipBlanks.cls ≠ "java/lang/invoke/VarHandle" ∧ (parseMethodDescriptor yX6_skipBlanks.desc).map (fun d => d.parameters.length) = some 0 := by decide +kernel
def f_X6_skipBlanks_0 (fu : Nat) (k0 : SS → Unit → Option (Unit × SS)) (σ : SS) : Option (Unit × SS) :=
  (if (σ.1 3) ≤ (σ.1 4) then some ((), σ) else if inB (σ.1 4) 200 then (if (σ.2.1 11 ((σ.1 4)).toNatClampNeg) = (32 : Int32) then k0 (sI σ 4 ((σ.1 4) + (1 : Int32))) () else some ((), σ)) else none)
def f_X6_skipBlanks_L0 (fu : Nat) : SS → Unit → Option (Unit × SS) := loopN (fun k0 σ x => f_X6_skipBlanks_0 fu k0 σ ) fu
def f_X6_skipBlanks (fu : Nat) (σ : SS) : Option (Unit × SS) := f_X6_skipBlanks_L0 fu σ ()
section
variable {p : Program} {l : Launch} {e : Env} {s : State} {m : MethodId} {args : Array Value} {below : List Frame} {meth : Method} {c : Code} {g : Gm} {A : Nat → Prop} {fu : Nat} {R : Unit × SS}
set_option maxHeartbeats 4000000 in
set_option maxRecDepth 100000 in
theorem w_X6_skipBlanks_0 {σ : SS} (C : Cx p l s m args meth c cX6_skipBlanks 1 wsX6_skipBlanks none RX6 g A) {k0 : SS → Unit → Option (Unit × SS)} (hk0 : ∀ (σ : SS) (x : Unit), k0 σ x = some R → ∀ (H : Heap) (locs : List Loc) (ls : Array Slot), Aw g A s.heap (wX g σ) H locs → lv_has ls 1 [(0, .ref (g.2.1 2))] → W p l e rmX6_skipBlanks s m args below meth c H locs 0 0 (MQ below (Qv g A (wX g R.2) R.1) args s 0 0 A) (F0 m 0 ls [])) (h : f_X6_skipBlanks_0 fu k0 σ = some R) {H : Heap} {locs : List Loc} {ls : Array Slot} (hA : Aw g A s.heap (wX g σ) H locs) (hl : lv_has ls 1 [(0, .ref (g.2.1 2))]) : W p l e rmX6_skipBlanks s m args below meth c H locs 0 0 (MQ below (Qv g A (wX g R.2) R.1) args s 0 0 A) (F0 m 0 ls []) := by
  have hx := C.1.1
  have hb := C.1.2.1
  unfold f_X6_skipBlanks_0 at h
  refine lv_aload_n hx hb dX6_skipBlanks_0 rfl (lv_at hl 0 rfl) ?_
  refine Xg_X6_at (v := (σ.1 4)) C hA rfl iX6_skipBlanks_X6 (by decide +kernel) dX6_skipBlanks_1 ?_
  refine lv_aload_n hx hb dX6_skipBlanks_4 rfl (lv_at hl 0 rfl) ?_
  refine Xg_X6_length (v := (σ.1 3)) C hA rfl iX6_skipBlanks_X6 (by decide +kernel) dX6_skipBlanks_5 ?_
  refine lv_icmp_ge (tgt := 38) hx hb dX6_skipBlanks_8 (by decide) (fun c1 => ?_) (fun c1 => ?_)
  · replace h := (if_pos c1).symm.trans h
    obtain rfl := Option.some.inj h
    exact r_vret C hA dX6_skipBlanks_38
  · replace h := (if_neg c1).symm.trans h
    refine lv_aload_n hx hb dX6_skipBlanks_11 rfl (lv_at hl 0 rfl) ?_
    refine Xg_X6_text C hA iX6_skipBlanks_X6 (by decide +kernel) dX6_skipBlanks_12 ?_
    refine lv_aload_n hx hb dX6_skipBlanks_15 rfl (lv_at hl 0 rfl) ?_
    refine Xg_X6_at (v := (σ.1 4)) C hA rfl iX6_skipBlanks_X6 (by decide +kernel) dX6_skipBlanks_16 ?_
    obtain ⟨g2, h⟩ := gd h
    refine Xld_11 (v := (σ.2.1 11 ((σ.1 4)).toNatClampNeg)) C hA rfl g2 dX6_skipBlanks_19 ?_
    refine lv_bipush (v := 32) hx hb dX6_skipBlanks_20 (by decide) ?_
    refine lv_icmp_ne (tgt := 38) hx hb dX6_skipBlanks_22 (by decide) (fun c3 => ?_) (fun c3 => ?_)
    · replace h := (if_neg c3).symm.trans h
      obtain rfl := Option.some.inj h
      exact r_vret C hA dX6_skipBlanks_38
    · replace h := (if_pos c3).symm.trans h
      refine lv_aload_n hx hb dX6_skipBlanks_25 rfl (lv_at hl 0 rfl) ?_
      refine lv_dup hx hb dX6_skipBlanks_26 rfl ?_
      refine Xg_X6_at (v := (σ.1 4)) C hA rfl iX6_skipBlanks_X6 (by decide +kernel) dX6_skipBlanks_27 ?_
      refine lv_iconst (v := 1) hx hb dX6_skipBlanks_30 (by decide) ?_
      refine lv_iadd hx hb dX6_skipBlanks_31 ?_
      refine Xp_X6_at C hA iX6_skipBlanks_X6 (by decide +kernel) dX6_skipBlanks_32 (fun H locs hA => ?_)
      refine lv_goto (tgt := 0) hx hb dX6_skipBlanks_35 (by decide) ?_
      exact hk0 _ _ h _ _ _ hA (lv_sub hl [0] rfl)
set_option maxHeartbeats 4000000 in
theorem w_X6_skipBlanks_L0 {σ : SS} {x : Unit} (C : Cx p l s m args meth c cX6_skipBlanks 1 wsX6_skipBlanks none RX6 g A) (h : f_X6_skipBlanks_L0 fu σ x = some R) {H : Heap} {locs : List Loc} {ls : Array Slot} (hA : Aw g A s.heap (wX g σ) H locs) (hl : lv_has ls 1 [(0, .ref (g.2.1 2))]) : W p l e rmX6_skipBlanks s m args below meth c H locs 0 0 (MQ below (Qv g A (wX g R.2) R.1) args s 0 0 A) (F0 m 0 ls []) := by
  refine loopW (P := fun σ x => ∀ (H : Heap) (locs : List Loc) (ls : Array Slot), Aw g A s.heap (wX g σ) H locs → lv_has ls 1 [(0, .ref (g.2.1 2))] → W p l e rmX6_skipBlanks s m args below meth c H locs 0 0 (MQ below (Qv g A (wX g R.2) R.1) args s 0 0 A) (F0 m 0 ls [])) (fun k hk σ x h9 H locs ls hA9 hl9 => ?_) fu σ x h H locs ls hA hl
  exact w_X6_skipBlanks_0 C hk h9 hA9 hl9
end
set_option maxRecDepth 100000 in
theorem k_X6_skipBlanks {l : Launch} {g : Gm} {fu : Nat} {σ : SS} {R : Unit × SS} (hlt : l.stackTraces = false) (h : f_X6_skipBlanks fu σ = some R) (sz : Nat) : Met l yX6_skipBlanks wsX6_skipBlanks rmX6_skipBlanks (Pw g (wX g σ) [.ref (g.2.1 2)] sz) (Qv g (va_A (wX g σ) sz) (wX g R.2) R.1) 0 0 (va_A (wX g σ) sz) :=
  ofM (own := RX6) hlt (by decide) rfl rfl (Nat.le_of_ble_eq_true rfl) (fun p e s m below meth c hsz C hA ls hl => w_X6_skipBlanks_L0 (x := ()) C h hA (lv_sub hl [0] rfl))
abbrev rmX6_skipLetters : Room := { frames := 0, cells := 0, slots := 0, locals := 0 }
theorem iX6_skipLetters_X6 : ∀ x ∈ wsX60, x ∈ wsX6_skipLetters := by decide +kernel
theorem nd_X6_skipLetters : yX6_skipLetters.cls = RX6 ∧ yX6_skipLetters.cls ≠ "java/lang/invoke/MethodHandle" ∧ yX6_skipLetters.cls ≠ "java/lang/invoke/VarHandle" ∧ (parseMethodDescriptor yX6_skipLetters.desc).map (fun d => d.parameters.length) = some 0 := by decide +kernel
def f_X6_skipLetters_0 (fu : Nat) (k0 : SS → Unit → Option (Unit × SS)) (σ : SS) : Option (Unit × SS) :=
  (if (σ.1 3) ≤ (σ.1 4) then some ((), σ) else if inB (σ.1 4) 200 then (if (σ.2.1 11 ((σ.1 4)).toNatClampNeg) < (97 : Int32) then some ((), σ) else (if (122 : Int32) < (σ.2.1 11 ((σ.1 4)).toNatClampNeg) then some ((), σ) else k0 (sI σ 4 ((σ.1 4) + (1 : Int32))) ())) else none)
def f_X6_skipLetters_L0 (fu : Nat) : SS → Unit → Option (Unit × SS) := loopN (fun k0 σ x => f_X6_skipLetters_0 fu k0 σ ) fu
def f_X6_skipLetters (fu : Nat) (σ : SS) : Option (Unit × SS) := f_X6_skipLetters_L0 fu σ ()
section
variable {p : Program} {l : Launch} {e : Env} {s : State} {m : MethodId} {args : Array Value} {below : List Frame} {meth : Method} {c : Code} {g : Gm} {A : Nat → Prop} {fu : Nat} {R : Unit × SS}
set_option maxHeartbeats 4000000 in
set_option maxRecDepth 100000 in
theorem w_X6_skipLetters_0 {σ : SS} (C : Cx p l s m args meth c cX6_skipLetters 1 wsX6_skipLetters none RX6 g A) {k0 : SS → Unit → Option (Unit × SS)} (hk0 : ∀ (σ : SS) (x : Unit), k0 σ x = some R → ∀ (H : Heap) (locs : List Loc) (ls : Array Slot), Aw g A s.heap (wX g σ) H locs → lv_has ls 1 [(0, .ref (g.2.1 2))] → W p l e rmX6_skipLetters s m args below meth c H locs 0 0 (MQ below (Qv g A (wX g R.2) R.1) args s 0 0 A) (F0 m 0 ls [])) (h : f_X6_skipLetters_0 fu k0 σ = some R) {H : Heap} {locs : List Loc} {ls : Array Slot} (hA : Aw g A s.heap (wX g σ) H locs) (hl : lv_has ls 1 [(0, .ref (g.2.1 2))]) : W p l e rmX6_skipLetters s m args below meth c H locs 0 0 (MQ below (Qv g A (wX g R.2) R.1) args s 0 0 A) (F0 m 0 ls []) := by
  have hx := C.1.1
  have hb := C.1.2.1
  unfold f_X6_skipLetters_0 at h
  refine lv_aload_n hx hb dX6_skipLetters_0 rfl (lv_at hl 0 rfl) ?_
  refine Xg_X6_at (v := (σ.1 4)) C hA rfl iX6_skipLetters_X6 (by decide +kernel) dX6_skipLetters_1 ?_
  refine lv_aload_n hx hb dX6_skipLetters_4 rfl (lv_at hl 0 rfl) ?_
  refine Xg_X6_length (v := (σ.1 3)) C hA rfl iX6_skipLetters_X6 (by decide +kernel) dX6_skipLetters_5 ?_
  refine lv_icmp_ge (tgt := 52) hx hb dX6_skipLetters_8 (by decide) (fun c1 => ?_) (fun c1 => ?_)
  · replace h := (if_pos c1).symm.trans h
    obtain rfl := Option.some.inj h
    exact r_vret C hA dX6_skipLetters_52
  · replace h := (if_neg c1).symm.trans h
    refine lv_aload_n hx hb dX6_skipLetters_11 rfl (lv_at hl 0 rfl) ?_
    refine Xg_X6_text C hA iX6_skipLetters_X6 (by decide +kernel) dX6_skipLetters_12 ?_
    refine lv_aload_n hx hb dX6_skipLetters_15 rfl (lv_at hl 0 rfl) ?_
    refine Xg_X6_at (v := (σ.1 4)) C hA rfl iX6_skipLetters_X6 (by decide +kernel) dX6_skipLetters_16 ?_
    obtain ⟨g2, h⟩ := gd h
    refine Xld_11 (v := (σ.2.1 11 ((σ.1 4)).toNatClampNeg)) C hA rfl g2 dX6_skipLetters_19 ?_
    refine lv_bipush (v := 97) hx hb dX6_skipLetters_20 (by decide) ?_
    refine lv_icmp_lt (tgt := 52) hx hb dX6_skipLetters_22 (by decide) (fun c3 => ?_) (fun c3 => ?_)
    · replace h := (if_pos c3).symm.trans h
      obtain rfl := Option.some.inj h
      exact r_vret C hA dX6_skipLetters_52
    · replace h := (if_neg c3).symm.trans h
      refine lv_aload_n hx hb dX6_skipLetters_25 rfl (lv_at hl 0 rfl) ?_
      refine Xg_X6_text C hA iX6_skipLetters_X6 (by decide +kernel) dX6_skipLetters_26 ?_
      refine lv_aload_n hx hb dX6_skipLetters_29 rfl (lv_at hl 0 rfl) ?_
      refine Xg_X6_at (v := (σ.1 4)) C hA rfl iX6_skipLetters_X6 (by decide +kernel) dX6_skipLetters_30 ?_
      refine Xld_11 (v := (σ.2.1 11 ((σ.1 4)).toNatClampNeg)) C hA rfl g2 dX6_skipLetters_33 ?_
      refine lv_bipush (v := 122) hx hb dX6_skipLetters_34 (by decide) ?_
      refine lv_icmp_gt (tgt := 52) hx hb dX6_skipLetters_36 (by decide) (fun c4 => ?_) (fun c4 => ?_)
      · replace h := (if_pos c4).symm.trans h
        obtain rfl := Option.some.inj h
        exact r_vret C hA dX6_skipLetters_52
      · replace h := (if_neg c4).symm.trans h
        refine lv_aload_n hx hb dX6_skipLetters_39 rfl (lv_at hl 0 rfl) ?_
        refine lv_dup hx hb dX6_skipLetters_40 rfl ?_
        refine Xg_X6_at (v := (σ.1 4)) C hA rfl iX6_skipLetters_X6 (by decide +kernel) dX6_skipLetters_41 ?_
        refine lv_iconst (v := 1) hx hb dX6_skipLetters_44 (by decide) ?_
        refine lv_iadd hx hb dX6_skipLetters_45 ?_
        refine Xp_X6_at C hA iX6_skipLetters_X6 (by decide +kernel) dX6_skipLetters_46 (fun H locs hA => ?_)
        refine lv_goto (tgt := 0) hx hb dX6_skipLetters_49 (by decide) ?_
        exact hk0 _ _ h _ _ _ hA (lv_sub hl [0] rfl)
set_option maxHeartbeats 4000000 in
theorem w_X6_skipLetters_L0 {σ : SS} {x : Unit} (C : Cx p l s m args meth c cX6_skipLetters 1 wsX6_skipLetters none RX6 g A) (h : f_X6_skipLetters_L0 fu σ x = some R) {H : Heap} {locs : List Loc} {ls : Array Slot} (hA : Aw g A s.heap (wX g σ) H locs) (hl : lv_has ls 1 [(0, .ref (g.2.1 2))]) : W p l e rmX6_skipLetters s m args below meth c H locs 0 0 (MQ below (Qv g A (wX g R.2) R.1) args s 0 0 A) (F0 m 0 ls []) := by
  refine loopW (P := fun σ x => ∀ (H : Heap) (locs : List Loc) (ls : Array Slot), Aw g A s.heap (wX g σ) H locs → lv_has ls 1 [(0, .ref (g.2.1 2))] → W p l e rmX6_skipLetters s m args below meth c H locs 0 0 (MQ below (Qv g A (wX g R.2) R.1) args s 0 0 A) (F0 m 0 ls [])) (fun k hk σ x h9 H locs ls hA9 hl9 => ?_) fu σ x h H locs ls hA hl
  exact w_X6_skipLetters_0 C hk h9 hA9 hl9
end
set_option maxRecDepth 100000 in
theorem k_X6_skipLetters {l : Launch} {g : Gm} {fu : Nat} {σ : SS} {R : Unit × SS} (hlt : l.stackTraces = false) (h : f_X6_skipLetters fu σ = some R) (sz : Nat) : Met l yX6_skipLetters wsX6_skipLetters rmX6_skipLetters (Pw g (wX g σ) [.ref (g.2.1 2)] sz) (Qv g (va_A (wX g σ) sz) (wX g R.2) R.1) 0 0 (va_A (wX g σ) sz) :=
  ofM (own := RX6) hlt (by decide) rfl rfl (Nat.le_of_ble_eq_true rfl) (fun p e s m below meth c hsz C hA ls hl => w_X6_skipLetters_L0 (x := ()) C h hA (lv_sub hl [0] rfl))
abbrev rmX6_spells : Room := { frames := 4, cells := 0, slots := 0, locals := 85 }
theorem iX6_spells_X6 : ∀ x ∈ wsX60, x ∈ wsX6_spells := by decide +kernel
theorem nd_X6_spells : yX6_spells.cls = RX6 ∧ yX6_spells.cls ≠ "java/lang/invoke/MethodHandle" ∧ yX6_spells.cls ≠ "java/lang/invoke/VarHandle" ∧ (parseMethodDescriptor yX6_spells.desc).map (fun d => d.parameters.length) = some 2 := by decide +kernel
def f_X6_spells_17 (fu : Nat) (k17 : SS → (Int32 × Nat × Int32) → Option (Int32)) (σ : SS) (x1 : Int32) (x2 : Nat) (x3 : Int32) : Option (Int32) :=
  if x2 < 4 then (if (nI (lenJ.getD x2 0)) ≤ x3 then some (1 : Int32) else if inB (x1 + x3) 200 then if inB x3 (lenJ.getD x2 0) then (if (σ.2.1 11 ((x1 + x3)).toNatClampNeg) = (chJ x2 x3) then k17 σ (x1, x2, (x3 + 1)) else some (0 : Int32)) else none else none) else none
def f_X6_spells_L17 (fu : Nat) : SS → (Int32 × Nat × Int32) → Option (Int32) := loopN (fun k17 σ x => f_X6_spells_17 fu k17 σ x.1 x.2.1 x.2.2) fu
def f_X6_spells (fu : Nat) (σ : SS) (x1 : Int32) (x2 : Nat) : Option (Int32) :=
  if x2 < 4 then (if ((σ.1 4) - x1) = (nI (lenJ.getD x2 0)) then f_X6_spells_L17 fu σ (x1, x2, (0 : Int32)) else some (0 : Int32)) else none
section
variable {p : Program} {l : Launch} {e : Env} {s : State} {m : MethodId} {args : Array Value} {below : List Frame} {meth : Method} {c : Code} {g : Gm} {A : Nat → Prop} {fu : Nat} {R : Int32}
set_option maxHeartbeats 4000000 in
set_option maxRecDepth 100000 in
theorem w_X6_spells_17 {σ : SS} {x1 : Int32} {x2 : Nat} {x3 : Int32} (C : Cx p l s m args meth c cX6_spells 4 wsX6_spells (some .boolean) RX6 g A) {k17 : SS → (Int32 × Nat × Int32) → Option (Int32)} (hk17 : ∀ (σ1 : SS) (x : Int32 × Nat × Int32), σ1 = σ → k17 σ1 x = some R → ∀ (H : Heap) (locs : List Loc) (ls : Array Slot), Aw g A s.heap (wX g σ) H locs → lv_has ls 4 [(0, .ref (g.2.1 2)), (1, .int x.1), (2, .ref (g.2.2.2.1 x.2.1)), (3, .int x.2.2)] → W p l e rmX6_spells s m args below meth c H locs 0 0 (MQ below (Qi g A (wX g σ) R) args s 0 0 A) (F0 m 17 ls [])) (h : f_X6_spells_17 fu k17 σ x1 x2 x3 = some R) {H : Heap} {locs : List Loc} {ls : Array Slot} (hA : Aw g A s.heap (wX g σ) H locs) (hl : lv_has ls 4 [(0, .ref (g.2.1 2)), (1, .int x1), (2, .ref (g.2.2.2.1 x2)), (3, .int x3)]) : W p l e rmX6_spells s m args below meth c H locs 0 0 (MQ below (Qi g A (wX g σ) R) args s 0 0 A) (F0 m 17 ls []) := by
  have hx := C.1.1
  have hb := C.1.2.1
  unfold f_X6_spells_17 at h
  refine lv_iload_n hx hb dX6_spells_17 rfl (lv_at hl 3 rfl) ?_
  refine lv_aload_n hx hb dX6_spells_18 rfl (lv_at hl 2 rfl) ?_
  obtain ⟨g1, h⟩ := gd h
  refine r_callRi (r := (nI (lenJ.getD x2 0))) (w1 := wX g σ) (As := []) (rest := [.int x3]) C hA hl.1 (k_J0_length_8abf5 C.2.2.2.2.2.2 g1) (cwV 0 C.1.2.2.2.2 gX6_spells_J0_length_8abf5 rfl rfl rfl nd_J0_length_8abf5 ⟨Nat.le_of_ble_eq_true rfl, Nat.le_of_ble_eq_true rfl⟩) (vk_recv C.2.2.2.2.2.1.1 g1 hA.2.2) rfl rfl (Nat.le_of_ble_eq_true rfl) dX6_spells_19 ⟨Nat.le_of_ble_eq_true rfl, Nat.le_of_ble_eq_true rfl⟩ (fun H locs hA => ?_)
  refine lv_icmp_ge (tgt := 49) hx hb dX6_spells_22 (by decide) (fun c2 => ?_) (fun c2 => ?_)
  · replace h := (if_pos c2).symm.trans h
    refine lv_iconst (v := 1) hx hb dX6_spells_49 (by decide) ?_
    obtain rfl := Option.some.inj h
    exact r_zret (v := (1 : Int32)) C hA (zb (Or.inr rfl)) dX6_spells_50
  · replace h := (if_neg c2).symm.trans h
    refine lv_aload_n hx hb dX6_spells_25 rfl (lv_at hl 0 rfl) ?_
    refine Xg_X6_text C hA iX6_spells_X6 (by decide +kernel) dX6_spells_26 ?_
    refine lv_iload_n hx hb dX6_spells_29 rfl (lv_at hl 1 rfl) ?_
    refine lv_iload_n hx hb dX6_spells_30 rfl (lv_at hl 3 rfl) ?_
    refine lv_iadd hx hb dX6_spells_31 ?_
    obtain ⟨g3, h⟩ := gd h
    refine Xld_11 (v := (σ.2.1 11 ((x1 + x3)).toNatClampNeg)) C hA rfl g3 dX6_spells_32 ?_
    refine lv_aload_n hx hb dX6_spells_33 rfl (lv_at hl 2 rfl) ?_
    refine lv_iload_n hx hb dX6_spells_34 rfl (lv_at hl 3 rfl) ?_
    obtain ⟨g4, h⟩ := gd h
    refine r_callRi (r := (chJ x2 x3)) (w1 := wX g σ) (As := [.int x3]) (rest := [.int (σ.2.1 11 ((x1 + x3)).toNatClampNeg)]) C hA hl.1 (k_J0_charAt_5068e C.2.2.2.2.2.2 g1 g4) (cwV 1 C.1.2.2.2.2 gX6_spells_J0_charAt_5068e rfl rfl rfl nd_J0_charAt_5068e ⟨Nat.le_of_ble_eq_true rfl, Nat.le_of_ble_eq_true rfl⟩) (vk_recv C.2.2.2.2.2.1.1 g1 hA.2.2) rfl rfl (Nat.le_of_ble_eq_true rfl) dX6_spells_35 ⟨Nat.le_of_ble_eq_true rfl, Nat.le_of_ble_eq_true rfl⟩ (fun H locs hA => ?_)
    refine lv_icmp_eq (tgt := 43) hx hb dX6_spells_38 (by decide) (fun c5 => ?_) (fun c5 => ?_)
    · replace h := (if_pos c5).symm.trans h
      refine lv_iinc (v := (x3 + 1)) (lv' := [(3, .int (x3 + 1)), (0, .ref (g.2.1 2)), (1, .int x1), (2, .ref (g.2.2.2.1 x2))]) hx hb dX6_spells_43 hl (k := 3) rfl rfl (by decide) rfl (fun ls hl => ?_)
      refine lv_goto (tgt := 17) hx hb dX6_spells_46 (by decide) ?_
      exact hk17 _ _ rfl h _ _ _ hA (lv_sub hl [1, 2, 3, 0] rfl)
    · replace h := (if_neg c5).symm.trans h
      refine lv_iconst (v := 0) hx hb dX6_spells_41 (by decide) ?_
      obtain rfl := Option.some.inj h
      exact r_zret (v := (0 : Int32)) C hA (zb (Or.inl rfl)) dX6_spells_42
set_option maxHeartbeats 4000000 in
theorem w_X6_spells_L17 {σ : SS} {x : Int32 × Nat × Int32} (C : Cx p l s m args meth c cX6_spells 4 wsX6_spells (some .boolean) RX6 g A) (h : f_X6_spells_L17 fu σ x = some R) {H : Heap} {locs : List Loc} {ls : Array Slot} (hA : Aw g A s.heap (wX g σ) H locs) (hl : lv_has ls 4 [(0, .ref (g.2.1 2)), (1, .int x.1), (2, .ref (g.2.2.2.1 x.2.1)), (3, .int x.2.2)]) : W p l e rmX6_spells s m args below meth c H locs 0 0 (MQ below (Qi g A (wX g σ) R) args s 0 0 A) (F0 m 17 ls []) := by
  refine loopW (P := fun σ1 x => σ1 = σ → ∀ (H : Heap) (locs : List Loc) (ls : Array Slot), Aw g A s.heap (wX g σ) H locs → lv_has ls 4 [(0, .ref (g.2.1 2)), (1, .int x.1), (2, .ref (g.2.2.2.1 x.2.1)), (3, .int x.2.2)] → W p l e rmX6_spells s m args below meth c H locs 0 0 (MQ below (Qi g A (wX g σ) R) args s 0 0 A) (F0 m 17 ls [])) (fun k hk σ1 x h9 e1 H locs ls hA9 hl9 => ?_) fu σ x h rfl H locs ls hA hl
  subst e1
  exact w_X6_spells_17 C (fun σ2 x e2 h2 => hk σ2 x h2 e2) h9 hA9 hl9
set_option maxHeartbeats 4000000 in
set_option maxRecDepth 100000 in
theorem w_X6_spells_0 {σ : SS} {x1 : Int32} {x2 : Nat} (C : Cx p l s m args meth c cX6_spells 4 wsX6_spells (some .boolean) RX6 g A) (h : f_X6_spells fu σ x1 x2 = some R) {H : Heap} {locs : List Loc} {ls : Array Slot} (hA : Aw g A s.heap (wX g σ) H locs) (hl : lv_has ls 4 [(0, .ref (g.2.1 2)), (1, .int x1), (2, .ref (g.2.2.2.1 x2))]) : W p l e rmX6_spells s m args below meth c H locs 0 0 (MQ below (Qi g A (wX g σ) R) args s 0 0 A) (F0 m 0 ls []) := by
  have hx := C.1.1
  have hb := C.1.2.1
  unfold f_X6_spells at h
  refine lv_aload_n hx hb dX6_spells_0 rfl (lv_at hl 0 rfl) ?_
  refine Xg_X6_at (v := (σ.1 4)) C hA rfl iX6_spells_X6 (by decide +kernel) dX6_spells_1 ?_
  refine lv_iload_n hx hb dX6_spells_4 rfl (lv_at hl 1 rfl) ?_
  refine lv_isub hx hb dX6_spells_5 ?_
  refine lv_aload_n hx hb dX6_spells_6 rfl (lv_at hl 2 rfl) ?_
  obtain ⟨g1, h⟩ := gd h
  refine r_callRi (r := (nI (lenJ.getD x2 0))) (w1 := wX g σ) (As := []) (rest := [.int ((σ.1 4) - x1)]) C hA hl.1 (k_J0_length_8abf5 C.2.2.2.2.2.2 g1) (cwV 0 C.1.2.2.2.2 gX6_spells_J0_length_8abf5 rfl rfl rfl nd_J0_length_8abf5 ⟨Nat.le_of_ble_eq_true rfl, Nat.le_of_ble_eq_true rfl⟩) (vk_recv C.2.2.2.2.2.1.1 g1 hA.2.2) rfl rfl (Nat.le_of_ble_eq_true rfl) dX6_spells_7 ⟨Nat.le_of_ble_eq_true rfl, Nat.le_of_ble_eq_true rfl⟩ (fun H locs hA => ?_)
  refine lv_icmp_eq (tgt := 15) hx hb dX6_spells_10 (by decide) (fun c2 => ?_) (fun c2 => ?_)
  · replace h := (if_pos c2).symm.trans h
    refine lv_iconst (v := 0) hx hb dX6_spells_15 (by decide) ?_
    refine lv_istore_n (lv' := [(3, .int (0 : Int32)), (0, .ref (g.2.1 2)), (1, .int x1), (2, .ref (g.2.2.2.1 x2))]) hx hb dX6_spells_16 rfl hl (by decide) rfl (fun ls hl => ?_)
    exact w_X6_spells_L17 C h hA (lv_sub hl [1, 2, 3, 0] rfl)
  · replace h := (if_neg c2).symm.trans h
    refine lv_iconst (v := 0) hx hb dX6_spells_13 (by decide) ?_
    obtain rfl := Option.some.inj h
    exact r_zret (v := (0 : Int32)) C hA (zb (Or.inl rfl)) dX6_spells_14
end
set_option maxRecDepth 100000 in
theorem k_X6_spells {l : Launch} {g : Gm} {fu : Nat} {σ : SS} {x1 : Int32} {x2 : Nat} {R : Int32} (hlt : l.stackTraces = false) (h : f_X6_spells fu σ x1 x2 = some R) (sz : Nat) : Met l yX6_spells wsX6_spells rmX6_spells (Pw g (wX g σ) [.ref (g.2.1 2), .int x1, .ref (g.2.2.2.1 x2)] sz) (Qi g (va_A (wX g σ) sz) (wX g σ) R) 0 0 (va_A (wX g σ) sz) :=
  ofM (own := RX6) hlt (by decide) rfl rfl (Nat.le_of_ble_eq_true rfl) (fun p e s m below meth c hsz C hA ls hl => w_X6_spells_0 C h hA hl)
abbrev rmX6_readNumber : Room := { frames := 1, cells := 0, slots := 0, locals := 30 }
theorem iX6_readNumber_X6 : ∀ x ∈ wsX60, x ∈ wsX6_readNumber := by decide +kernel
theorem nd_X6_readNumber : yX6_readNumber.cls = RX6 ∧ yX6_readNumber.cls ≠ "java/lang/invoke/MethodHandle" ∧ yX6_readNumber.cls ≠ "java/lang/invoke/VarHandle" ∧ (parseMethodDescriptor yX6_readNumber.desc).map (fun d => d.parameters.length) = some 1 := by decide +kernel
def f_X6_readNumber_116 (fu : Nat) (σ : SS) (x2 : Int32) (x3 : Int32) : Option (Int32 × SS) :=
  bnd (f_X6_mark fu σ (2 : Int32) x2) (fun r1 t3 => some (x3, t3))
def f_X6_readNumber_87 (fu : Nat) (σ : SS) (x1 : Int32) (x2 : Int32) (x3 : Int32) : Option (Int32 × SS) :=
  (if (σ.1 4) = x2 then bnd (f_X6_mark fu σ (1 : Int32) x2) (fun r4 t6 => some (x3, t6)) else (if x3 < x1 then f_X6_readNumber_116 fu σ x2 x3 else (if x3 ≤ (1000 : Int32) then some (x3, σ) else f_X6_readNumber_116 fu σ x2 x3)))
def f_X6_readNumber_11 (fu : Nat) (k11 : SS → (Int32 × Int32 × Int32) → Option (Int32 × SS)) (σ : SS) (x1 : Int32) (x2 : Int32) (x3 : Int32) : Option (Int32 × SS) :=
  (if (σ.1 3) ≤ (σ.1 4) then f_X6_readNumber_87 fu σ x1 x2 x3 else if inB (σ.1 4) 200 then (if (σ.2.1 11 ((σ.1 4)).toNatClampNeg) < (48 : Int32) then f_X6_readNumber_87 fu σ x1 x2 x3 else (if (57 : Int32) < (σ.2.1 11 ((σ.1 4)).toNatClampNeg) then f_X6_readNumber_87 fu σ x1 x2 x3 else k11 (sI σ 4 ((σ.1 4) + (1 : Int32))) (x1, x2, (if (1001 : Int32) < (((x3 * (10 : Int32)) + (σ.2.1 11 ((σ.1 4)).toNatClampNeg)) - (48 : Int32)) then (1001 : Int32) else (((x3 * (10 : Int32)) + (σ.2.1 11 ((σ.1 4)).toNatClampNeg)) - (48 : Int32)))))) else none)
def f_X6_readNumber_L11 (fu : Nat) : SS → (Int32 × Int32 × Int32) → Option (Int32 × SS) := loopN (fun k11 σ x => f_X6_readNumber_11 fu k11 σ x.1 x.2.1 x.2.2) fu
def f_X6_readNumber (fu : Nat) (σ : SS) (x1 : Int32) : Option (Int32 × SS) :=
  bnd (f_X6_skipBlanks fu σ) (fun r1 t3 => f_X6_readNumber_L11 fu t3 (x1, (t3.1 4), (0 : Int32)))
section
variable {p : Program} {l : Launch} {e : Env} {s : State} {m : MethodId} {args : Array Value} {below : List Frame} {meth : Method} {c : Code} {g : Gm} {A : Nat → Prop} {fu : Nat} {R : Int32 × SS}
set_option maxHeartbeats 4000000 in
set_option maxRecDepth 100000 in
theorem w_X6_readNumber_116 {σ : SS} {x2 : Int32} {x3 : Int32} (C : Cx p l s m args meth c cX6_readNumber 4 wsX6_readNumber (some .int) RX6 g A) (h : f_X6_readNumber_116 fu σ x2 x3 = some R) {H : Heap} {locs : List Loc} {ls : Array Slot} (hA : Aw g A s.heap (wX g σ) H locs) (hl : lv_has ls 4 [(0, .ref (g.2.1 2)), (2, .int x2), (3, .int x3)]) : W p l e rmX6_readNumber s m args below meth c H locs 0 0 (MQ below (Qi g A (wX g R.2) R.1) args s 0 0 A) (F0 m 116 ls []) := by
  have hx := C.1.1
  have hb := C.1.2.1
  unfold f_X6_readNumber_116 at h
  refine lv_aload_n hx hb dX6_readNumber_116 rfl (lv_at hl 0 rfl) ?_
  refine lv_iconst (v := 2) hx hb dX6_readNumber_117 (by decide) ?_
  refine lv_iload_n hx hb dX6_readNumber_118 rfl (lv_at hl 1 rfl) ?_
  obtain ⟨r1, t3, hc2, h⟩ := bd h
  refine r_callVv (r := r1) (w1 := wX g t3) (As := [.int (2 : Int32), .int x2]) (rest := []) C hA hl.1 (k_X6_mark C.2.2.2.2.2.2 hc2) (cwV 2 C.1.2.2.2.2 gX6_readNumber_X6_mark rfl rfl rfl nd_X6_mark ⟨Nat.le_of_ble_eq_true rfl, Nat.le_of_ble_eq_true rfl⟩) 2 rfl rfl rfl rfl (Nat.le_of_ble_eq_true rfl) dX6_readNumber_119 ⟨Nat.le_of_ble_eq_true rfl, Nat.le_of_ble_eq_true rfl⟩ (fun H locs hA => ?_)
  refine lv_iload_n hx hb dX6_readNumber_122 rfl (lv_at hl 2 rfl) ?_
  obtain rfl := Option.some.inj h
  exact r_iret C hA dX6_readNumber_123
set_option maxHeartbeats 4000000 in
set_option maxRecDepth 100000 in
theorem w_X6_readNumber_87 {σ : SS} {x1 : Int32} {x2 : Int32} {x3 : Int32} (C : Cx p l s m args meth c cX6_readNumber 4 wsX6_readNumber (some .int) RX6 g A) (h : f_X6_readNumber_87 fu σ x1 x2 x3 = some R) {H : Heap} {locs : List Loc} {ls : Array Slot} (hA : Aw g A s.heap (wX g σ) H locs) (hl : lv_has ls 4 [(0, .ref (g.2.1 2)), (1, .int x1), (2, .int x2), (3, .int x3)]) : W p l e rmX6_readNumber s m args below meth c H locs 0 0 (MQ below (Qi g A (wX g R.2) R.1) args s 0 0 A) (F0 m 87 ls []) := by
  have hx := C.1.1
  have hb := C.1.2.1
  unfold f_X6_readNumber_87 at h
  refine lv_aload_n hx hb dX6_readNumber_87 rfl (lv_at hl 0 rfl) ?_
  refine Xg_X6_at (v := (σ.1 4)) C hA rfl iX6_readNumber_X6 (by decide +kernel) dX6_readNumber_88 ?_
  refine lv_iload_n hx hb dX6_readNumber_91 rfl (lv_at hl 2 rfl) ?_
  refine lv_icmp_ne (tgt := 104) hx hb dX6_readNumber_92 (by decide) (fun c1 => ?_) (fun c1 => ?_)
  · replace h := (if_neg c1).symm.trans h
    refine lv_iload_n hx hb dX6_readNumber_104 rfl (lv_at hl 3 rfl) ?_
    refine lv_iload_n hx hb dX6_readNumber_105 rfl (lv_at hl 1 rfl) ?_
    refine lv_icmp_lt (tgt := 116) hx hb dX6_readNumber_106 (by decide) (fun c2 => ?_) (fun c2 => ?_)
    · replace h := (if_pos c2).symm.trans h
      exact w_X6_readNumber_116 C h hA (lv_sub hl [0, 2, 3] rfl)
    · replace h := (if_neg c2).symm.trans h
      refine lv_iload_n hx hb dX6_readNumber_109 rfl (lv_at hl 3 rfl) ?_
      refine lv_sipush (v := 1000) hx hb dX6_readNumber_110 (by decide) ?_
      refine lv_icmp_le (tgt := 122) hx hb dX6_readNumber_113 (by decide) (fun c3 => ?_) (fun c3 => ?_)
      · replace h := (if_pos c3).symm.trans h
        refine lv_iload_n hx hb dX6_readNumber_122 rfl (lv_at hl 3 rfl) ?_
        obtain rfl := Option.some.inj h
        exact r_iret C hA dX6_readNumber_123
      · replace h := (if_neg c3).symm.trans h
        exact w_X6_readNumber_116 C h hA (lv_sub hl [0, 2, 3] rfl)
  · replace h := (if_pos c1).symm.trans h
    refine lv_aload_n hx hb dX6_readNumber_95 rfl (lv_at hl 0 rfl) ?_
    refine lv_iconst (v := 1) hx hb dX6_readNumber_96 (by decide) ?_
    refine lv_iload_n hx hb dX6_readNumber_97 rfl (lv_at hl 2 rfl) ?_
    obtain ⟨r4, t6, hc5, h⟩ := bd h
    refine r_callVv (r := r4) (w1 := wX g t6) (As := [.int (1 : Int32), .int x2]) (rest := []) C hA hl.1 (k_X6_mark C.2.2.2.2.2.2 hc5) (cwV 2 C.1.2.2.2.2 gX6_readNumber_X6_mark rfl rfl rfl nd_X6_mark ⟨Nat.le_of_ble_eq_true rfl, Nat.le_of_ble_eq_true rfl⟩) 2 rfl rfl rfl rfl (Nat.le_of_ble_eq_true rfl) dX6_readNumber_98 ⟨Nat.le_of_ble_eq_true rfl, Nat.le_of_ble_eq_true rfl⟩ (fun H locs hA => ?_)
    refine lv_goto (tgt := 122) hx hb dX6_readNumber_101 (by decide) ?_
    refine lv_iload_n hx hb dX6_readNumber_122 rfl (lv_at hl 3 rfl) ?_
    obtain rfl := Option.some.inj h
    exact r_iret C hA dX6_readNumber_123
set_option maxHeartbeats 4000000 in
set_option maxRecDepth 100000 in
theorem w_X6_readNumber_11 {σ : SS} {x1 : Int32} {x2 : Int32} {x3 : Int32} (C : Cx p l s m args meth c cX6_readNumber 4 wsX6_readNumber (some .int) RX6 g A) {k11 : SS → (Int32 × Int32 × Int32) → Option (Int32 × SS)} (hk11 : ∀ (σ : SS) (x : Int32 × Int32 × Int32), k11 σ x = some R → ∀ (H : Heap) (locs : List Loc) (ls : Array Slot), Aw g A s.heap (wX g σ) H locs → lv_has ls 4 [(0, .ref (g.2.1 2)), (1, .int x.1), (2, .int x.2.1), (3, .int x.2.2)] → W p l e rmX6_readNumber s m args below meth c H locs 0 0 (MQ below (Qi g A (wX g R.2) R.1) args s 0 0 A) (F0 m 11 ls [])) (h : f_X6_readNumber_11 fu k11 σ x1 x2 x3 = some R) {H : Heap} {locs : List Loc} {ls : Array Slot} (hA : Aw g A s.heap (wX g σ) H locs) (hl : lv_has ls 4 [(0, .ref (g.2.1 2)), (1, .int x1), (2, .int x2), (3, .int x3)]) : W p l e rmX6_readNumber s m args below meth c H locs 0 0 (MQ below (Qi g A (wX g R.2) R.1) args s 0 0 A) (F0 m 11 ls []) := by
  have hx := C.1.1
  have hb := C.1.2.1
  unfold f_X6_readNumber_11 at h
  refine lv_aload_n hx hb dX6_readNumber_11 rfl (lv_at hl 0 rfl) ?_
  refine Xg_X6_at (v := (σ.1 4)) C hA rfl iX6_readNumber_X6 (by decide +kernel) dX6_readNumber_12 ?_
  refine lv_aload_n hx hb dX6_readNumber_15 rfl (lv_at hl 0 rfl) ?_
  refine Xg_X6_length (v := (σ.1 3)) C hA rfl iX6_readNumber_X6 (by decide +kernel) dX6_readNumber_16 ?_
  refine lv_icmp_ge (tgt := 87) hx hb dX6_readNumber_19 (by decide) (fun c1 => ?_) (fun c1 => ?_)
  · replace h := (if_pos c1).symm.trans h
    exact w_X6_readNumber_87 C h hA (lv_sub hl [0, 1, 2, 3] rfl)
  · replace h := (if_neg c1).symm.trans h
    refine lv_aload_n hx hb dX6_readNumber_22 rfl (lv_at hl 0 rfl) ?_
    refine Xg_X6_text C hA iX6_readNumber_X6 (by decide +kernel) dX6_readNumber_23 ?_
    refine lv_aload_n hx hb dX6_readNumber_26 rfl (lv_at hl 0 rfl) ?_
    refine Xg_X6_at (v := (σ.1 4)) C hA rfl iX6_readNumber_X6 (by decide +kernel) dX6_readNumber_27 ?_
    obtain ⟨g2, h⟩ := gd h
    refine Xld_11 (v := (σ.2.1 11 ((σ.1 4)).toNatClampNeg)) C hA rfl g2 dX6_readNumber_30 ?_
    refine lv_bipush (v := 48) hx hb dX6_readNumber_31 (by decide) ?_
    refine lv_icmp_lt (tgt := 87) hx hb dX6_readNumber_33 (by decide) (fun c3 => ?_) (fun c3 => ?_)
    · replace h := (if_pos c3).symm.trans h
      exact w_X6_readNumber_87 C h hA (lv_sub hl [0, 1, 2, 3] rfl)
    · replace h := (if_neg c3).symm.trans h
      refine lv_aload_n hx hb dX6_readNumber_36 rfl (lv_at hl 0 rfl) ?_
      refine Xg_X6_text C hA iX6_readNumber_X6 (by decide +kernel) dX6_readNumber_37 ?_
      refine lv_aload_n hx hb dX6_readNumber_40 rfl (lv_at hl 0 rfl) ?_
      refine Xg_X6_at (v := (σ.1 4)) C hA rfl iX6_readNumber_X6 (by decide +kernel) dX6_readNumber_41 ?_
      refine Xld_11 (v := (σ.2.1 11 ((σ.1 4)).toNatClampNeg)) C hA rfl g2 dX6_readNumber_44 ?_
      refine lv_bipush (v := 57) hx hb dX6_readNumber_45 (by decide) ?_
      refine lv_icmp_gt (tgt := 87) hx hb dX6_readNumber_47 (by decide) (fun c4 => ?_) (fun c4 => ?_)
      · replace h := (if_pos c4).symm.trans h
        exact w_X6_readNumber_87 C h hA (lv_sub hl [0, 1, 2, 3] rfl)
      · replace h := (if_neg c4).symm.trans h
        refine lv_iload_n hx hb dX6_readNumber_50 rfl (lv_at hl 3 rfl) ?_
        refine lv_bipush (v := 10) hx hb dX6_readNumber_51 (by decide) ?_
        refine lv_imul hx hb dX6_readNumber_53 ?_
        refine lv_aload_n hx hb dX6_readNumber_54 rfl (lv_at hl 0 rfl) ?_
        refine Xg_X6_text C hA iX6_readNumber_X6 (by decide +kernel) dX6_readNumber_55 ?_
        refine lv_aload_n hx hb dX6_readNumber_58 rfl (lv_at hl 0 rfl) ?_
        refine Xg_X6_at (v := (σ.1 4)) C hA rfl iX6_readNumber_X6 (by decide +kernel) dX6_readNumber_59 ?_
        refine Xld_11 (v := (σ.2.1 11 ((σ.1 4)).toNatClampNeg)) C hA rfl g2 dX6_readNumber_62 ?_
        refine lv_iadd hx hb dX6_readNumber_63 ?_
        refine lv_bipush (v := 48) hx hb dX6_readNumber_64 (by decide) ?_
        refine lv_isub hx hb dX6_readNumber_66 ?_
        refine lv_sipush (v := 1001) hx hb dX6_readNumber_67 (by decide) ?_
        refine va_mmin (rest := []) hx hb (C.1.2.2.1.trans hl.1.symm) C.1.2.2.2.1 (C.1.2.2.2.2 (.methodLink RX6 93 Lib.Math.min.name) (by decide +kernel)) (C.1.2.2.2.2 (.static Lib.Math.min.name) (by decide +kernel)) (C.1.2.2.2.2 (.initialized "java/lang/Math") (by decide +kernel)) (C.1.2.2.2.2 (.code Lib.Math.min.name Lib.Math.min.code 2 (some .int)) (by decide +kernel)) (Nat.le_of_ble_eq_true rfl) (Nat.le_of_ble_eq_true rfl) (Nat.le_of_ble_eq_true rfl) (Nat.le_of_ble_eq_true rfl) dX6_readNumber_70 ?_
        refine lv_istore_n (lv' := [(3, .int (if (1001 : Int32) < (((x3 * (10 : Int32)) + (σ.2.1 11 ((σ.1 4)).toNatClampNeg)) - (48 : Int32)) then (1001 : Int32) else (((x3 * (10 : Int32)) + (σ.2.1 11 ((σ.1 4)).toNatClampNeg)) - (48 : Int32)))), (0, .ref (g.2.1 2)), (1, .int x1), (2, .int x2)]) hx hb dX6_readNumber_73 rfl hl (by decide) rfl (fun ls hl => ?_)
        refine lv_aload_n hx hb dX6_readNumber_74 rfl (lv_at hl 1 rfl) ?_
        refine lv_dup hx hb dX6_readNumber_75 rfl ?_
        refine Xg_X6_at (v := (σ.1 4)) C hA rfl iX6_readNumber_X6 (by decide +kernel) dX6_readNumber_76 ?_
        refine lv_iconst (v := 1) hx hb dX6_readNumber_79 (by decide) ?_
        refine lv_iadd hx hb dX6_readNumber_80 ?_
        refine Xp_X6_at C hA iX6_readNumber_X6 (by decide +kernel) dX6_readNumber_81 (fun H locs hA => ?_)
        refine lv_goto (tgt := 11) hx hb dX6_readNumber_84 (by decide) ?_
        exact hk11 _ _ h _ _ _ hA (lv_sub hl [1, 2, 3, 0] rfl)
set_option maxHeartbeats 4000000 in
theorem w_X6_readNumber_L11 {σ : SS} {x : Int32 × Int32 × Int32} (C : Cx p l s m args meth c cX6_readNumber 4 wsX6_readNumber (some .int) RX6 g A) (h : f_X6_readNumber_L11 fu σ x = some R) {H : Heap} {locs : List Loc} {ls : Array Slot} (hA : Aw g A s.heap (wX g σ) H locs) (hl : lv_has ls 4 [(0, .ref (g.2.1 2)), (1, .int x.1), (2, .int x.2.1), (3, .int x.2.2)]) : W p l e rmX6_readNumber s m args below meth c H locs 0 0 (MQ below (Qi g A (wX g R.2) R.1) args s 0 0 A) (F0 m 11 ls []) := by
  refine loopW (P := fun σ x => ∀ (H : Heap) (locs : List Loc) (ls : Array Slot), Aw g A s.heap (wX g σ) H locs → lv_has ls 4 [(0, .ref (g.2.1 2)), (1, .int x.1), (2, .int x.2.1), (3, .int x.2.2)] → W p l e rmX6_readNumber s m args below meth c H locs 0 0 (MQ below (Qi g A (wX g R.2) R.1) args s 0 0 A) (F0 m 11 ls [])) (fun k hk σ x h9 H locs ls hA9 hl9 => ?_) fu σ x h H locs ls hA hl
  exact w_X6_readNumber_11 C hk h9 hA9 hl9
set_option maxHeartbeats 4000000 in
set_option maxRecDepth 100000 in
theorem w_X6_readNumber_0 {σ : SS} {x1 : Int32} (C : Cx p l s m args meth c cX6_readNumber 4 wsX6_readNumber (some .int) RX6 g A) (h : f_X6_readNumber fu σ x1 = some R) {H : Heap} {locs : List Loc} {ls : Array Slot} (hA : Aw g A s.heap (wX g σ) H locs) (hl : lv_has ls 4 [(0, .ref (g.2.1 2)), (1, .int x1)]) : W p l e rmX6_readNumber s m args below meth c H locs 0 0 (MQ below (Qi g A (wX g R.2) R.1) args s 0 0 A) (F0 m 0 ls []) := by
  have hx := C.1.1
  have hb := C.1.2.1
  unfold f_X6_readNumber at h
  refine lv_aload_n hx hb dX6_readNumber_0 rfl (lv_at hl 0 rfl) ?_
  obtain ⟨r1, t3, hc2, h⟩ := bd h
  refine r_callVv (r := r1) (w1 := wX g t3) (As := []) (rest := []) C hA hl.1 (k_X6_skipBlanks C.2.2.2.2.2.2 hc2) (cwV 0 C.1.2.2.2.2 gX6_readNumber_X6_skipBlanks rfl rfl rfl nd_X6_skipBlanks ⟨Nat.le_of_ble_eq_true rfl, Nat.le_of_ble_eq_true rfl⟩) 2 rfl rfl rfl rfl (Nat.le_of_ble_eq_true rfl) dX6_readNumber_1 ⟨Nat.le_of_ble_eq_true rfl, Nat.le_of_ble_eq_true rfl⟩ (fun H locs hA => ?_)
  refine lv_aload_n hx hb dX6_readNumber_4 rfl (lv_at hl 0 rfl) ?_
  refine Xg_X6_at (v := (t3.1 4)) C hA rfl iX6_readNumber_X6 (by decide +kernel) dX6_readNumber_5 ?_
  refine lv_istore_n (lv' := [(2, .int (t3.1 4)), (0, .ref (g.2.1 2)), (1, .int x1)]) hx hb dX6_readNumber_8 rfl hl (by decide) rfl (fun ls hl => ?_)
  refine lv_iconst (v := 0) hx hb dX6_readNumber_9 (by decide) ?_
  refine lv_istore_n (lv' := [(3, .int (0 : Int32)), (2, .int (t3.1 4)), (0, .ref (g.2.1 2)), (1, .int x1)]) hx hb dX6_readNumber_10 rfl hl (by decide) rfl (fun ls hl => ?_)
  exact w_X6_readNumber_L11 C h hA (lv_sub hl [2, 3, 1, 0] rfl)
end
set_option maxRecDepth 100000 in
theorem k_X6_readNumber {l : Launch} {g : Gm} {fu : Nat} {σ : SS} {x1 : Int32} {R : Int32 × SS} (hlt : l.stackTraces = false) (h : f_X6_readNumber fu σ x1 = some R) (sz : Nat) : Met l yX6_readNumber wsX6_readNumber rmX6_readNumber (Pw g (wX g σ) [.ref (g.2.1 2), .int x1] sz) (Qi g (va_A (wX g σ) sz) (wX g R.2) R.1) 0 0 (va_A (wX g σ) sz) :=
  ofM (own := RX6) hlt (by decide) rfl rfl (Nat.le_of_ble_eq_true rfl) (fun p e s m below meth c hsz C hA ls hl => w_X6_readNumber_0 C h hA hl)
abbrev rmX6_readSign : Room := { frames := 1, cells := 0, slots := 0, locals := 22 }
theorem iX6_readSign_X6 : ∀ x ∈ wsX60, x ∈ wsX6_readSign := by decide +kernel
theorem nd_X6_readSign : yX6_readSign.cls = RX6 ∧ yX6_readSign.cls ≠ "java/lang/invoke/MethodHandle" ∧ yX6_readSign.cls ≠ "java/lang/invoke/VarHandle" ∧ (parseMethodDescriptor yX6_readSign.desc).map (fun d => d.parameters.length) = some 1 := by decide +kernel
def f_X6_readSign_41 (fu : Nat) (σ : SS) : Option (Unit × SS) :=
  bnd (f_X6_mark fu σ (1 : Int32) (σ.1 4)) (fun r1 t3 => some ((), t3))
def f_X6_readSign (fu : Nat) (σ : SS) (x1 : Int32) : Option (Unit × SS) :=
  bnd (f_X6_skipBlanks fu σ) (fun r1 t3 => (if (t3.1 3) ≤ (t3.1 4) then f_X6_readSign_41 fu t3 else if inB (t3.1 4) 200 then (if (t3.2.1 11 ((t3.1 4)).toNatClampNeg) = x1 then some ((), (sI t3 4 ((t3.1 4) + (1 : Int32)))) else f_X6_readSign_41 fu t3) else none))
section
variable {p : Program} {l : Launch} {e : Env} {s : State} {m : MethodId} {args : Array Value} {below : List Frame} {meth : Method} {c : Code} {g : Gm} {A : Nat → Prop} {fu : Nat} {R : Unit × SS}
set_option maxHeartbeats 4000000 in
set_option maxRecDepth 100000 in
theorem w_X6_readSign_41 {σ : SS} (C : Cx p l s m args meth c cX6_readSign 2 wsX6_readSign none RX6 g A) (h : f_X6_readSign_41 fu σ = some R) {H : Heap} {locs : List Loc} {ls : Array Slot} (hA : Aw g A s.heap (wX g σ) H locs) (hl : lv_has ls 2 [(0, .ref (g.2.1 2))]) : W p l e rmX6_readSign s m args below meth c H locs 0 0 (MQ below (Qv g A (wX g R.2) R.1) args s 0 0 A) (F0 m 41 ls []) := by
  have hx := C.1.1
  have hb := C.1.2.1
  unfold f_X6_readSign_41 at h
  refine lv_aload_n hx hb dX6_readSign_41 rfl (lv_at hl 0 rfl) ?_
  refine lv_iconst (v := 1) hx hb dX6_readSign_42 (by decide) ?_
  refine lv_aload_n hx hb dX6_readSign_43 rfl (lv_at hl 0 rfl) ?_
  refine Xg_X6_at (v := (σ.1 4)) C hA rfl iX6_readSign_X6 (by decide +kernel) dX6_readSign_44 ?_
  obtain ⟨r1, t3, hc2, h⟩ := bd h
  refine r_callVv (r := r1) (w1 := wX g t3) (As := [.int (1 : Int32), .int (σ.1 4)]) (rest := []) C hA hl.1 (k_X6_mark C.2.2.2.2.2.2 hc2) (cwV 2 C.1.2.2.2.2 gX6_readSign_X6_mark rfl rfl rfl nd_X6_mark ⟨Nat.le_of_ble_eq_true rfl, Nat.le_of_ble_eq_true rfl⟩) 2 rfl rfl rfl rfl (Nat.le_of_ble_eq_true rfl) dX6_readSign_47 ⟨Nat.le_of_ble_eq_true rfl, Nat.le_of_ble_eq_true rfl⟩ (fun H locs hA => ?_)
  obtain rfl := Option.some.inj h
  exact r_vret C hA dX6_readSign_50
set_option maxHeartbeats 4000000 in
set_option maxRecDepth 100000 in
theorem w_X6_readSign_0 {σ : SS} {x1 : Int32} (C : Cx p l s m args meth c cX6_readSign 2 wsX6_readSign none RX6 g A) (h : f_X6_readSign fu σ x1 = some R) {H : Heap} {locs : List Loc} {ls : Array Slot} (hA : Aw g A s.heap (wX g σ) H locs) (hl : lv_has ls 2 [(0, .ref (g.2.1 2)), (1, .int x1)]) : W p l e rmX6_readSign s m args below meth c H locs 0 0 (MQ below (Qv g A (wX g R.2) R.1) args s 0 0 A) (F0 m 0 ls []) := by
  have hx := C.1.1
  have hb := C.1.2.1
  unfold f_X6_readSign at h
  refine lv_aload_n hx hb dX6_readSign_0 rfl (lv_at hl 0 rfl) ?_
  obtain ⟨r1, t3, hc2, h⟩ := bd h
  refine r_callVv (r := r1) (w1 := wX g t3) (As := []) (rest := []) C hA hl.1 (k_X6_skipBlanks C.2.2.2.2.2.2 hc2) (cwV 0 C.1.2.2.2.2 gX6_readSign_X6_skipBlanks rfl rfl rfl nd_X6_skipBlanks ⟨Nat.le_of_ble_eq_true rfl, Nat.le_of_ble_eq_true rfl⟩) 2 rfl rfl rfl rfl (Nat.le_of_ble_eq_true rfl) dX6_readSign_1 ⟨Nat.le_of_ble_eq_true rfl, Nat.le_of_ble_eq_true rfl⟩ (fun H locs hA => ?_)
  refine lv_aload_n hx hb dX6_readSign_4 rfl (lv_at hl 0 rfl) ?_
  refine Xg_X6_at (v := (t3.1 4)) C hA rfl iX6_readSign_X6 (by decide +kernel) dX6_readSign_5 ?_
  refine lv_aload_n hx hb dX6_readSign_8 rfl (lv_at hl 0 rfl) ?_
  refine Xg_X6_length (v := (t3.1 3)) C hA rfl iX6_readSign_X6 (by decide +kernel) dX6_readSign_9 ?_
  refine lv_icmp_ge (tgt := 41) hx hb dX6_readSign_12 (by decide) (fun c4 => ?_) (fun c4 => ?_)
  · replace h := (if_pos c4).symm.trans h
    exact w_X6_readSign_41 C h hA (lv_sub hl [0] rfl)
  · replace h := (if_neg c4).symm.trans h
    refine lv_aload_n hx hb dX6_readSign_15 rfl (lv_at hl 0 rfl) ?_
    refine Xg_X6_text C hA iX6_readSign_X6 (by decide +kernel) dX6_readSign_16 ?_
    refine lv_aload_n hx hb dX6_readSign_19 rfl (lv_at hl 0 rfl) ?_
    refine Xg_X6_at (v := (t3.1 4)) C hA rfl iX6_readSign_X6 (by decide +kernel) dX6_readSign_20 ?_
    obtain ⟨g5, h⟩ := gd h
    refine Xld_11 (v := (t3.2.1 11 ((t3.1 4)).toNatClampNeg)) C hA rfl g5 dX6_readSign_23 ?_
    refine lv_iload_n hx hb dX6_readSign_24 rfl (lv_at hl 1 rfl) ?_
    refine lv_icmp_ne (tgt := 41) hx hb dX6_readSign_25 (by decide) (fun c6 => ?_) (fun c6 => ?_)
    · replace h := (if_neg c6).symm.trans h
      exact w_X6_readSign_41 C h hA (lv_sub hl [0] rfl)
    · replace h := (if_pos c6).symm.trans h
      refine lv_aload_n hx hb dX6_readSign_28 rfl (lv_at hl 0 rfl) ?_
      refine lv_dup hx hb dX6_readSign_29 rfl ?_
      refine Xg_X6_at (v := (t3.1 4)) C hA rfl iX6_readSign_X6 (by decide +kernel) dX6_readSign_30 ?_
      refine lv_iconst (v := 1) hx hb dX6_readSign_33 (by decide) ?_
      refine lv_iadd hx hb dX6_readSign_34 ?_
      refine Xp_X6_at C hA iX6_readSign_X6 (by decide +kernel) dX6_readSign_35 (fun H locs hA => ?_)
      refine lv_goto (tgt := 50) hx hb dX6_readSign_38 (by decide) ?_
      obtain rfl := Option.some.inj h
      exact r_vret C hA dX6_readSign_50
end
set_option maxRecDepth 100000 in
theorem k_X6_readSign {l : Launch} {g : Gm} {fu : Nat} {σ : SS} {x1 : Int32} {R : Unit × SS} (hlt : l.stackTraces = false) (h : f_X6_readSign fu σ x1 = some R) (sz : Nat) : Met l yX6_readSign wsX6_readSign rmX6_readSign (Pw g (wX g σ) [.ref (g.2.1 2), .int x1] sz) (Qv g (va_A (wX g σ) sz) (wX g R.2) R.1) 0 0 (va_A (wX g σ) sz) :=
  ofM (own := RX6) hlt (by decide) rfl rfl (Nat.le_of_ble_eq_true rfl) (fun p e s m below meth c hsz C hA ls hl => w_X6_readSign_0 C h hA hl)
abbrev rmX6_readWithin : Room := { frames := 5, cells := 0, slots := 0, locals := 108 }
theorem iX6_readWithin_X6 : ∀ x ∈ wsX60, x ∈ wsX6_readWithin := by decide +kernel
theorem nd_X6_readWithin : yX6_readWithin.cls = RX6 ∧ yX6_readWithin.cls ≠ "java/lang/invoke/MethodHandle" ∧ yX6_readWithin.cls ≠ "java/lang/invoke/VarHandle" ∧ (parseMethodDescriptor yX6_readWithin.desc).map (fun d => d.parameters.length) = some 0 := by decide +kernel
def f_X6_readWithin (fu : Nat) (σ : SS) : Option (Unit × SS) :=
  bnd (f_X6_skipBlanks fu σ) (fun r1 t3 => bnd (f_X6_skipLetters fu t3) (fun r4 t6 => bnd1 (f_X6_spells fu t6 (t3.1 4) 3) (fun r7 => (if r7 = 0 then bnd (f_X6_mark fu t6 (1 : Int32) (t3.1 4)) (fun r10 t12 => some ((), t12)) else some ((), t6)))))
section
variable {p : Program} {l : Launch} {e : Env} {s : State} {m : MethodId} {args : Array Value} {below : List Frame} {meth : Method} {c : Code} {g : Gm} {A : Nat → Prop} {fu : Nat} {R : Unit × SS}
set_option maxHeartbeats 4000000 in
set_option maxRecDepth 100000 in
theorem w_X6_readWithin_0 {σ : SS} (C : Cx p l s m args meth c cX6_readWithin 2 wsX6_readWithin none RX6 g A) (h : f_X6_readWithin fu σ = some R) {H : Heap} {locs : List Loc} {ls : Array Slot} (hA : Aw g A s.heap (wX g σ) H locs) (hl : lv_has ls 2 [(0, .ref (g.2.1 2))]) : W p l e rmX6_readWithin s m args below meth c H locs 0 0 (MQ below (Qv g A (wX g R.2) R.1) args s 0 0 A) (F0 m 0 ls []) := by
  have hx := C.1.1
  have hb := C.1.2.1
  unfold f_X6_readWithin at h
  refine lv_aload_n hx hb dX6_readWithin_0 rfl (lv_at hl 0 rfl) ?_
  obtain ⟨r1, t3, hc2, h⟩ := bd h
  refine r_callVv (r := r1) (w1 := wX g t3) (As := []) (rest := []) C hA hl.1 (k_X6_skipBlanks C.2.2.2.2.2.2 hc2) (cwV 0 C.1.2.2.2.2 gX6_readWithin_X6_skipBlanks rfl rfl rfl nd_X6_skipBlanks ⟨Nat.le_of_ble_eq_true rfl, Nat.le_of_ble_eq_true rfl⟩) 2 rfl rfl rfl rfl (Nat.le_of_ble_eq_true rfl) dX6_readWithin_1 ⟨Nat.le_of_ble_eq_true rfl, Nat.le_of_ble_eq_true rfl⟩ (fun H locs hA => ?_)
  refine lv_aload_n hx hb dX6_readWithin_4 rfl (lv_at hl 0 rfl) ?_
  refine Xg_X6_at (v := (t3.1 4)) C hA rfl iX6_readWithin_X6 (by decide +kernel) dX6_readWithin_5 ?_
  refine lv_istore_n (lv' := [(1, .int (t3.1 4)), (0, .ref (g.2.1 2))]) hx hb dX6_readWithin_8 rfl hl (by decide) rfl (fun ls hl => ?_)
  refine lv_aload_n hx hb dX6_readWithin_9 rfl (lv_at hl 1 rfl) ?_
  obtain ⟨r4, t6, hc5, h⟩ := bd h
  refine r_callVv (r := r4) (w1 := wX g t6) (As := []) (rest := []) C hA hl.1 (k_X6_skipLetters C.2.2.2.2.2.2 hc5) (cwV 0 C.1.2.2.2.2 gX6_readWithin_X6_skipLetters rfl rfl rfl nd_X6_skipLetters ⟨Nat.le_of_ble_eq_true rfl, Nat.le_of_ble_eq_true rfl⟩) 2 rfl rfl rfl rfl (Nat.le_of_ble_eq_true rfl) dX6_readWithin_10 ⟨Nat.le_of_ble_eq_true rfl, Nat.le_of_ble_eq_true rfl⟩ (fun H locs hA => ?_)
  refine lv_aload_n hx hb dX6_readWithin_13 rfl (lv_at hl 1 rfl) ?_
  refine lv_iload_n hx hb dX6_readWithin_14 rfl (lv_at hl 0 rfl) ?_
  refine va_ldcS hx hb C.1.2.2.2.1 C.2.2.2.2.2.1.2.2.2.2.2.2.2.2.2.2.2.2.2.2.2.2.2.2.2.2.2.2.2.2.2.2.2.2.2.2.1 dX6_readWithin_15 ?_
  obtain ⟨r7, hc8, h⟩ := bd1 h
  refine r_callVi (r := r7) (w1 := wX g t6) (As := [.int (t3.1 4), .ref (g.2.2.2.1 3)]) (rest := []) C hA hl.1 (k_X6_spells C.2.2.2.2.2.2 hc8) (cwV 2 C.1.2.2.2.2 gX6_readWithin_X6_spells rfl rfl rfl nd_X6_spells ⟨Nat.le_of_ble_eq_true rfl, Nat.le_of_ble_eq_true rfl⟩) 2 rfl rfl rfl rfl (Nat.le_of_ble_eq_true rfl) dX6_readWithin_17 ⟨Nat.le_of_ble_eq_true rfl, Nat.le_of_ble_eq_true rfl⟩ (fun H locs hA => ?_)
  refine lv_if_ne (tgt := 29) hx hb dX6_readWithin_20 (by decide) (fun c9 => ?_) (fun c9 => ?_)
  · replace h := (if_neg c9).symm.trans h
    obtain rfl := Option.some.inj h
    exact r_vret C hA dX6_readWithin_29
  · replace h := (if_pos c9).symm.trans h
    refine lv_aload_n hx hb dX6_readWithin_23 rfl (lv_at hl 1 rfl) ?_
    refine lv_iconst (v := 1) hx hb dX6_readWithin_24 (by decide) ?_
    refine lv_iload_n hx hb dX6_readWithin_25 rfl (lv_at hl 0 rfl) ?_
    obtain ⟨r10, t12, hc11, h⟩ := bd h
    refine r_callVv (r := r10) (w1 := wX g t12) (As := [.int (1 : Int32), .int (t3.1 4)]) (rest := []) C hA hl.1 (k_X6_mark C.2.2.2.2.2.2 hc11) (cwV 2 C.1.2.2.2.2 gX6_readWithin_X6_mark rfl rfl rfl nd_X6_mark ⟨Nat.le_of_ble_eq_true rfl, Nat.le_of_ble_eq_true rfl⟩) 2 rfl rfl rfl rfl (Nat.le_of_ble_eq_true rfl) dX6_readWithin_26 ⟨Nat.le_of_ble_eq_true rfl, Nat.le_of_ble_eq_true rfl⟩ (fun H locs hA => ?_)
    obtain rfl := Option.some.inj h
    exact r_vret C hA dX6_readWithin_29
end
set_option maxRecDepth 100000 in
theorem k_X6_readWithin {l : Launch} {g : Gm} {fu : Nat} {σ : SS} {R : Unit × SS} (hlt : l.stackTraces = false) (h : f_X6_readWithin fu σ = some R) (sz : Nat) : Met l yX6_readWithin wsX6_readWithin rmX6_readWithin (Pw g (wX g σ) [.ref (g.2.1 2)] sz) (Qv g (va_A (wX g σ) sz) (wX g R.2) R.1) 0 0 (va_A (wX g σ) sz) :=
  ofM (own := RX6) hlt (by decide) rfl rfl (Nat.le_of_ble_eq_true rfl) (fun p e s m below meth c hsz C hA ls hl => w_X6_readWithin_0 C h hA hl)
abbrev rmX6_readLoan : Room := { frames := 2, cells := 0, slots := 0, locals := 53 }
theorem iX6_readLoan_X6 : ∀ x ∈ wsX60, x ∈ wsX6_readLoan := by decide +kernel
theorem nd_X6_readLoan : yX6_readLoan.cls = RX6 ∧ yX6_readLoan.cls ≠ "java/lang/invoke/MethodHandle" ∧ yX6_readLoan.cls ≠ "java/lang/invoke/VarHandle" ∧ (parseMethodDescriptor yX6_readLoan.desc).map (fun d => d.parameters.length) = some 0 := by decide +kernel
def f_X6_readLoan (fu : Nat) (σ : SS) : Option (Unit × SS) :=
  bnd (f_X6_readNumber fu σ (0 : Int32)) (fun r1 t3 => bnd (f_X6_readSign fu (sI t3 10 r1) (47 : Int32)) (fun r4 t6 => bnd (f_X6_readNumber fu t6 (1 : Int32)) (fun r7 t9 => some ((), (sI t9 11 r7)))))
section
variable {p : Program} {l : Launch} {e : Env} {s : State} {m : MethodId} {args : Array Value} {below : List Frame} {meth : Method} {c : Code} {g : Gm} {A : Nat → Prop} {fu : Nat} {R : Unit × SS}
set_option maxHeartbeats 4000000 in
set_option maxRecDepth 100000 in
theorem w_X6_readLoan_0 {σ : SS} (C : Cx p l s m args meth c cX6_readLoan 1 wsX6_readLoan none RX6 g A) (h : f_X6_readLoan fu σ = some R) {H : Heap} {locs : List Loc} {ls : Array Slot} (hA : Aw g A s.heap (wX g σ) H locs) (hl : lv_has ls 1 [(0, .ref (g.2.1 2))]) : W p l e rmX6_readLoan s m args below meth c H locs 0 0 (MQ below (Qv g A (wX g R.2) R.1) args s 0 0 A) (F0 m 0 ls []) := by
  have hx := C.1.1
  have hb := C.1.2.1
  unfold f_X6_readLoan at h
  refine lv_aload_n hx hb dX6_readLoan_0 rfl (lv_at hl 0 rfl) ?_
  refine lv_aload_n hx hb dX6_readLoan_1 rfl (lv_at hl 0 rfl) ?_
  refine lv_iconst (v := 0) hx hb dX6_readLoan_2 (by decide) ?_
  obtain ⟨r1, t3, hc2, h⟩ := bd h
  refine r_callVi (r := r1) (w1 := wX g t3) (As := [.int (0 : Int32)]) (rest := [.ref (g.2.1 2)]) C hA hl.1 (k_X6_readNumber C.2.2.2.2.2.2 hc2) (cwV 1 C.1.2.2.2.2 gX6_readLoan_X6_readNumber rfl rfl rfl nd_X6_readNumber ⟨Nat.le_of_ble_eq_true rfl, Nat.le_of_ble_eq_true rfl⟩) 2 rfl rfl rfl rfl (Nat.le_of_ble_eq_true rfl) dX6_readLoan_3 ⟨Nat.le_of_ble_eq_true rfl, Nat.le_of_ble_eq_true rfl⟩ (fun H locs hA => ?_)
  refine Xp_X6_loanTimes C hA iX6_readLoan_X6 (by decide +kernel) dX6_readLoan_6 (fun H locs hA => ?_)
  refine lv_aload_n hx hb dX6_readLoan_9 rfl (lv_at hl 0 rfl) ?_
  refine lv_bipush (v := 47) hx hb dX6_readLoan_10 (by decide) ?_
  obtain ⟨r4, t6, hc5, h⟩ := bd h
  refine r_callVv (r := r4) (w1 := wX g t6) (As := [.int (47 : Int32)]) (rest := []) C hA hl.1 (k_X6_readSign C.2.2.2.2.2.2 hc5) (cwV 1 C.1.2.2.2.2 gX6_readLoan_X6_readSign rfl rfl rfl nd_X6_readSign ⟨Nat.le_of_ble_eq_true rfl, Nat.le_of_ble_eq_true rfl⟩) 2 rfl rfl rfl rfl (Nat.le_of_ble_eq_true rfl) dX6_readLoan_12 ⟨Nat.le_of_ble_eq_true rfl, Nat.le_of_ble_eq_true rfl⟩ (fun H locs hA => ?_)
  refine lv_aload_n hx hb dX6_readLoan_15 rfl (lv_at hl 0 rfl) ?_
  refine lv_aload_n hx hb dX6_readLoan_16 rfl (lv_at hl 0 rfl) ?_
  refine lv_iconst (v := 1) hx hb dX6_readLoan_17 (by decide) ?_
  obtain ⟨r7, t9, hc8, h⟩ := bd h
  refine r_callVi (r := r7) (w1 := wX g t9) (As := [.int (1 : Int32)]) (rest := [.ref (g.2.1 2)]) C hA hl.1 (k_X6_readNumber C.2.2.2.2.2.2 hc8) (cwV 1 C.1.2.2.2.2 gX6_readLoan_X6_readNumber rfl rfl rfl nd_X6_readNumber ⟨Nat.le_of_ble_eq_true rfl, Nat.le_of_ble_eq_true rfl⟩) 2 rfl rfl rfl rfl (Nat.le_of_ble_eq_true rfl) dX6_readLoan_18 ⟨Nat.le_of_ble_eq_true rfl, Nat.le_of_ble_eq_true rfl⟩ (fun H locs hA => ?_)
  refine Xp_X6_loanBy C hA iX6_readLoan_X6 (by decide +kernel) dX6_readLoan_21 (fun H locs hA => ?_)
  obtain rfl := Option.some.inj h
  exact r_vret C hA dX6_readLoan_24
end
set_option maxRecDepth 100000 in
theorem k_X6_readLoan {l : Launch} {g : Gm} {fu : Nat} {σ : SS} {R : Unit × SS} (hlt : l.stackTraces = false) (h : f_X6_readLoan fu σ = some R) (sz : Nat) : Met l yX6_readLoan wsX6_readLoan rmX6_readLoan (Pw g (wX g σ) [.ref (g.2.1 2)] sz) (Qv g (va_A (wX g σ) sz) (wX g R.2) R.1) 0 0 (va_A (wX g σ) sz) :=
  ofM (own := RX6) hlt (by decide) rfl rfl (Nat.le_of_ble_eq_true rfl) (fun p e s m below meth c hsz C hA ls hl => w_X6_readLoan_0 C h hA hl)
abbrev rmX6_readReturn : Room := { frames := 6, cells := 0, slots := 0, locals := 129 }
theorem iX6_readReturn_X6 : ∀ x ∈ wsX60, x ∈ wsX6_readReturn := by decide +kernel
theorem nd_X6_readReturn : yX6_readReturn.cls = RX6 ∧ yX6_readReturn.cls ≠ "java/lang/invoke/MethodHandle" ∧ yX6_readReturn.cls ≠ "java/lang/invoke/VarHandle" ∧ (parseMethodDescriptor yX6_readReturn.desc).map (fun d => d.parameters.length) = some 0 := by decide +kernel
def f_X6_readReturn (fu : Nat) (σ : SS) : Option (Unit × SS) :=
  bnd (f_X6_readNumber fu σ (0 : Int32)) (fun r1 t3 => bnd (f_X6_readSign fu (sI t3 7 r1) (47 : Int32)) (fun r4 t6 => bnd (f_X6_readNumber fu t6 (1 : Int32)) (fun r7 t9 => bnd (f_X6_readWithin fu (sI t9 8 r7)) (fun r10 t12 => bnd (f_X6_readNumber fu t12 (0 : Int32)) (fun r13 t15 => some ((), (sI t15 9 r13)))))))
section
variable {p : Program} {l : Launch} {e : Env} {s : State} {m : MethodId} {args : Array Value} {below : List Frame} {meth : Method} {c : Code} {g : Gm} {A : Nat → Prop} {fu : Nat} {R : Unit × SS}
set_option maxHeartbeats 4000000 in
set_option maxRecDepth 100000 in
theorem w_X6_readReturn_0 {σ : SS} (C : Cx p l s m args meth c cX6_readReturn 1 wsX6_readReturn none RX6 g A) (h : f_X6_readReturn fu σ = some R) {H : Heap} {locs : List Loc} {ls : Array Slot} (hA : Aw g A s.heap (wX g σ) H locs) (hl : lv_has ls 1 [(0, .ref (g.2.1 2))]) : W p l e rmX6_readReturn s m args below meth c H locs 0 0 (MQ below (Qv g A (wX g R.2) R.1) args s 0 0 A) (F0 m 0 ls []) := by
  have hx := C.1.1
  have hb := C.1.2.1
  unfold f_X6_readReturn at h
  refine lv_aload_n hx hb dX6_readReturn_0 rfl (lv_at hl 0 rfl) ?_
  refine lv_aload_n hx hb dX6_readReturn_1 rfl (lv_at hl 0 rfl) ?_
  refine lv_iconst (v := 0) hx hb dX6_readReturn_2 (by decide) ?_
  obtain ⟨r1, t3, hc2, h⟩ := bd h
  refine r_callVi (r := r1) (w1 := wX g t3) (As := [.int (0 : Int32)]) (rest := [.ref (g.2.1 2)]) C hA hl.1 (k_X6_readNumber C.2.2.2.2.2.2 hc2) (cwV 1 C.1.2.2.2.2 gX6_readReturn_X6_readNumber rfl rfl rfl nd_X6_readNumber ⟨Nat.le_of_ble_eq_true rfl, Nat.le_of_ble_eq_true rfl⟩) 2 rfl rfl rfl rfl (Nat.le_of_ble_eq_true rfl) dX6_readReturn_3 ⟨Nat.le_of_ble_eq_true rfl, Nat.le_of_ble_eq_true rfl⟩ (fun H locs hA => ?_)
  refine Xp_X6_returnTimes C hA iX6_readReturn_X6 (by decide +kernel) dX6_readReturn_6 (fun H locs hA => ?_)
  refine lv_aload_n hx hb dX6_readReturn_9 rfl (lv_at hl 0 rfl) ?_
  refine lv_bipush (v := 47) hx hb dX6_readReturn_10 (by decide) ?_
  obtain ⟨r4, t6, hc5, h⟩ := bd h
  refine r_callVv (r := r4) (w1 := wX g t6) (As := [.int (47 : Int32)]) (rest := []) C hA hl.1 (k_X6_readSign C.2.2.2.2.2.2 hc5) (cwV 1 C.1.2.2.2.2 gX6_readReturn_X6_readSign rfl rfl rfl nd_X6_readSign ⟨Nat.le_of_ble_eq_true rfl, Nat.le_of_ble_eq_true rfl⟩) 2 rfl rfl rfl rfl (Nat.le_of_ble_eq_true rfl) dX6_readReturn_12 ⟨Nat.le_of_ble_eq_true rfl, Nat.le_of_ble_eq_true rfl⟩ (fun H locs hA => ?_)
  refine lv_aload_n hx hb dX6_readReturn_15 rfl (lv_at hl 0 rfl) ?_
  refine lv_aload_n hx hb dX6_readReturn_16 rfl (lv_at hl 0 rfl) ?_
  refine lv_iconst (v := 1) hx hb dX6_readReturn_17 (by decide) ?_
  obtain ⟨r7, t9, hc8, h⟩ := bd h
  refine r_callVi (r := r7) (w1 := wX g t9) (As := [.int (1 : Int32)]) (rest := [.ref (g.2.1 2)]) C hA hl.1 (k_X6_readNumber C.2.2.2.2.2.2 hc8) (cwV 1 C.1.2.2.2.2 gX6_readReturn_X6_readNumber rfl rfl rfl nd_X6_readNumber ⟨Nat.le_of_ble_eq_true rfl, Nat.le_of_ble_eq_true rfl⟩) 2 rfl rfl rfl rfl (Nat.le_of_ble_eq_true rfl) dX6_readReturn_18 ⟨Nat.le_of_ble_eq_true rfl, Nat.le_of_ble_eq_true rfl⟩ (fun H locs hA => ?_)
  refine Xp_X6_returnBy C hA iX6_readReturn_X6 (by decide +kernel) dX6_readReturn_21 (fun H locs hA => ?_)
  refine lv_aload_n hx hb dX6_readReturn_24 rfl (lv_at hl 0 rfl) ?_
  obtain ⟨r10, t12, hc11, h⟩ := bd h
  refine r_callVv (r := r10) (w1 := wX g t12) (As := []) (rest := []) C hA hl.1 (k_X6_readWithin C.2.2.2.2.2.2 hc11) (cwV 0 C.1.2.2.2.2 gX6_readReturn_X6_readWithin rfl rfl rfl nd_X6_readWithin ⟨Nat.le_of_ble_eq_true rfl, Nat.le_of_ble_eq_true rfl⟩) 2 rfl rfl rfl rfl (Nat.le_of_ble_eq_true rfl) dX6_readReturn_25 ⟨Nat.le_of_ble_eq_true rfl, Nat.le_of_ble_eq_true rfl⟩ (fun H locs hA => ?_)
  refine lv_aload_n hx hb dX6_readReturn_28 rfl (lv_at hl 0 rfl) ?_
  refine lv_aload_n hx hb dX6_readReturn_29 rfl (lv_at hl 0 rfl) ?_
  refine lv_iconst (v := 0) hx hb dX6_readReturn_30 (by decide) ?_
  obtain ⟨r13, t15, hc14, h⟩ := bd h
  refine r_callVi (r := r13) (w1 := wX g t15) (As := [.int (0 : Int32)]) (rest := [.ref (g.2.1 2)]) C hA hl.1 (k_X6_readNumber C.2.2.2.2.2.2 hc14) (cwV 1 C.1.2.2.2.2 gX6_readReturn_X6_readNumber rfl rfl rfl nd_X6_readNumber ⟨Nat.le_of_ble_eq_true rfl, Nat.le_of_ble_eq_true rfl⟩) 2 rfl rfl rfl rfl (Nat.le_of_ble_eq_true rfl) dX6_readReturn_31 ⟨Nat.le_of_ble_eq_true rfl, Nat.le_of_ble_eq_true rfl⟩ (fun H locs hA => ?_)
  refine Xp_X6_within C hA iX6_readReturn_X6 (by decide +kernel) dX6_readReturn_34 (fun H locs hA => ?_)
  obtain rfl := Option.some.inj h
  exact r_vret C hA dX6_readReturn_37
end
set_option maxRecDepth 100000 in
theorem k_X6_readReturn {l : Launch} {g : Gm} {fu : Nat} {σ : SS} {R : Unit × SS} (hlt : l.stackTraces = false) (h : f_X6_readReturn fu σ = some R) (sz : Nat) : Met l yX6_readReturn wsX6_readReturn rmX6_readReturn (Pw g (wX g σ) [.ref (g.2.1 2)] sz) (Qv g (va_A (wX g σ) sz) (wX g R.2) R.1) 0 0 (va_A (wX g σ) sz) :=
  ofM (own := RX6) hlt (by decide) rfl rfl (Nat.le_of_ble_eq_true rfl) (fun p e s m below meth c hsz C hA ls hl => w_X6_readReturn_0 C h hA hl)
abbrev rmX6_readClause : Room := { frames := 7, cells := 0, slots := 0, locals := 149 }
theorem iX6_readClause_X6 : ∀ x ∈ wsX60, x ∈ wsX6_readClause := by decide +kernel
theorem nd_X6_readClause : yX6_readClause.cls = RX6 ∧ yX6_readClause.cls ≠ "java/lang/invoke/MethodHandle" ∧ yX6_readClause.cls ≠ "java/lang/invoke/VarHandle" ∧ (parseMethodDescriptor yX6_readClause.desc).map (fun d => d.parameters.length) = some 1 := by decide +kernel
def f_X6_readClause_101 (fu : Nat) (σ : SS) : Option (Unit × SS) :=
  bnd (f_X6_readSign fu σ (59 : Int32)) (fun r1 t3 => some ((), t3))
def f_X6_readClause_56 (fu : Nat) (σ : SS) (x1 : Int32) (x2 : Int32) (x3 : Int32) (x4 : Int32) : Option (Unit × SS) :=
  (if x1 = (8 : Int32) then bnd (f_X6_mark fu σ (3 : Int32) x2) (fun r13 t15 => some ((), t15)) else (if x3 = 0 then (if x4 = 0 then bnd (f_X6_readNumber fu σ (0 : Int32)) (fun r4 t6 => f_X6_readClause_101 fu (sI t6 12 r4)) else bnd (f_X6_readLoan fu σ) (fun r7 t9 => f_X6_readClause_101 fu t9)) else bnd (f_X6_readReturn fu σ) (fun r10 t12 => f_X6_readClause_101 fu t12)))
def f_X6_readClause (fu : Nat) (σ : SS) (x1 : Int32) : Option (Unit × SS) :=
  bnd (f_X6_skipLetters fu σ) (fun r1 t3 => bnd1 (f_X6_spells fu t3 (σ.1 4) 0) (fun r4 => bnd1 (f_X6_spells fu t3 (σ.1 4) 1) (fun r6 => bnd1 (f_X6_spells fu t3 (σ.1 4) 2) (fun r8 => (if r4 = 0 then (if r6 = 0 then (if r8 = 0 then bnd (f_X6_mark fu t3 (1 : Int32) (σ.1 4)) (fun r13 t15 => some ((), t15)) else f_X6_readClause_56 fu t3 x1 (σ.1 4) r4 r6) else f_X6_readClause_56 fu t3 x1 (σ.1 4) r4 r6) else f_X6_readClause_56 fu t3 x1 (σ.1 4) r4 r6)))))
section
variable {p : Program} {l : Launch} {e : Env} {s : State} {m : MethodId} {args : Array Value} {below : List Frame} {meth : Method} {c : Code} {g : Gm} {A : Nat → Prop} {fu : Nat} {R : Unit × SS}
set_option maxHeartbeats 4000000 in
set_option maxRecDepth 100000 in
theorem w_X6_readClause_101 {σ : SS} (C : Cx p l s m args meth c cX6_readClause 6 wsX6_readClause none RX6 g A) (h : f_X6_readClause_101 fu σ = some R) {H : Heap} {locs : List Loc} {ls : Array Slot} (hA : Aw g A s.heap (wX g σ) H locs) (hl : lv_has ls 6 [(0, .ref (g.2.1 2))]) : W p l e rmX6_readClause s m args below meth c H locs 0 0 (MQ below (Qv g A (wX g R.2) R.1) args s 0 0 A) (F0 m 101 ls []) := by
  have hx := C.1.1
  have hb := C.1.2.1
  unfold f_X6_readClause_101 at h
  refine lv_aload_n hx hb dX6_readClause_101 rfl (lv_at hl 0 rfl) ?_
  refine lv_bipush (v := 59) hx hb dX6_readClause_102 (by decide) ?_
  obtain ⟨r1, t3, hc2, h⟩ := bd h
  refine r_callVv (r := r1) (w1 := wX g t3) (As := [.int (59 : Int32)]) (rest := []) C hA hl.1 (k_X6_readSign C.2.2.2.2.2.2 hc2) (cwV 1 C.1.2.2.2.2 gX6_readClause_X6_readSign rfl rfl rfl nd_X6_readSign ⟨Nat.le_of_ble_eq_true rfl, Nat.le_of_ble_eq_true rfl⟩) 2 rfl rfl rfl rfl (Nat.le_of_ble_eq_true rfl) dX6_readClause_104 ⟨Nat.le_of_ble_eq_true rfl, Nat.le_of_ble_eq_true rfl⟩ (fun H locs hA => ?_)
  obtain rfl := Option.some.inj h
  exact r_vret C hA dX6_readClause_107
set_option maxHeartbeats 4000000 in
set_option maxRecDepth 100000 in
theorem w_X6_readClause_56 {σ : SS} {x1 : Int32} {x2 : Int32} {x3 : Int32} {x4 : Int32} (C : Cx p l s m args meth c cX6_readClause 6 wsX6_readClause none RX6 g A) (h : f_X6_readClause_56 fu σ x1 x2 x3 x4 = some R) {H : Heap} {locs : List Loc} {ls : Array Slot} (hA : Aw g A s.heap (wX g σ) H locs) (hl : lv_has ls 6 [(0, .ref (g.2.1 2)), (1, .int x1), (2, .int x2), (3, .int x3), (4, .int x4)]) : W p l e rmX6_readClause s m args below meth c H locs 0 0 (MQ below (Qv g A (wX g R.2) R.1) args s 0 0 A) (F0 m 56 ls []) := by
  have hx := C.1.1
  have hb := C.1.2.1
  unfold f_X6_readClause_56 at h
  refine lv_iload_n hx hb dX6_readClause_56 rfl (lv_at hl 1 rfl) ?_
  refine lv_bipush (v := 8) hx hb dX6_readClause_57 (by decide) ?_
  refine lv_icmp_ne (tgt := 69) hx hb dX6_readClause_59 (by decide) (fun c1 => ?_) (fun c1 => ?_)
  · replace h := (if_neg c1).symm.trans h
    refine lv_iload_n hx hb dX6_readClause_69 rfl (lv_at hl 3 rfl) ?_
    refine lv_if_eq (tgt := 80) hx hb dX6_readClause_70 (by decide) (fun c2 => ?_) (fun c2 => ?_)
    · replace h := (if_pos c2).symm.trans h
      refine lv_iload hx hb dX6_readClause_80 (lv_at hl 4 rfl) ?_
      refine lv_if_eq (tgt := 92) hx hb dX6_readClause_82 (by decide) (fun c3 => ?_) (fun c3 => ?_)
      · replace h := (if_pos c3).symm.trans h
        refine lv_aload_n hx hb dX6_readClause_92 rfl (lv_at hl 0 rfl) ?_
        refine lv_aload_n hx hb dX6_readClause_93 rfl (lv_at hl 0 rfl) ?_
        refine lv_iconst (v := 0) hx hb dX6_readClause_94 (by decide) ?_
        obtain ⟨r4, t6, hc5, h⟩ := bd h
        refine r_callVi (r := r4) (w1 := wX g t6) (As := [.int (0 : Int32)]) (rest := [.ref (g.2.1 2)]) C hA hl.1 (k_X6_readNumber C.2.2.2.2.2.2 hc5) (cwV 1 C.1.2.2.2.2 gX6_readClause_X6_readNumber rfl rfl rfl nd_X6_readNumber ⟨Nat.le_of_ble_eq_true rfl, Nat.le_of_ble_eq_true rfl⟩) 2 rfl rfl rfl rfl (Nat.le_of_ble_eq_true rfl) dX6_readClause_95 ⟨Nat.le_of_ble_eq_true rfl, Nat.le_of_ble_eq_true rfl⟩ (fun H locs hA => ?_)
        refine Xp_X6_witness C hA iX6_readClause_X6 (by decide +kernel) dX6_readClause_98 (fun H locs hA => ?_)
        exact w_X6_readClause_101 C h hA (lv_sub hl [0] rfl)
      · replace h := (if_neg c3).symm.trans h
        refine lv_aload_n hx hb dX6_readClause_85 rfl (lv_at hl 0 rfl) ?_
        obtain ⟨r7, t9, hc8, h⟩ := bd h
        refine r_callVv (r := r7) (w1 := wX g t9) (As := []) (rest := []) C hA hl.1 (k_X6_readLoan C.2.2.2.2.2.2 hc8) (cwV 0 C.1.2.2.2.2 gX6_readClause_X6_readLoan rfl rfl rfl nd_X6_readLoan ⟨Nat.le_of_ble_eq_true rfl, Nat.le_of_ble_eq_true rfl⟩) 2 rfl rfl rfl rfl (Nat.le_of_ble_eq_true rfl) dX6_readClause_86 ⟨Nat.le_of_ble_eq_true rfl, Nat.le_of_ble_eq_true rfl⟩ (fun H locs hA => ?_)
        refine lv_goto (tgt := 101) hx hb dX6_readClause_89 (by decide) ?_
        exact w_X6_readClause_101 C h hA (lv_sub hl [0] rfl)
    · replace h := (if_neg c2).symm.trans h
      refine lv_aload_n hx hb dX6_readClause_73 rfl (lv_at hl 0 rfl) ?_
      obtain ⟨r10, t12, hc11, h⟩ := bd h
      refine r_callVv (r := r10) (w1 := wX g t12) (As := []) (rest := []) C hA hl.1 (k_X6_readReturn C.2.2.2.2.2.2 hc11) (cwV 0 C.1.2.2.2.2 gX6_readClause_X6_readReturn rfl rfl rfl nd_X6_readReturn ⟨Nat.le_of_ble_eq_true rfl, Nat.le_of_ble_eq_true rfl⟩) 2 rfl rfl rfl rfl (Nat.le_of_ble_eq_true rfl) dX6_readClause_74 ⟨Nat.le_of_ble_eq_true rfl, Nat.le_of_ble_eq_true rfl⟩ (fun H locs hA => ?_)
      refine lv_goto (tgt := 101) hx hb dX6_readClause_77 (by decide) ?_
      exact w_X6_readClause_101 C h hA (lv_sub hl [0] rfl)
  · replace h := (if_pos c1).symm.trans h
    refine lv_aload_n hx hb dX6_readClause_62 rfl (lv_at hl 0 rfl) ?_
    refine lv_iconst (v := 3) hx hb dX6_readClause_63 (by decide) ?_
    refine lv_iload_n hx hb dX6_readClause_64 rfl (lv_at hl 2 rfl) ?_
    obtain ⟨r13, t15, hc14, h⟩ := bd h
    refine r_callVv (r := r13) (w1 := wX g t15) (As := [.int (3 : Int32), .int x2]) (rest := []) C hA hl.1 (k_X6_mark C.2.2.2.2.2.2 hc14) (cwV 2 C.1.2.2.2.2 gX6_readClause_X6_mark rfl rfl rfl nd_X6_mark ⟨Nat.le_of_ble_eq_true rfl, Nat.le_of_ble_eq_true rfl⟩) 2 rfl rfl rfl rfl (Nat.le_of_ble_eq_true rfl) dX6_readClause_65 ⟨Nat.le_of_ble_eq_true rfl, Nat.le_of_ble_eq_true rfl⟩ (fun H locs hA => ?_)
    obtain rfl := Option.some.inj h
    exact r_vret C hA dX6_readClause_68
set_option maxHeartbeats 4000000 in
set_option maxRecDepth 100000 in
theorem w_X6_readClause_0 {σ : SS} {x1 : Int32} (C : Cx p l s m args meth c cX6_readClause 6 wsX6_readClause none RX6 g A) (h : f_X6_readClause fu σ x1 = some R) {H : Heap} {locs : List Loc} {ls : Array Slot} (hA : Aw g A s.heap (wX g σ) H locs) (hl : lv_has ls 6 [(0, .ref (g.2.1 2)), (1, .int x1)]) : W p l e rmX6_readClause s m args below meth c H locs 0 0 (MQ below (Qv g A (wX g R.2) R.1) args s 0 0 A) (F0 m 0 ls []) := by
  have hx := C.1.1
  have hb := C.1.2.1
  unfold f_X6_readClause at h
  refine lv_aload_n hx hb dX6_readClause_0 rfl (lv_at hl 0 rfl) ?_
  refine Xg_X6_at (v := (σ.1 4)) C hA rfl iX6_readClause_X6 (by decide +kernel) dX6_readClause_1 ?_
  refine lv_istore_n (lv' := [(2, .int (σ.1 4)), (0, .ref (g.2.1 2)), (1, .int x1)]) hx hb dX6_readClause_4 rfl hl (by decide) rfl (fun ls hl => ?_)
  refine lv_aload_n hx hb dX6_readClause_5 rfl (lv_at hl 1 rfl) ?_
  obtain ⟨r1, t3, hc2, h⟩ := bd h
  refine r_callVv (r := r1) (w1 := wX g t3) (As := []) (rest := []) C hA hl.1 (k_X6_skipLetters C.2.2.2.2.2.2 hc2) (cwV 0 C.1.2.2.2.2 gX6_readClause_X6_skipLetters rfl rfl rfl nd_X6_skipLetters ⟨Nat.le_of_ble_eq_true rfl, Nat.le_of_ble_eq_true rfl⟩) 2 rfl rfl rfl rfl (Nat.le_of_ble_eq_true rfl) dX6_readClause_6 ⟨Nat.le_of_ble_eq_true rfl, Nat.le_of_ble_eq_true rfl⟩ (fun H locs hA => ?_)
  refine lv_aload_n hx hb dX6_readClause_9 rfl (lv_at hl 1 rfl) ?_
  refine lv_iload_n hx hb dX6_readClause_10 rfl (lv_at hl 0 rfl) ?_
  refine va_ldcS hx hb C.1.2.2.2.1 C.2.2.2.2.2.1.2.2.2.2.2.2.2.2.2.2.2.2.2.2.2.2.2.2.2.2.2.2.2.2.2.2.2.1 dX6_readClause_11 ?_
  obtain ⟨r4, hc5, h⟩ := bd1 h
  refine r_callVi (r := r4) (w1 := wX g t3) (As := [.int (σ.1 4), .ref (g.2.2.2.1 0)]) (rest := []) C hA hl.1 (k_X6_spells C.2.2.2.2.2.2 hc5) (cwV 2 C.1.2.2.2.2 gX6_readClause_X6_spells rfl rfl rfl nd_X6_spells ⟨Nat.le_of_ble_eq_true rfl, Nat.le_of_ble_eq_true rfl⟩) 2 rfl rfl rfl rfl (Nat.le_of_ble_eq_true rfl) dX6_readClause_13 ⟨Nat.le_of_ble_eq_true rfl, Nat.le_of_ble_eq_true rfl⟩ (fun H locs hA => ?_)
  refine lv_istore_n (lv' := [(3, .int r4), (2, .int (σ.1 4)), (0, .ref (g.2.1 2)), (1, .int x1)]) hx hb dX6_readClause_16 rfl hl (by decide) rfl (fun ls hl => ?_)
  refine lv_aload_n hx hb dX6_readClause_17 rfl (lv_at hl 2 rfl) ?_
  refine lv_iload_n hx hb dX6_readClause_18 rfl (lv_at hl 1 rfl) ?_
  refine va_ldcS hx hb C.1.2.2.2.1 C.2.2.2.2.2.1.2.2.2.2.2.2.2.2.2.2.2.2.2.2.2.2.2.2.2.2.2.2.2.2.2.2.2.2.1 dX6_readClause_19 ?_
  obtain ⟨r6, hc7, h⟩ := bd1 h
  refine r_callVi (r := r6) (w1 := wX g t3) (As := [.int (σ.1 4), .ref (g.2.2.2.1 1)]) (rest := []) C hA hl.1 (k_X6_spells C.2.2.2.2.2.2 hc7) (cwV 2 C.1.2.2.2.2 gX6_readClause_X6_spells rfl rfl rfl nd_X6_spells ⟨Nat.le_of_ble_eq_true rfl, Nat.le_of_ble_eq_true rfl⟩) 2 rfl rfl rfl rfl (Nat.le_of_ble_eq_true rfl) dX6_readClause_21 ⟨Nat.le_of_ble_eq_true rfl, Nat.le_of_ble_eq_true rfl⟩ (fun H locs hA => ?_)
  refine lv_istore (lv' := [(4, .int r6), (3, .int r4), (2, .int (σ.1 4)), (0, .ref (g.2.1 2)), (1, .int x1)]) hx hb dX6_readClause_24 hl (by decide) rfl (fun ls hl => ?_)
  refine lv_aload_n hx hb dX6_readClause_26 rfl (lv_at hl 3 rfl) ?_
  refine lv_iload_n hx hb dX6_readClause_27 rfl (lv_at hl 2 rfl) ?_
  refine va_ldcS hx hb C.1.2.2.2.1 C.2.2.2.2.2.1.2.2.2.2.2.2.2.2.2.2.2.2.2.2.2.2.2.2.2.2.2.2.2.2.2.2.2.2.2.1 dX6_readClause_28 ?_
  obtain ⟨r8, hc9, h⟩ := bd1 h
  refine r_callVi (r := r8) (w1 := wX g t3) (As := [.int (σ.1 4), .ref (g.2.2.2.1 2)]) (rest := []) C hA hl.1 (k_X6_spells C.2.2.2.2.2.2 hc9) (cwV 2 C.1.2.2.2.2 gX6_readClause_X6_spells rfl rfl rfl nd_X6_spells ⟨Nat.le_of_ble_eq_true rfl, Nat.le_of_ble_eq_true rfl⟩) 2 rfl rfl rfl rfl (Nat.le_of_ble_eq_true rfl) dX6_readClause_30 ⟨Nat.le_of_ble_eq_true rfl, Nat.le_of_ble_eq_true rfl⟩ (fun H locs hA => ?_)
  refine lv_istore (lv' := [(5, .int r8), (4, .int r6), (3, .int r4), (2, .int (σ.1 4)), (0, .ref (g.2.1 2)), (1, .int x1)]) hx hb dX6_readClause_33 hl (by decide) rfl (fun ls hl => ?_)
  refine lv_iload_n hx hb dX6_readClause_35 rfl (lv_at hl 2 rfl) ?_
  refine lv_if_ne (tgt := 56) hx hb dX6_readClause_36 (by decide) (fun c10 => ?_) (fun c10 => ?_)
  · replace h := (if_neg c10).symm.trans h
    exact w_X6_readClause_56 C h hA (lv_sub hl [4, 5, 3, 2, 1] rfl)
  · replace h := (if_pos c10).symm.trans h
    refine lv_iload hx hb dX6_readClause_39 (lv_at hl 1 rfl) ?_
    refine lv_if_ne (tgt := 56) hx hb dX6_readClause_41 (by decide) (fun c11 => ?_) (fun c11 => ?_)
    · replace h := (if_neg c11).symm.trans h
      exact w_X6_readClause_56 C h hA (lv_sub hl [4, 5, 3, 2, 1] rfl)
    · replace h := (if_pos c11).symm.trans h
      refine lv_iload hx hb dX6_readClause_44 (lv_at hl 0 rfl) ?_
      refine lv_if_ne (tgt := 56) hx hb dX6_readClause_46 (by decide) (fun c12 => ?_) (fun c12 => ?_)
      · replace h := (if_neg c12).symm.trans h
        exact w_X6_readClause_56 C h hA (lv_sub hl [4, 5, 3, 2, 1] rfl)
      · replace h := (if_pos c12).symm.trans h
        refine lv_aload_n hx hb dX6_readClause_49 rfl (lv_at hl 4 rfl) ?_
        refine lv_iconst (v := 1) hx hb dX6_readClause_50 (by decide) ?_
        refine lv_iload_n hx hb dX6_readClause_51 rfl (lv_at hl 3 rfl) ?_
        obtain ⟨r13, t15, hc14, h⟩ := bd h
        refine r_callVv (r := r13) (w1 := wX g t15) (As := [.int (1 : Int32), .int (σ.1 4)]) (rest := []) C hA hl.1 (k_X6_mark C.2.2.2.2.2.2 hc14) (cwV 2 C.1.2.2.2.2 gX6_readClause_X6_mark rfl rfl rfl nd_X6_mark ⟨Nat.le_of_ble_eq_true rfl, Nat.le_of_ble_eq_true rfl⟩) 2 rfl rfl rfl rfl (Nat.le_of_ble_eq_true rfl) dX6_readClause_52 ⟨Nat.le_of_ble_eq_true rfl, Nat.le_of_ble_eq_true rfl⟩ (fun H locs hA => ?_)
        obtain rfl := Option.some.inj h
        exact r_vret C hA dX6_readClause_55
end
set_option maxRecDepth 100000 in
theorem k_X6_readClause {l : Launch} {g : Gm} {fu : Nat} {σ : SS} {x1 : Int32} {R : Unit × SS} (hlt : l.stackTraces = false) (h : f_X6_readClause fu σ x1 = some R) (sz : Nat) : Met l yX6_readClause wsX6_readClause rmX6_readClause (Pw g (wX g σ) [.ref (g.2.1 2), .int x1] sz) (Qv g (va_A (wX g σ) sz) (wX g R.2) R.1) 0 0 (va_A (wX g σ) sz) :=
  ofM (own := RX6) hlt (by decide) rfl rfl (Nat.le_of_ble_eq_true rfl) (fun p e s m below meth c hsz C hA ls hl => w_X6_readClause_0 C h hA hl)
abbrev rmX6_read : Room := { frames := 8, cells := 0, slots := 0, locals := 174 }
theorem iX6_read_X6 : ∀ x ∈ wsX60, x ∈ wsX6_read := by decide +kernel
theorem nd_X6_read : yX6_read.cls = RX6 ∧ yX6_read.cls ≠ "java/lang/invoke/MethodHandle" ∧ yX6_read.cls ≠ "java/lang/invoke/VarHandle" ∧ (parseMethodDescriptor yX6_read.desc).map (fun d => d.parameters.length) = some 2 := by decide +kernel
def f_X6_read_52 (fu : Nat) (k52 : SS → Int32 → Option (Unit × SS)) (σ : SS) (x3 : Int32) : Option (Unit × SS) :=
  (if (8 : Int32) < x3 then some ((), σ) else (if (σ.1 3) ≤ (σ.1 4) then some ((), σ) else bnd (f_X6_readClause fu σ x3) (fun r3 t5 => (if (t5.1 5) = 0 then bnd (f_X6_skipBlanks fu t5) (fun r7 t9 => k52 t9 (x3 + 1)) else some ((), t5)))))
def f_X6_read_L52 (fu : Nat) : SS → Int32 → Option (Unit × SS) := loopN (fun k52 σ x => f_X6_read_52 fu k52 σ x) fu
def f_X6_read (fu : Nat) (σ : SS) (x2 : Int32) : Option (Unit × SS) :=
  if ¬ x2 < 0 ∧ ((0 : Int32)).toNatClampNeg + (x2).toNatClampNeg ≤ 200 ∧ ((0 : Int32)).toNatClampNeg + (x2).toNatClampNeg ≤ 200 ∧ (∀ i, i < (x2).toNatClampNeg → fits .byte (.int ((σ.2.1 10) (((0 : Int32)).toNatClampNeg + i))) = true) then bnd (f_X6_skipBlanks fu (sI (sI (sI (sI (sI (sI (sI (sW σ 11 (va_cpy (σ.2.1 10) (σ.2.1 11) ((0 : Int32)).toNatClampNeg ((0 : Int32)).toNatClampNeg (x2).toNatClampNeg)) 3 x2) 4 (0 : Int32)) 5 (0 : Int32)) 6 (-1)) 8 (0 : Int32)) 11 (0 : Int32)) 12 (0 : Int32))) (fun r2 t4 => f_X6_read_L52 fu t4 (0 : Int32)) else none
section
variable {p : Program} {l : Launch} {e : Env} {s : State} {m : MethodId} {args : Array Value} {below : List Frame} {meth : Method} {c : Code} {g : Gm} {A : Nat → Prop} {fu : Nat} {R : Unit × SS}
set_option maxHeartbeats 4000000 in
set_option maxRecDepth 100000 in
theorem w_X6_read_52 {σ : SS} {x3 : Int32} (C : Cx p l s m args meth c cX6_read 4 wsX6_read none RX6 g A) {k52 : SS → Int32 → Option (Unit × SS)} (hk52 : ∀ (σ : SS) (x : Int32), k52 σ x = some R → ∀ (H : Heap) (locs : List Loc) (ls : Array Slot), Aw g A s.heap (wX g σ) H locs → lv_has ls 4 [(0, .ref (g.2.1 2)), (3, .int x)] → W p l e rmX6_read s m args below meth c H locs 0 0 (MQ below (Qv g A (wX g R.2) R.1) args s 0 0 A) (F0 m 52 ls [])) (h : f_X6_read_52 fu k52 σ x3 = some R) {H : Heap} {locs : List Loc} {ls : Array Slot} (hA : Aw g A s.heap (wX g σ) H locs) (hl : lv_has ls 4 [(0, .ref (g.2.1 2)), (3, .int x3)]) : W p l e rmX6_read s m args below meth c H locs 0 0 (MQ below (Qv g A (wX g R.2) R.1) args s 0 0 A) (F0 m 52 ls []) := by
  have hx := C.1.1
  have hb := C.1.2.1
  unfold f_X6_read_52 at h
  refine lv_iload_n hx hb dX6_read_52 rfl (lv_at hl 1 rfl) ?_
  refine lv_bipush (v := 8) hx hb dX6_read_53 (by decide) ?_
  refine lv_icmp_gt (tgt := 92) hx hb dX6_read_55 (by decide) (fun c1 => ?_) (fun c1 => ?_)
  · replace h := (if_pos c1).symm.trans h
    obtain rfl := Option.some.inj h
    exact r_vret C hA dX6_read_92
  · replace h := (if_neg c1).symm.trans h
    refine lv_aload_n hx hb dX6_read_58 rfl (lv_at hl 0 rfl) ?_
    refine Xg_X6_at (v := (σ.1 4)) C hA rfl iX6_read_X6 (by decide +kernel) dX6_read_59 ?_
    refine lv_aload_n hx hb dX6_read_62 rfl (lv_at hl 0 rfl) ?_
    refine Xg_X6_length (v := (σ.1 3)) C hA rfl iX6_read_X6 (by decide +kernel) dX6_read_63 ?_
    refine lv_icmp_ge (tgt := 92) hx hb dX6_read_66 (by decide) (fun c2 => ?_) (fun c2 => ?_)
    · replace h := (if_pos c2).symm.trans h
      obtain rfl := Option.some.inj h
      exact r_vret C hA dX6_read_92
    · replace h := (if_neg c2).symm.trans h
      refine lv_aload_n hx hb dX6_read_69 rfl (lv_at hl 0 rfl) ?_
      refine lv_iload_n hx hb dX6_read_70 rfl (lv_at hl 1 rfl) ?_
      obtain ⟨r3, t5, hc4, h⟩ := bd h
      refine r_callVv (r := r3) (w1 := wX g t5) (As := [.int x3]) (rest := []) C hA hl.1 (k_X6_readClause C.2.2.2.2.2.2 hc4) (cwV 1 C.1.2.2.2.2 gX6_read_X6_readClause rfl rfl rfl nd_X6_readClause ⟨Nat.le_of_ble_eq_true rfl, Nat.le_of_ble_eq_true rfl⟩) 2 rfl rfl rfl rfl (Nat.le_of_ble_eq_true rfl) dX6_read_71 ⟨Nat.le_of_ble_eq_true rfl, Nat.le_of_ble_eq_true rfl⟩ (fun H locs hA => ?_)
      refine lv_aload_n hx hb dX6_read_74 rfl (lv_at hl 0 rfl) ?_
      refine Xg_X6_fault (v := (t5.1 5)) C hA rfl iX6_read_X6 (by decide +kernel) dX6_read_75 ?_
      refine lv_if_eq (tgt := 82) hx hb dX6_read_78 (by decide) (fun c6 => ?_) (fun c6 => ?_)
      · replace h := (if_pos c6).symm.trans h
        refine lv_aload_n hx hb dX6_read_82 rfl (lv_at hl 0 rfl) ?_
        obtain ⟨r7, t9, hc8, h⟩ := bd h
        refine r_callVv (r := r7) (w1 := wX g t9) (As := []) (rest := []) C hA hl.1 (k_X6_skipBlanks C.2.2.2.2.2.2 hc8) (cwV 0 C.1.2.2.2.2 gX6_read_X6_skipBlanks rfl rfl rfl nd_X6_skipBlanks ⟨Nat.le_of_ble_eq_true rfl, Nat.le_of_ble_eq_true rfl⟩) 2 rfl rfl rfl rfl (Nat.le_of_ble_eq_true rfl) dX6_read_83 ⟨Nat.le_of_ble_eq_true rfl, Nat.le_of_ble_eq_true rfl⟩ (fun H locs hA => ?_)
        refine lv_iinc (v := (x3 + 1)) (lv' := [(3, .int (x3 + 1)), (0, .ref (g.2.1 2))]) hx hb dX6_read_86 hl (k := 1) rfl rfl (by decide) rfl (fun ls hl => ?_)
        refine lv_goto (tgt := 52) hx hb dX6_read_89 (by decide) ?_
        exact hk52 _ _ h _ _ _ hA (lv_sub hl [1, 0] rfl)
      · replace h := (if_neg c6).symm.trans h
        obtain rfl := Option.some.inj h
        exact r_vret C hA dX6_read_81
set_option maxHeartbeats 4000000 in
theorem w_X6_read_L52 {σ : SS} {x : Int32} (C : Cx p l s m args meth c cX6_read 4 wsX6_read none RX6 g A) (h : f_X6_read_L52 fu σ x = some R) {H : Heap} {locs : List Loc} {ls : Array Slot} (hA : Aw g A s.heap (wX g σ) H locs) (hl : lv_has ls 4 [(0, .ref (g.2.1 2)), (3, .int x)]) : W p l e rmX6_read s m args below meth c H locs 0 0 (MQ below (Qv g A (wX g R.2) R.1) args s 0 0 A) (F0 m 52 ls []) := by
  refine loopW (P := fun σ x => ∀ (H : Heap) (locs : List Loc) (ls : Array Slot), Aw g A s.heap (wX g σ) H locs → lv_has ls 4 [(0, .ref (g.2.1 2)), (3, .int x)] → W p l e rmX6_read s m args below meth c H locs 0 0 (MQ below (Qv g A (wX g R.2) R.1) args s 0 0 A) (F0 m 52 ls [])) (fun k hk σ x h9 H locs ls hA9 hl9 => ?_) fu σ x h H locs ls hA hl
  exact w_X6_read_52 C hk h9 hA9 hl9
set_option maxHeartbeats 4000000 in
set_option maxRecDepth 100000 in
theorem w_X6_read_0 {σ : SS} {x2 : Int32} (C : Cx p l s m args meth c cX6_read 4 wsX6_read none RX6 g A) (h : f_X6_read fu σ x2 = some R) {H : Heap} {locs : List Loc} {ls : Array Slot} (hA : Aw g A s.heap (wX g σ) H locs) (hl : lv_has ls 4 [(0, .ref (g.2.1 2)), (1, .ref (g.2.1 10)), (2, .int x2)]) : W p l e rmX6_read s m args below meth c H locs 0 0 (MQ below (Qv g A (wX g R.2) R.1) args s 0 0 A) (F0 m 0 ls []) := by
  have hx := C.1.1
  have hb := C.1.2.1
  unfold f_X6_read at h
  refine lv_aload_n hx hb dX6_read_0 rfl (lv_at hl 1 rfl) ?_
  refine lv_iconst (v := 0) hx hb dX6_read_1 (by decide) ?_
  refine lv_aload_n hx hb dX6_read_2 rfl (lv_at hl 0 rfl) ?_
  refine Xg_X6_text C hA iX6_read_X6 (by decide +kernel) dX6_read_3 ?_
  refine lv_iconst (v := 0) hx hb dX6_read_6 (by decide) ?_
  refine lv_iload_n hx hb dX6_read_7 rfl (lv_at hl 2 rfl) ?_
  obtain ⟨g1, h⟩ := gd h
  refine va_copyi (rest := []) (ty := .byte) hx hb (C.1.2.2.1.trans hl.1.symm) C.1.2.2.2.1 (C.1.2.2.2.2 (.methodLink RX6 15 arraycopyName) (by decide +kernel)) (C.1.2.2.2.2 (.native arraycopyName) (by decide +kernel)) (C.1.2.2.2.2 (.static arraycopyName) (by decide +kernel)) (C.1.2.2.2.2 (.initialized "java/lang/System") (by decide +kernel)) C.2.2.2.1 hA.1 hA.2.1 hA.2.2 8 9 3 3 rfl rfl rfl rfl rfl (by decide) (by decide) g1.1 g1.2.1 g1.2.2.1 g1.2.2.2 (Nat.le_of_ble_eq_true rfl) (Nat.le_of_ble_eq_true rfl) dX6_read_8 (fun H locs hP hD hS => ?_)
  have hA : Aw g A s.heap (wX g (sW σ 11 (va_cpy (σ.2.1 10) (σ.2.1 11) ((0 : Int32)).toNatClampNeg ((0 : Int32)).toNatClampNeg (x2).toNatClampNeg))) H locs := ⟨hP, hD, hS⟩
  refine lv_aload_n hx hb dX6_read_11 rfl (lv_at hl 0 rfl) ?_
  refine lv_iload_n hx hb dX6_read_12 rfl (lv_at hl 2 rfl) ?_
  refine Xp_X6_length C hA iX6_read_X6 (by decide +kernel) dX6_read_13 (fun H locs hA => ?_)
  refine lv_aload_n hx hb dX6_read_16 rfl (lv_at hl 0 rfl) ?_
  refine lv_iconst (v := 0) hx hb dX6_read_17 (by decide) ?_
  refine Xp_X6_at C hA iX6_read_X6 (by decide +kernel) dX6_read_18 (fun H locs hA => ?_)
  refine lv_aload_n hx hb dX6_read_21 rfl (lv_at hl 0 rfl) ?_
  refine lv_iconst (v := 0) hx hb dX6_read_22 (by decide) ?_
  refine Xp_X6_fault C hA iX6_read_X6 (by decide +kernel) dX6_read_23 (fun H locs hA => ?_)
  refine lv_aload_n hx hb dX6_read_26 rfl (lv_at hl 0 rfl) ?_
  refine lv_iconst (v := (-1)) hx hb dX6_read_27 (by decide) ?_
  refine Xp_X6_faultPlace C hA iX6_read_X6 (by decide +kernel) dX6_read_28 (fun H locs hA => ?_)
  refine lv_aload_n hx hb dX6_read_31 rfl (lv_at hl 0 rfl) ?_
  refine lv_iconst (v := 0) hx hb dX6_read_32 (by decide) ?_
  refine Xp_X6_returnBy C hA iX6_read_X6 (by decide +kernel) dX6_read_33 (fun H locs hA => ?_)
  refine lv_aload_n hx hb dX6_read_36 rfl (lv_at hl 0 rfl) ?_
  refine lv_iconst (v := 0) hx hb dX6_read_37 (by decide) ?_
  refine Xp_X6_loanBy C hA iX6_read_X6 (by decide +kernel) dX6_read_38 (fun H locs hA => ?_)
  refine lv_aload_n hx hb dX6_read_41 rfl (lv_at hl 0 rfl) ?_
  refine lv_iconst (v := 0) hx hb dX6_read_42 (by decide) ?_
  refine Xp_X6_witness C hA iX6_read_X6 (by decide +kernel) dX6_read_43 (fun H locs hA => ?_)
  refine lv_aload_n hx hb dX6_read_46 rfl (lv_at hl 0 rfl) ?_
  obtain ⟨r2, t4, hc3, h⟩ := bd h
  refine r_callVv (r := r2) (w1 := wX g t4) (As := []) (rest := []) C hA hl.1 (k_X6_skipBlanks C.2.2.2.2.2.2 hc3) (cwV 0 C.1.2.2.2.2 gX6_read_X6_skipBlanks rfl rfl rfl nd_X6_skipBlanks ⟨Nat.le_of_ble_eq_true rfl, Nat.le_of_ble_eq_true rfl⟩) 2 rfl rfl rfl rfl (Nat.le_of_ble_eq_true rfl) dX6_read_47 ⟨Nat.le_of_ble_eq_true rfl, Nat.le_of_ble_eq_true rfl⟩ (fun H locs hA => ?_)
  refine lv_iconst (v := 0) hx hb dX6_read_50 (by decide) ?_
  refine lv_istore_n (lv' := [(3, .int (0 : Int32)), (0, .ref (g.2.1 2)), (1, .ref (g.2.1 10)), (2, .int x2)]) hx hb dX6_read_51 rfl hl (by decide) rfl (fun ls hl => ?_)
  exact w_X6_read_L52 C h hA (lv_sub hl [1, 0] rfl)
end
set_option maxRecDepth 100000 in
theorem k_X6_read {l : Launch} {g : Gm} {fu : Nat} {σ : SS} {x2 : Int32} {R : Unit × SS} (hlt : l.stackTraces = false) (h : f_X6_read fu σ x2 = some R) (sz : Nat) : Met l yX6_read wsX6_read rmX6_read (Pw g (wX g σ) [.ref (g.2.1 2), .ref (g.2.1 10), .int x2] sz) (Qv g (va_A (wX g σ) sz) (wX g R.2) R.1) 0 0 (va_A (wX g σ) sz) :=
  ofM (own := RX6) hlt (by decide) rfl rfl (Nat.le_of_ble_eq_true rfl) (fun p e s m below meth c hsz C hA ls hl => w_X6_read_0 C h hA hl)

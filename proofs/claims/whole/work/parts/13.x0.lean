abbrev rmX0_add : Room := { frames := 0, cells := 0, slots := 0, locals := 0 }
theorem iX0_add_X0 : ∀ x ∈ wsX00, x ∈ wsX0_add := by decide +kernel
theorem nd_X0_add : yX0_add.cls = RX0 ∧ yX0_add.cls ≠ "java/lang/invoke/MethodHandle" ∧ yX0_add.cls ≠ "java/lang/invoke/VarHandle" ∧ (parseMethodDescriptor yX0_add.desc).map (fun d => d.parameters.length) = some 1 := by decide +kernel
def f_X0_add (fu : Nat) (σ : SS) (x1 : Int32) : Option (Int32 × SS) :=
  if inB (σ.1 14) 12 then some ((((σ.1 14) + (1 : Int32)) - (1 : Int32)), (sI (sA (sA σ 19 ((σ.1 14)).toNatClampNeg x1) 21 ((σ.1 14)).toNatClampNeg (vp_nar .boolean (1 : Int32))) 14 ((σ.1 14) + (1 : Int32)))) else none
section
variable {p : Program} {l : Launch} {e : Env} {s : State} {m : MethodId} {args : Array Value} {below : List Frame} {meth : Method} {c : Code} {g : Gm} {A : Nat → Prop} {fu : Nat} {R : Int32 × SS}
set_option maxHeartbeats 4000000 in
set_option maxRecDepth 100000 in
theorem w_X0_add_0 {σ : SS} {x1 : Int32} (C : Cx p l s m args meth c cX0_add 2 wsX0_add (some .int) RX0 g A) (h : f_X0_add fu σ x1 = some R) {H : Heap} {locs : List Loc} {ls : Array Slot} (hA : Aw g A s.heap (wX g σ) H locs) (hl : lv_has ls 2 [(0, .ref (g.2.1 4)), (1, .int x1)]) : W p l e rmX0_add s m args below meth c H locs 0 0 (MQ below (Qi g A (wX g R.2) R.1) args s 0 0 A) (F0 m 0 ls []) := by
  have hx := C.1.1
  have hb := C.1.2.1
  unfold f_X0_add at h
  refine lv_aload_n hx hb dX0_add_0 rfl (lv_at hl 0 rfl) ?_
  refine Xg_X0_blankets C hA iX0_add_X0 (by decide +kernel) dX0_add_1 ?_
  refine lv_aload_n hx hb dX0_add_4 rfl (lv_at hl 0 rfl) ?_
  refine Xg_X0_size (v := (σ.1 14)) C hA rfl iX0_add_X0 (by decide +kernel) dX0_add_5 ?_
  refine lv_iload_n hx hb dX0_add_8 rfl (lv_at hl 1 rfl) ?_
  obtain ⟨g1, h⟩ := gd h
  refine Xst_19 C hA g1 dX0_add_9 (fun H locs hA => ?_)
  refine lv_aload_n hx hb dX0_add_10 rfl (lv_at hl 0 rfl) ?_
  refine Xg_X0_lives C hA iX0_add_X0 (by decide +kernel) dX0_add_11 ?_
  refine lv_aload_n hx hb dX0_add_14 rfl (lv_at hl 0 rfl) ?_
  refine Xg_X0_size (v := (σ.1 14)) C hA rfl iX0_add_X0 (by decide +kernel) dX0_add_15 ?_
  refine lv_iconst (v := 1) hx hb dX0_add_18 (by decide) ?_
  refine Xst_21 C hA g1 dX0_add_19 (fun H locs hA => ?_)
  refine lv_aload_n hx hb dX0_add_20 rfl (lv_at hl 0 rfl) ?_
  refine lv_dup hx hb dX0_add_21 rfl ?_
  refine Xg_X0_size (v := (σ.1 14)) C hA rfl iX0_add_X0 (by decide +kernel) dX0_add_22 ?_
  refine lv_iconst (v := 1) hx hb dX0_add_25 (by decide) ?_
  refine lv_iadd hx hb dX0_add_26 ?_
  refine Xp_X0_size C hA iX0_add_X0 (by decide +kernel) dX0_add_27 (fun H locs hA => ?_)
  refine lv_aload_n hx hb dX0_add_30 rfl (lv_at hl 0 rfl) ?_
  refine Xg_X0_size (v := ((σ.1 14) + (1 : Int32))) C hA rfl iX0_add_X0 (by decide +kernel) dX0_add_31 ?_
  refine lv_iconst (v := 1) hx hb dX0_add_34 (by decide) ?_
  refine lv_isub hx hb dX0_add_35 ?_
  obtain rfl := Option.some.inj h
  exact r_iret C hA dX0_add_36
end
set_option maxRecDepth 100000 in
theorem k_X0_add {l : Launch} {g : Gm} {fu : Nat} {σ : SS} {x1 : Int32} {R : Int32 × SS} (hlt : l.stackTraces = false) (h : f_X0_add fu σ x1 = some R) (sz : Nat) : Met l yX0_add wsX0_add rmX0_add (Pw g (wX g σ) [.ref (g.2.1 4), .int x1] sz) (Qi g (va_A (wX g σ) sz) (wX g R.2) R.1) 0 0 (va_A (wX g σ) sz) :=
  ofM (own := RX0) hlt (by decide) rfl rfl (Nat.le_of_ble_eq_true rfl) (fun p e s m below meth c hsz C hA ls hl => w_X0_add_0 C h hA hl)
abbrev rmX0_moveBlankets : Room := { frames := 0, cells := 0, slots := 0, locals := 0 }
theorem iX0_moveBlankets_X0 : ∀ x ∈ wsX00, x ∈ wsX0_moveBlankets := by decide +kernel
theorem nd_X0_moveBlankets : yX0_moveBlankets.cls = RX0 ∧ yX0_moveBlankets.cls ≠ "java/lang/invoke/MethodHandle" ∧ yX0_moveBlankets.cls ≠ "java/lang/invoke/VarHandle" ∧ (parseMethodDescriptor yX0_moveBlankets.desc).map (fun d => d.parameters.length) = some 3 := by decide +kernel
def f_X0_moveBlankets (fu : Nat) (σ : SS) (x1 : Int32) (x2 : Int32) (x3 : Int32) : Option (Unit × SS) :=
  if inB x1 12 then if inB x2 12 then some ((), (sA (sA σ 19 (x1).toNatClampNeg ((σ.2.1 19 (x1).toNatClampNeg) - x3)) 19 (x2).toNatClampNeg (((sA σ 19 (x1).toNatClampNeg ((σ.2.1 19 (x1).toNatClampNeg) - x3)).2.1 19 (x2).toNatClampNeg) + x3))) else none else none
section
variable {p : Program} {l : Launch} {e : Env} {s : State} {m : MethodId} {args : Array Value} {below : List Frame} {meth : Method} {c : Code} {g : Gm} {A : Nat → Prop} {fu : Nat} {R : Unit × SS}
set_option maxHeartbeats 4000000 in
set_option maxRecDepth 100000 in
theorem w_X0_moveBlankets_0 {σ : SS} {x1 : Int32} {x2 : Int32} {x3 : Int32} (C : Cx p l s m args meth c cX0_moveBlankets 4 wsX0_moveBlankets none RX0 g A) (h : f_X0_moveBlankets fu σ x1 x2 x3 = some R) {H : Heap} {locs : List Loc} {ls : Array Slot} (hA : Aw g A s.heap (wX g σ) H locs) (hl : lv_has ls 4 [(0, .ref (g.2.1 4)), (1, .int x1), (2, .int x2), (3, .int x3)]) : W p l e rmX0_moveBlankets s m args below meth c H locs 0 0 (MQ below (Qv g A (wX g R.2) R.1) args s 0 0 A) (F0 m 0 ls []) := by
  have hx := C.1.1
  have hb := C.1.2.1
  unfold f_X0_moveBlankets at h
  refine lv_aload_n hx hb dX0_moveBlankets_0 rfl (lv_at hl 0 rfl) ?_
  refine Xg_X0_blankets C hA iX0_moveBlankets_X0 (by decide +kernel) dX0_moveBlankets_1 ?_
  refine lv_iload_n hx hb dX0_moveBlankets_4 rfl (lv_at hl 1 rfl) ?_
  refine lv_dup2_11 hx hb dX0_moveBlankets_5 rfl rfl ?_
  obtain ⟨g1, h⟩ := gd h
  refine Xld_19 (v := (σ.2.1 19 (x1).toNatClampNeg)) C hA rfl g1 dX0_moveBlankets_6 ?_
  refine lv_iload_n hx hb dX0_moveBlankets_7 rfl (lv_at hl 3 rfl) ?_
  refine lv_isub hx hb dX0_moveBlankets_8 ?_
  refine Xst_19 C hA g1 dX0_moveBlankets_9 (fun H locs hA => ?_)
  refine lv_aload_n hx hb dX0_moveBlankets_10 rfl (lv_at hl 0 rfl) ?_
  refine Xg_X0_blankets C hA iX0_moveBlankets_X0 (by decide +kernel) dX0_moveBlankets_11 ?_
  refine lv_iload_n hx hb dX0_moveBlankets_14 rfl (lv_at hl 2 rfl) ?_
  refine lv_dup2_11 hx hb dX0_moveBlankets_15 rfl rfl ?_
  obtain ⟨g2, h⟩ := gd h
  refine Xld_19 (v := ((sA σ 19 (x1).toNatClampNeg ((σ.2.1 19 (x1).toNatClampNeg) - x3)).2.1 19 (x2).toNatClampNeg)) C hA rfl g2 dX0_moveBlankets_16 ?_
  refine lv_iload_n hx hb dX0_moveBlankets_17 rfl (lv_at hl 3 rfl) ?_
  refine lv_iadd hx hb dX0_moveBlankets_18 ?_
  refine Xst_19 C hA g2 dX0_moveBlankets_19 (fun H locs hA => ?_)
  obtain rfl := Option.some.inj h
  exact r_vret C hA dX0_moveBlankets_20
end
set_option maxRecDepth 100000 in
theorem k_X0_moveBlankets {l : Launch} {g : Gm} {fu : Nat} {σ : SS} {x1 : Int32} {x2 : Int32} {x3 : Int32} {R : Unit × SS} (hlt : l.stackTraces = false) (h : f_X0_moveBlankets fu σ x1 x2 x3 = some R) (sz : Nat) : Met l yX0_moveBlankets wsX0_moveBlankets rmX0_moveBlankets (Pw g (wX g σ) [.ref (g.2.1 4), .int x1, .int x2, .int x3] sz) (Qv g (va_A (wX g σ) sz) (wX g R.2) R.1) 0 0 (va_A (wX g σ) sz) :=
  ofM (own := RX0) hlt (by decide) rfl rfl (Nat.le_of_ble_eq_true rfl) (fun p e s m below meth c hsz C hA ls hl => w_X0_moveBlankets_0 C h hA hl)
abbrev rmX0_placeInRank : Room := { frames := 0, cells := 0, slots := 0, locals := 0 }
theorem iX0_placeInRank_X0 : ∀ x ∈ wsX00, x ∈ wsX0_placeInRank := by decide +kernel
theorem nd_X0_placeInRank : yX0_placeInRank.cls = RX0 ∧ yX0_placeInRank.cls ≠ "java/lang/invoke/MethodHandle" ∧ yX0_placeInRank.cls ≠ "java/lang/invoke/VarHandle" ∧ (parseMethodDescriptor yX0_placeInRank.desc).map (fun d => d.parameters.length) = some 1 := by decide +kernel
def f_X0_placeInRank_84 (fu : Nat) (k15 : SS → (Int32 × Int32 × Int32) → Option (Int32)) (σ : SS) (x1 : Int32) (x2 : Int32) (x3 : Int32) : Option (Int32) :=
  k15 σ (x1, x2, (x3 + 1))
def f_X0_placeInRank_65 (fu : Nat) (k15 : SS → (Int32 × Int32 × Int32) → Option (Int32)) (σ : SS) (x1 : Int32) (x2 : Int32) (x3 : Int32) (y0 : Int32) : Option (Int32) :=
  if inB x3 12 then (if (σ.2.1 21 (x3).toNatClampNeg) = 0 then f_X0_placeInRank_84 fu k15 σ x1 x2 x3 else (if y0 = 0 then f_X0_placeInRank_84 fu k15 σ x1 x2 x3 else f_X0_placeInRank_84 fu k15 σ x1 (x2 + 1) x3)) else none
def f_X0_placeInRank_64 (fu : Nat) (k15 : SS → (Int32 × Int32 × Int32) → Option (Int32)) (σ : SS) (x1 : Int32) (x2 : Int32) (x3 : Int32) : Option (Int32) :=
  f_X0_placeInRank_65 fu k15 σ x1 x2 x3 (0 : Int32)
def f_X0_placeInRank_60 (fu : Nat) (k15 : SS → (Int32 × Int32 × Int32) → Option (Int32)) (σ : SS) (x1 : Int32) (x2 : Int32) (x3 : Int32) : Option (Int32) :=
  f_X0_placeInRank_65 fu k15 σ x1 x2 x3 (1 : Int32)
def f_X0_placeInRank_15 (fu : Nat) (k15 : SS → (Int32 × Int32 × Int32) → Option (Int32)) (σ : SS) (x1 : Int32) (x2 : Int32) (x3 : Int32) : Option (Int32) :=
  (if (σ.1 14) ≤ x3 then some x2 else if inB x3 12 then if inB x1 12 then (if 0 < (lg_cmp (σ.2.2 20 (x3).toNatClampNeg) (σ.2.2 20 (x1).toNatClampNeg)) then f_X0_placeInRank_60 fu k15 σ x1 x2 x3 else (if (lg_cmp (σ.2.2 20 (x3).toNatClampNeg) (σ.2.2 20 (x1).toNatClampNeg)) = 0 then (if x1 ≤ x3 then f_X0_placeInRank_64 fu k15 σ x1 x2 x3 else f_X0_placeInRank_60 fu k15 σ x1 x2 x3) else f_X0_placeInRank_64 fu k15 σ x1 x2 x3)) else none else none)
def f_X0_placeInRank_L15 (fu : Nat) : SS → (Int32 × Int32 × Int32) → Option (Int32) := loopN (fun k15 σ x => f_X0_placeInRank_15 fu k15 σ x.1 x.2.1 x.2.2) fu
def f_X0_placeInRank (fu : Nat) (σ : SS) (x1 : Int32) : Option (Int32) :=
  if inB x1 12 then (if (σ.2.1 21 (x1).toNatClampNeg) = 0 then some (-1) else f_X0_placeInRank_L15 fu σ (x1, (0 : Int32), (0 : Int32))) else none
section
variable {p : Program} {l : Launch} {e : Env} {s : State} {m : MethodId} {args : Array Value} {below : List Frame} {meth : Method} {c : Code} {g : Gm} {A : Nat → Prop} {fu : Nat} {R : Int32}
set_option maxHeartbeats 4000000 in
set_option maxRecDepth 100000 in
theorem w_X0_placeInRank_84 {σ : SS} {x1 : Int32} {x2 : Int32} {x3 : Int32} (C : Cx p l s m args meth c cX0_placeInRank 5 wsX0_placeInRank (some .int) RX0 g A) {k15 : SS → (Int32 × Int32 × Int32) → Option (Int32)} (hk15 : ∀ (σ1 : SS) (x : Int32 × Int32 × Int32), σ1 = σ → k15 σ1 x = some R → ∀ (H : Heap) (locs : List Loc) (ls : Array Slot), Aw g A s.heap (wX g σ) H locs → lv_has ls 5 [(0, .ref (g.2.1 4)), (1, .int x.1), (2, .int x.2.1), (3, .int x.2.2)] → W p l e rmX0_placeInRank s m args below meth c H locs 0 0 (MQ below (Qi g A (wX g σ) R) args s 0 0 A) (F0 m 15 ls [])) (h : f_X0_placeInRank_84 fu k15 σ x1 x2 x3 = some R) {H : Heap} {locs : List Loc} {ls : Array Slot} (hA : Aw g A s.heap (wX g σ) H locs) (hl : lv_has ls 5 [(0, .ref (g.2.1 4)), (1, .int x1), (2, .int x2), (3, .int x3)]) : W p l e rmX0_placeInRank s m args below meth c H locs 0 0 (MQ below (Qi g A (wX g σ) R) args s 0 0 A) (F0 m 84 ls []) := by
  have hx := C.1.1
  have hb := C.1.2.1
  unfold f_X0_placeInRank_84 at h
  refine lv_iinc (v := (x3 + 1)) (lv' := [(3, .int (x3 + 1)), (0, .ref (g.2.1 4)), (1, .int x1), (2, .int x2)]) hx hb dX0_placeInRank_84 hl (k := 3) rfl rfl (by decide) rfl (fun ls hl => ?_)
  refine lv_goto (tgt := 15) hx hb dX0_placeInRank_87 (by decide) ?_
  exact hk15 _ _ rfl h _ _ _ hA (lv_sub hl [1, 2, 3, 0] rfl)
set_option maxHeartbeats 4000000 in
set_option maxRecDepth 100000 in
theorem w_X0_placeInRank_65 {σ : SS} {x1 : Int32} {x2 : Int32} {x3 : Int32} {y0 : Int32} (C : Cx p l s m args meth c cX0_placeInRank 5 wsX0_placeInRank (some .int) RX0 g A) {k15 : SS → (Int32 × Int32 × Int32) → Option (Int32)} (hk15 : ∀ (σ1 : SS) (x : Int32 × Int32 × Int32), σ1 = σ → k15 σ1 x = some R → ∀ (H : Heap) (locs : List Loc) (ls : Array Slot), Aw g A s.heap (wX g σ) H locs → lv_has ls 5 [(0, .ref (g.2.1 4)), (1, .int x.1), (2, .int x.2.1), (3, .int x.2.2)] → W p l e rmX0_placeInRank s m args below meth c H locs 0 0 (MQ below (Qi g A (wX g σ) R) args s 0 0 A) (F0 m 15 ls [])) (h : f_X0_placeInRank_65 fu k15 σ x1 x2 x3 y0 = some R) {H : Heap} {locs : List Loc} {ls : Array Slot} (hA : Aw g A s.heap (wX g σ) H locs) (hl : lv_has ls 5 [(0, .ref (g.2.1 4)), (1, .int x1), (2, .int x2), (3, .int x3)]) : W p l e rmX0_placeInRank s m args below meth c H locs 0 0 (MQ below (Qi g A (wX g σ) R) args s 0 0 A) (F0 m 65 ls [.int y0]) := by
  have hx := C.1.1
  have hb := C.1.2.1
  unfold f_X0_placeInRank_65 at h
  refine lv_istore (lv' := [(4, .int y0), (0, .ref (g.2.1 4)), (1, .int x1), (2, .int x2), (3, .int x3)]) hx hb dX0_placeInRank_65 hl (by decide) rfl (fun ls hl => ?_)
  refine lv_aload_n hx hb dX0_placeInRank_67 rfl (lv_at hl 1 rfl) ?_
  refine Xg_X0_lives C hA iX0_placeInRank_X0 (by decide +kernel) dX0_placeInRank_68 ?_
  refine lv_iload_n hx hb dX0_placeInRank_71 rfl (lv_at hl 4 rfl) ?_
  obtain ⟨g1, h⟩ := gd h
  refine Xld_21 (v := (σ.2.1 21 (x3).toNatClampNeg)) C hA rfl g1 dX0_placeInRank_72 ?_
  refine lv_if_eq (tgt := 84) hx hb dX0_placeInRank_73 (by decide) (fun c2 => ?_) (fun c2 => ?_)
  · replace h := (if_pos c2).symm.trans h
    exact w_X0_placeInRank_84 C hk15 h hA (lv_sub hl [1, 2, 3, 4] rfl)
  · replace h := (if_neg c2).symm.trans h
    refine lv_iload hx hb dX0_placeInRank_76 (lv_at hl 0 rfl) ?_
    refine lv_if_eq (tgt := 84) hx hb dX0_placeInRank_78 (by decide) (fun c3 => ?_) (fun c3 => ?_)
    · replace h := (if_pos c3).symm.trans h
      exact w_X0_placeInRank_84 C hk15 h hA (lv_sub hl [1, 2, 3, 4] rfl)
    · replace h := (if_neg c3).symm.trans h
      refine lv_iinc (v := (x2 + 1)) (lv' := [(2, .int (x2 + 1)), (4, .int y0), (0, .ref (g.2.1 4)), (1, .int x1), (3, .int x3)]) hx hb dX0_placeInRank_81 hl (k := 3) rfl rfl (by decide) rfl (fun ls hl => ?_)
      exact w_X0_placeInRank_84 C hk15 h hA (lv_sub hl [2, 3, 0, 4] rfl)
set_option maxHeartbeats 4000000 in
set_option maxRecDepth 100000 in
theorem w_X0_placeInRank_64 {σ : SS} {x1 : Int32} {x2 : Int32} {x3 : Int32} (C : Cx p l s m args meth c cX0_placeInRank 5 wsX0_placeInRank (some .int) RX0 g A) {k15 : SS → (Int32 × Int32 × Int32) → Option (Int32)} (hk15 : ∀ (σ1 : SS) (x : Int32 × Int32 × Int32), σ1 = σ → k15 σ1 x = some R → ∀ (H : Heap) (locs : List Loc) (ls : Array Slot), Aw g A s.heap (wX g σ) H locs → lv_has ls 5 [(0, .ref (g.2.1 4)), (1, .int x.1), (2, .int x.2.1), (3, .int x.2.2)] → W p l e rmX0_placeInRank s m args below meth c H locs 0 0 (MQ below (Qi g A (wX g σ) R) args s 0 0 A) (F0 m 15 ls [])) (h : f_X0_placeInRank_64 fu k15 σ x1 x2 x3 = some R) {H : Heap} {locs : List Loc} {ls : Array Slot} (hA : Aw g A s.heap (wX g σ) H locs) (hl : lv_has ls 5 [(0, .ref (g.2.1 4)), (1, .int x1), (2, .int x2), (3, .int x3)]) : W p l e rmX0_placeInRank s m args below meth c H locs 0 0 (MQ below (Qi g A (wX g σ) R) args s 0 0 A) (F0 m 64 ls []) := by
  have hx := C.1.1
  have hb := C.1.2.1
  unfold f_X0_placeInRank_64 at h
  refine lv_iconst (v := 0) hx hb dX0_placeInRank_64 (by decide) ?_
  exact w_X0_placeInRank_65 C hk15 h hA (lv_sub hl [0, 1, 2, 3] rfl)
set_option maxHeartbeats 4000000 in
set_option maxRecDepth 100000 in
theorem w_X0_placeInRank_60 {σ : SS} {x1 : Int32} {x2 : Int32} {x3 : Int32} (C : Cx p l s m args meth c cX0_placeInRank 5 wsX0_placeInRank (some .int) RX0 g A) {k15 : SS → (Int32 × Int32 × Int32) → Option (Int32)} (hk15 : ∀ (σ1 : SS) (x : Int32 × Int32 × Int32), σ1 = σ → k15 σ1 x = some R → ∀ (H : Heap) (locs : List Loc) (ls : Array Slot), Aw g A s.heap (wX g σ) H locs → lv_has ls 5 [(0, .ref (g.2.1 4)), (1, .int x.1), (2, .int x.2.1), (3, .int x.2.2)] → W p l e rmX0_placeInRank s m args below meth c H locs 0 0 (MQ below (Qi g A (wX g σ) R) args s 0 0 A) (F0 m 15 ls [])) (h : f_X0_placeInRank_60 fu k15 σ x1 x2 x3 = some R) {H : Heap} {locs : List Loc} {ls : Array Slot} (hA : Aw g A s.heap (wX g σ) H locs) (hl : lv_has ls 5 [(0, .ref (g.2.1 4)), (1, .int x1), (2, .int x2), (3, .int x3)]) : W p l e rmX0_placeInRank s m args below meth c H locs 0 0 (MQ below (Qi g A (wX g σ) R) args s 0 0 A) (F0 m 60 ls []) := by
  have hx := C.1.1
  have hb := C.1.2.1
  unfold f_X0_placeInRank_60 at h
  refine lv_iconst (v := 1) hx hb dX0_placeInRank_60 (by decide) ?_
  refine lv_goto (tgt := 65) hx hb dX0_placeInRank_61 (by decide) ?_
  exact w_X0_placeInRank_65 C hk15 h hA (lv_sub hl [0, 1, 2, 3] rfl)
set_option maxHeartbeats 4000000 in
set_option maxRecDepth 100000 in
theorem w_X0_placeInRank_15 {σ : SS} {x1 : Int32} {x2 : Int32} {x3 : Int32} (C : Cx p l s m args meth c cX0_placeInRank 5 wsX0_placeInRank (some .int) RX0 g A) {k15 : SS → (Int32 × Int32 × Int32) → Option (Int32)} (hk15 : ∀ (σ1 : SS) (x : Int32 × Int32 × Int32), σ1 = σ → k15 σ1 x = some R → ∀ (H : Heap) (locs : List Loc) (ls : Array Slot), Aw g A s.heap (wX g σ) H locs → lv_has ls 5 [(0, .ref (g.2.1 4)), (1, .int x.1), (2, .int x.2.1), (3, .int x.2.2)] → W p l e rmX0_placeInRank s m args below meth c H locs 0 0 (MQ below (Qi g A (wX g σ) R) args s 0 0 A) (F0 m 15 ls [])) (h : f_X0_placeInRank_15 fu k15 σ x1 x2 x3 = some R) {H : Heap} {locs : List Loc} {ls : Array Slot} (hA : Aw g A s.heap (wX g σ) H locs) (hl : lv_has ls 5 [(0, .ref (g.2.1 4)), (1, .int x1), (2, .int x2), (3, .int x3)]) : W p l e rmX0_placeInRank s m args below meth c H locs 0 0 (MQ below (Qi g A (wX g σ) R) args s 0 0 A) (F0 m 15 ls []) := by
  have hx := C.1.1
  have hb := C.1.2.1
  unfold f_X0_placeInRank_15 at h
  refine lv_iload_n hx hb dX0_placeInRank_15 rfl (lv_at hl 3 rfl) ?_
  refine lv_aload_n hx hb dX0_placeInRank_16 rfl (lv_at hl 0 rfl) ?_
  refine Xg_X0_size (v := (σ.1 14)) C hA rfl iX0_placeInRank_X0 (by decide +kernel) dX0_placeInRank_17 ?_
  refine lv_icmp_ge (tgt := 90) hx hb dX0_placeInRank_20 (by decide) (fun c1 => ?_) (fun c1 => ?_)
  · replace h := (if_pos c1).symm.trans h
    refine lv_iload_n hx hb dX0_placeInRank_90 rfl (lv_at hl 2 rfl) ?_
    obtain rfl := Option.some.inj h
    exact r_iret C hA dX0_placeInRank_91
  · replace h := (if_neg c1).symm.trans h
    refine lv_aload_n hx hb dX0_placeInRank_23 rfl (lv_at hl 0 rfl) ?_
    refine Xg_X0_fame C hA iX0_placeInRank_X0 (by decide +kernel) dX0_placeInRank_24 ?_
    refine lv_iload_n hx hb dX0_placeInRank_27 rfl (lv_at hl 3 rfl) ?_
    obtain ⟨g2, h⟩ := gd h
    refine Xld_20 (v := (σ.2.2 20 (x3).toNatClampNeg)) C hA rfl g2 dX0_placeInRank_28 ?_
    refine lv_aload_n hx hb dX0_placeInRank_29 rfl (lv_at hl 0 rfl) ?_
    refine Xg_X0_fame C hA iX0_placeInRank_X0 (by decide +kernel) dX0_placeInRank_30 ?_
    refine lv_iload_n hx hb dX0_placeInRank_33 rfl (lv_at hl 1 rfl) ?_
    obtain ⟨g3, h⟩ := gd h
    refine Xld_20 (v := (σ.2.2 20 (x1).toNatClampNeg)) C hA rfl g3 dX0_placeInRank_34 ?_
    refine W.lcmp hx hb dX0_placeInRank_35 ?_
    refine lv_if_gt (tgt := 60) hx hb dX0_placeInRank_36 (by decide) (fun c4 => ?_) (fun c4 => ?_)
    · replace h := (if_pos c4).symm.trans h
      exact w_X0_placeInRank_60 C hk15 h hA (lv_sub hl [0, 1, 2, 3] rfl)
    · replace h := (if_neg c4).symm.trans h
      refine lv_aload_n hx hb dX0_placeInRank_39 rfl (lv_at hl 0 rfl) ?_
      refine Xg_X0_fame C hA iX0_placeInRank_X0 (by decide +kernel) dX0_placeInRank_40 ?_
      refine lv_iload_n hx hb dX0_placeInRank_43 rfl (lv_at hl 3 rfl) ?_
      refine Xld_20 (v := (σ.2.2 20 (x3).toNatClampNeg)) C hA rfl g2 dX0_placeInRank_44 ?_
      refine lv_aload_n hx hb dX0_placeInRank_45 rfl (lv_at hl 0 rfl) ?_
      refine Xg_X0_fame C hA iX0_placeInRank_X0 (by decide +kernel) dX0_placeInRank_46 ?_
      refine lv_iload_n hx hb dX0_placeInRank_49 rfl (lv_at hl 1 rfl) ?_
      refine Xld_20 (v := (σ.2.2 20 (x1).toNatClampNeg)) C hA rfl g3 dX0_placeInRank_50 ?_
      refine W.lcmp hx hb dX0_placeInRank_51 ?_
      refine lv_if_ne (tgt := 64) hx hb dX0_placeInRank_52 (by decide) (fun c5 => ?_) (fun c5 => ?_)
      · replace h := (if_neg c5).symm.trans h
        exact w_X0_placeInRank_64 C hk15 h hA (lv_sub hl [0, 1, 2, 3] rfl)
      · replace h := (if_pos c5).symm.trans h
        refine lv_iload_n hx hb dX0_placeInRank_55 rfl (lv_at hl 3 rfl) ?_
        refine lv_iload_n hx hb dX0_placeInRank_56 rfl (lv_at hl 1 rfl) ?_
        refine lv_icmp_ge (tgt := 64) hx hb dX0_placeInRank_57 (by decide) (fun c6 => ?_) (fun c6 => ?_)
        · replace h := (if_pos c6).symm.trans h
          exact w_X0_placeInRank_64 C hk15 h hA (lv_sub hl [0, 1, 2, 3] rfl)
        · replace h := (if_neg c6).symm.trans h
          exact w_X0_placeInRank_60 C hk15 h hA (lv_sub hl [0, 1, 2, 3] rfl)
set_option maxHeartbeats 4000000 in
theorem w_X0_placeInRank_L15 {σ : SS} {x : Int32 × Int32 × Int32} (C : Cx p l s m args meth c cX0_placeInRank 5 wsX0_placeInRank (some .int) RX0 g A) (h : f_X0_placeInRank_L15 fu σ x = some R) {H : Heap} {locs : List Loc} {ls : Array Slot} (hA : Aw g A s.heap (wX g σ) H locs) (hl : lv_has ls 5 [(0, .ref (g.2.1 4)), (1, .int x.1), (2, .int x.2.1), (3, .int x.2.2)]) : W p l e rmX0_placeInRank s m args below meth c H locs 0 0 (MQ below (Qi g A (wX g σ) R) args s 0 0 A) (F0 m 15 ls []) := by
  refine loopW (P := fun σ1 x => σ1 = σ → ∀ (H : Heap) (locs : List Loc) (ls : Array Slot), Aw g A s.heap (wX g σ) H locs → lv_has ls 5 [(0, .ref (g.2.1 4)), (1, .int x.1), (2, .int x.2.1), (3, .int x.2.2)] → W p l e rmX0_placeInRank s m args below meth c H locs 0 0 (MQ below (Qi g A (wX g σ) R) args s 0 0 A) (F0 m 15 ls [])) (fun k hk σ1 x h9 e1 H locs ls hA9 hl9 => ?_) fu σ x h rfl H locs ls hA hl
  subst e1
  exact w_X0_placeInRank_15 C (fun σ2 x e2 h2 => hk σ2 x h2 e2) h9 hA9 hl9
set_option maxHeartbeats 4000000 in
set_option maxRecDepth 100000 in
theorem w_X0_placeInRank_0 {σ : SS} {x1 : Int32} (C : Cx p l s m args meth c cX0_placeInRank 5 wsX0_placeInRank (some .int) RX0 g A) (h : f_X0_placeInRank fu σ x1 = some R) {H : Heap} {locs : List Loc} {ls : Array Slot} (hA : Aw g A s.heap (wX g σ) H locs) (hl : lv_has ls 5 [(0, .ref (g.2.1 4)), (1, .int x1)]) : W p l e rmX0_placeInRank s m args below meth c H locs 0 0 (MQ below (Qi g A (wX g σ) R) args s 0 0 A) (F0 m 0 ls []) := by
  have hx := C.1.1
  have hb := C.1.2.1
  unfold f_X0_placeInRank at h
  refine lv_aload_n hx hb dX0_placeInRank_0 rfl (lv_at hl 0 rfl) ?_
  refine Xg_X0_lives C hA iX0_placeInRank_X0 (by decide +kernel) dX0_placeInRank_1 ?_
  refine lv_iload_n hx hb dX0_placeInRank_4 rfl (lv_at hl 1 rfl) ?_
  obtain ⟨g1, h⟩ := gd h
  refine Xld_21 (v := (σ.2.1 21 (x1).toNatClampNeg)) C hA rfl g1 dX0_placeInRank_5 ?_
  refine lv_if_ne (tgt := 11) hx hb dX0_placeInRank_6 (by decide) (fun c2 => ?_) (fun c2 => ?_)
  · replace h := (if_neg c2).symm.trans h
    refine lv_iconst (v := 0) hx hb dX0_placeInRank_11 (by decide) ?_
    refine lv_istore_n (lv' := [(2, .int (0 : Int32)), (0, .ref (g.2.1 4)), (1, .int x1)]) hx hb dX0_placeInRank_12 rfl hl (by decide) rfl (fun ls hl => ?_)
    refine lv_iconst (v := 0) hx hb dX0_placeInRank_13 (by decide) ?_
    refine lv_istore_n (lv' := [(3, .int (0 : Int32)), (2, .int (0 : Int32)), (0, .ref (g.2.1 4)), (1, .int x1)]) hx hb dX0_placeInRank_14 rfl hl (by decide) rfl (fun ls hl => ?_)
    exact w_X0_placeInRank_L15 C h hA (lv_sub hl [2, 3, 1, 0] rfl)
  · replace h := (if_pos c2).symm.trans h
    refine lv_iconst (v := (-1)) hx hb dX0_placeInRank_9 (by decide) ?_
    obtain rfl := Option.some.inj h
    exact r_iret C hA dX0_placeInRank_10
end
set_option maxRecDepth 100000 in
theorem k_X0_placeInRank {l : Launch} {g : Gm} {fu : Nat} {σ : SS} {x1 : Int32} {R : Int32} (hlt : l.stackTraces = false) (h : f_X0_placeInRank fu σ x1 = some R) (sz : Nat) : Met l yX0_placeInRank wsX0_placeInRank rmX0_placeInRank (Pw g (wX g σ) [.ref (g.2.1 4), .int x1] sz) (Qi g (va_A (wX g σ) sz) (wX g σ) R) 0 0 (va_A (wX g σ) sz) :=
  ofM (own := RX0) hlt (by decide) rfl rfl (Nat.le_of_ble_eq_true rfl) (fun p e s m below meth c hsz C hA ls hl => w_X0_placeInRank_0 C h hA hl)
abbrev rmX1_add : Room := { frames := 0, cells := 0, slots := 0, locals := 0 }
theorem iX1_add_X1 : ∀ x ∈ wsX10, x ∈ wsX1_add := by decide +kernel
theorem nd_X1_add : yX1_add.cls = RX1 ∧ yX1_add.cls ≠ "java/lang/invoke/MethodHandle" ∧ yX1_add.cls ≠ "java/lang/invoke/VarHandle" ∧ (parseMethodDescriptor yX1_add.desc).map (fun d => d.parameters.length) = some 2 := by decide +kernel
def f_X1_add (fu : Nat) (σ : SS) (x1 : Int32) (x2 : Int32) : Option (Int32 × SS) :=
  if inB (σ.1 16) 30 then some ((((σ.1 16) + (1 : Int32)) - (1 : Int32)), (sI (sA (sA (sA σ 26 ((σ.1 16)).toNatClampNeg x1) 27 ((σ.1 16)).toNatClampNeg x2) 28 ((σ.1 16)).toNatClampNeg x2) 16 ((σ.1 16) + (1 : Int32)))) else none
section
variable {p : Program} {l : Launch} {e : Env} {s : State} {m : MethodId} {args : Array Value} {below : List Frame} {meth : Method} {c : Code} {g : Gm} {A : Nat → Prop} {fu : Nat} {R : Int32 × SS}
set_option maxHeartbeats 4000000 in
set_option maxRecDepth 100000 in
theorem w_X1_add_0 {σ : SS} {x1 : Int32} {x2 : Int32} (C : Cx p l s m args meth c cX1_add 3 wsX1_add (some .int) RX1 g A) (h : f_X1_add fu σ x1 x2 = some R) {H : Heap} {locs : List Loc} {ls : Array Slot} (hA : Aw g A s.heap (wX g σ) H locs) (hl : lv_has ls 3 [(0, .ref (g.2.1 6)), (1, .int x1), (2, .int x2)]) : W p l e rmX1_add s m args below meth c H locs 0 0 (MQ below (Qi g A (wX g R.2) R.1) args s 0 0 A) (F0 m 0 ls []) := by
  have hx := C.1.1
  have hb := C.1.2.1
  unfold f_X1_add at h
  refine lv_aload_n hx hb dX1_add_0 rfl (lv_at hl 0 rfl) ?_
  refine Xg_X1_owner C hA iX1_add_X1 (by decide +kernel) dX1_add_1 ?_
  refine lv_aload_n hx hb dX1_add_4 rfl (lv_at hl 0 rfl) ?_
  refine Xg_X1_size (v := (σ.1 16)) C hA rfl iX1_add_X1 (by decide +kernel) dX1_add_5 ?_
  refine lv_iload_n hx hb dX1_add_8 rfl (lv_at hl 1 rfl) ?_
  obtain ⟨g1, h⟩ := gd h
  refine Xst_26 C hA g1 dX1_add_9 (fun H locs hA => ?_)
  refine lv_aload_n hx hb dX1_add_10 rfl (lv_at hl 0 rfl) ?_
  refine Xg_X1_firstWorth C hA iX1_add_X1 (by decide +kernel) dX1_add_11 ?_
  refine lv_aload_n hx hb dX1_add_14 rfl (lv_at hl 0 rfl) ?_
  refine Xg_X1_size (v := (σ.1 16)) C hA rfl iX1_add_X1 (by decide +kernel) dX1_add_15 ?_
  refine lv_iload_n hx hb dX1_add_18 rfl (lv_at hl 2 rfl) ?_
  refine Xst_27 C hA g1 dX1_add_19 (fun H locs hA => ?_)
  refine lv_aload_n hx hb dX1_add_20 rfl (lv_at hl 0 rfl) ?_
  refine Xg_X1_worth C hA iX1_add_X1 (by decide +kernel) dX1_add_21 ?_
  refine lv_aload_n hx hb dX1_add_24 rfl (lv_at hl 0 rfl) ?_
  refine Xg_X1_size (v := (σ.1 16)) C hA rfl iX1_add_X1 (by decide +kernel) dX1_add_25 ?_
  refine lv_iload_n hx hb dX1_add_28 rfl (lv_at hl 2 rfl) ?_
  refine Xst_28 C hA g1 dX1_add_29 (fun H locs hA => ?_)
  refine lv_aload_n hx hb dX1_add_30 rfl (lv_at hl 0 rfl) ?_
  refine lv_dup hx hb dX1_add_31 rfl ?_
  refine Xg_X1_size (v := (σ.1 16)) C hA rfl iX1_add_X1 (by decide +kernel) dX1_add_32 ?_
  refine lv_iconst (v := 1) hx hb dX1_add_35 (by decide) ?_
  refine lv_iadd hx hb dX1_add_36 ?_
  refine Xp_X1_size C hA iX1_add_X1 (by decide +kernel) dX1_add_37 (fun H locs hA => ?_)
  refine lv_aload_n hx hb dX1_add_40 rfl (lv_at hl 0 rfl) ?_
  refine Xg_X1_size (v := ((σ.1 16) + (1 : Int32))) C hA rfl iX1_add_X1 (by decide +kernel) dX1_add_41 ?_
  refine lv_iconst (v := 1) hx hb dX1_add_44 (by decide) ?_
  refine lv_isub hx hb dX1_add_45 ?_
  obtain rfl := Option.some.inj h
  exact r_iret C hA dX1_add_46
end
set_option maxRecDepth 100000 in
theorem k_X1_add {l : Launch} {g : Gm} {fu : Nat} {σ : SS} {x1 : Int32} {x2 : Int32} {R : Int32 × SS} (hlt : l.stackTraces = false) (h : f_X1_add fu σ x1 x2 = some R) (sz : Nat) : Met l yX1_add wsX1_add rmX1_add (Pw g (wX g σ) [.ref (g.2.1 6), .int x1, .int x2] sz) (Qi g (va_A (wX g σ) sz) (wX g R.2) R.1) 0 0 (va_A (wX g σ) sz) :=
  ofM (own := RX1) hlt (by decide) rfl rfl (Nat.le_of_ble_eq_true rfl) (fun p e s m below meth c hsz C hA ls hl => w_X1_add_0 C h hA hl)
abbrev rmX1_breakOff : Room := { frames := 1, cells := 0, slots := 0, locals := 30 }
theorem iX1_breakOff_X1 : ∀ x ∈ wsX10, x ∈ wsX1_breakOff := by decide +kernel
theorem nd_X1_breakOff : yX1_breakOff.cls = RX1 ∧ yX1_breakOff.cls ≠ "java/lang/invoke/MethodHandle" ∧ yX1_breakOff.cls ≠ "java/lang/invoke/VarHandle" ∧ (parseMethodDescriptor yX1_breakOff.desc).map (fun d => d.parameters.length) = some 1 := by decide +kernel
def f_X1_breakOff (fu : Nat) (σ : SS) (x1 : Int32) : Option (Int32 × SS) :=
  if inB x1 30 then some (((sA σ 28 (x1).toNatClampNeg (if ((σ.2.1 28 (x1).toNatClampNeg) - (if ((σ.2.1 27 (x1).toNatClampNeg) / (8 : Int32)) < (1 : Int32) then (1 : Int32) else ((σ.2.1 27 (x1).toNatClampNeg) / (8 : Int32)))) < (0 : Int32) then (0 : Int32) else ((σ.2.1 28 (x1).toNatClampNeg) - (if ((σ.2.1 27 (x1).toNatClampNeg) / (8 : Int32)) < (1 : Int32) then (1 : Int32) else ((σ.2.1 27 (x1).toNatClampNeg) / (8 : Int32)))))).2.1 28 (x1).toNatClampNeg), (sA σ 28 (x1).toNatClampNeg (if ((σ.2.1 28 (x1).toNatClampNeg) - (if ((σ.2.1 27 (x1).toNatClampNeg) / (8 : Int32)) < (1 : Int32) then (1 : Int32) else ((σ.2.1 27 (x1).toNatClampNeg) / (8 : Int32)))) < (0 : Int32) then (0 : Int32) else ((σ.2.1 28 (x1).toNatClampNeg) - (if ((σ.2.1 27 (x1).toNatClampNeg) / (8 : Int32)) < (1 : Int32) then (1 : Int32) else ((σ.2.1 27 (x1).toNatClampNeg) / (8 : Int32))))))) else none
section
variable {p : Program} {l : Launch} {e : Env} {s : State} {m : MethodId} {args : Array Value} {below : List Frame} {meth : Method} {c : Code} {g : Gm} {A : Nat → Prop} {fu : Nat} {R : Int32 × SS}
set_option maxHeartbeats 4000000 in
set_option maxRecDepth 100000 in
theorem w_X1_breakOff_0 {σ : SS} {x1 : Int32} (C : Cx p l s m args meth c cX1_breakOff 3 wsX1_breakOff (some .int) RX1 g A) (h : f_X1_breakOff fu σ x1 = some R) {H : Heap} {locs : List Loc} {ls : Array Slot} (hA : Aw g A s.heap (wX g σ) H locs) (hl : lv_has ls 3 [(0, .ref (g.2.1 6)), (1, .int x1)]) : W p l e rmX1_breakOff s m args below meth c H locs 0 0 (MQ below (Qi g A (wX g R.2) R.1) args s 0 0 A) (F0 m 0 ls []) := by
  have hx := C.1.1
  have hb := C.1.2.1
  unfold f_X1_breakOff at h
  refine lv_aload_n hx hb dX1_breakOff_0 rfl (lv_at hl 0 rfl) ?_
  refine Xg_X1_firstWorth C hA iX1_breakOff_X1 (by decide +kernel) dX1_breakOff_1 ?_
  refine lv_iload_n hx hb dX1_breakOff_4 rfl (lv_at hl 1 rfl) ?_
  obtain ⟨g1, h⟩ := gd h
  refine Xld_27 (v := (σ.2.1 27 (x1).toNatClampNeg)) C hA rfl g1 dX1_breakOff_5 ?_
  refine lv_bipush (v := 8) hx hb dX1_breakOff_6 (by decide) ?_
  refine lv_idiv hx hb dX1_breakOff_8 (by decide) ?_
  refine lv_iconst (v := 1) hx hb dX1_breakOff_9 (by decide) ?_
  refine va_mmax (rest := []) hx hb (C.1.2.2.1.trans hl.1.symm) C.1.2.2.2.1 (C.1.2.2.2.2 (.methodLink RX1 25 Lib.Math.max.name) (by decide +kernel)) (C.1.2.2.2.2 (.static Lib.Math.max.name) (by decide +kernel)) (C.1.2.2.2.2 (.initialized "java/lang/Math") (by decide +kernel)) (C.1.2.2.2.2 (.code Lib.Math.max.name Lib.Math.max.code 2 (some .int)) (by decide +kernel)) (Nat.le_of_ble_eq_true rfl) (Nat.le_of_ble_eq_true rfl) (Nat.le_of_ble_eq_true rfl) (Nat.le_of_ble_eq_true rfl) dX1_breakOff_10 ?_
  refine lv_istore_n (lv' := [(2, .int (if ((σ.2.1 27 (x1).toNatClampNeg) / (8 : Int32)) < (1 : Int32) then (1 : Int32) else ((σ.2.1 27 (x1).toNatClampNeg) / (8 : Int32)))), (0, .ref (g.2.1 6)), (1, .int x1)]) hx hb dX1_breakOff_13 rfl hl (by decide) rfl (fun ls hl => ?_)
  refine lv_aload_n hx hb dX1_breakOff_14 rfl (lv_at hl 1 rfl) ?_
  refine Xg_X1_worth C hA iX1_breakOff_X1 (by decide +kernel) dX1_breakOff_15 ?_
  refine lv_iload_n hx hb dX1_breakOff_18 rfl (lv_at hl 2 rfl) ?_
  refine lv_aload_n hx hb dX1_breakOff_19 rfl (lv_at hl 1 rfl) ?_
  refine Xg_X1_worth C hA iX1_breakOff_X1 (by decide +kernel) dX1_breakOff_20 ?_
  refine lv_iload_n hx hb dX1_breakOff_23 rfl (lv_at hl 2 rfl) ?_
  refine Xld_28 (v := (σ.2.1 28 (x1).toNatClampNeg)) C hA rfl g1 dX1_breakOff_24 ?_
  refine lv_iload_n hx hb dX1_breakOff_25 rfl (lv_at hl 0 rfl) ?_
  refine lv_isub hx hb dX1_breakOff_26 ?_
  refine lv_iconst (v := 0) hx hb dX1_breakOff_27 (by decide) ?_
  refine va_mmax (rest := [.int x1, .ref (g.2.1 28)]) hx hb (C.1.2.2.1.trans hl.1.symm) C.1.2.2.2.1 (C.1.2.2.2.2 (.methodLink RX1 25 Lib.Math.max.name) (by decide +kernel)) (C.1.2.2.2.2 (.static Lib.Math.max.name) (by decide +kernel)) (C.1.2.2.2.2 (.initialized "java/lang/Math") (by decide +kernel)) (C.1.2.2.2.2 (.code Lib.Math.max.name Lib.Math.max.code 2 (some .int)) (by decide +kernel)) (Nat.le_of_ble_eq_true rfl) (Nat.le_of_ble_eq_true rfl) (Nat.le_of_ble_eq_true rfl) (Nat.le_of_ble_eq_true rfl) dX1_breakOff_28 ?_
  refine Xst_28 C hA g1 dX1_breakOff_31 (fun H locs hA => ?_)
  refine lv_aload_n hx hb dX1_breakOff_32 rfl (lv_at hl 1 rfl) ?_
  refine Xg_X1_worth C hA iX1_breakOff_X1 (by decide +kernel) dX1_breakOff_33 ?_
  refine lv_iload_n hx hb dX1_breakOff_36 rfl (lv_at hl 2 rfl) ?_
  refine Xld_28 (v := ((sA σ 28 (x1).toNatClampNeg (if ((σ.2.1 28 (x1).toNatClampNeg) - (if ((σ.2.1 27 (x1).toNatClampNeg) / (8 : Int32)) < (1 : Int32) then (1 : Int32) else ((σ.2.1 27 (x1).toNatClampNeg) / (8 : Int32)))) < (0 : Int32) then (0 : Int32) else ((σ.2.1 28 (x1).toNatClampNeg) - (if ((σ.2.1 27 (x1).toNatClampNeg) / (8 : Int32)) < (1 : Int32) then (1 : Int32) else ((σ.2.1 27 (x1).toNatClampNeg) / (8 : Int32)))))).2.1 28 (x1).toNatClampNeg)) C hA rfl g1 dX1_breakOff_37 ?_
  obtain rfl := Option.some.inj h
  exact r_iret C hA dX1_breakOff_38
end
set_option maxRecDepth 100000 in
theorem k_X1_breakOff {l : Launch} {g : Gm} {fu : Nat} {σ : SS} {x1 : Int32} {R : Int32 × SS} (hlt : l.stackTraces = false) (h : f_X1_breakOff fu σ x1 = some R) (sz : Nat) : Met l yX1_breakOff wsX1_breakOff rmX1_breakOff (Pw g (wX g σ) [.ref (g.2.1 6), .int x1] sz) (Qi g (va_A (wX g σ) sz) (wX g R.2) R.1) 0 0 (va_A (wX g σ) sz) :=
  ofM (own := RX1) hlt (by decide) rfl rfl (Nat.le_of_ble_eq_true rfl) (fun p e s m below meth c hsz C hA ls hl => w_X1_breakOff_0 C h hA hl)
abbrev rmX1_inherit : Room := { frames := 0, cells := 0, slots := 0, locals := 0 }
theorem iX1_inherit_X1 : ∀ x ∈ wsX10, x ∈ wsX1_inherit := by decide +kernel
theorem nd_X1_inherit : yX1_inherit.cls = RX1 ∧ yX1_inherit.cls ≠ "java/lang/invoke/MethodHandle" ∧ yX1_inherit.cls ≠ "java/lang/invoke/VarHandle" ∧ (parseMethodDescriptor yX1_inherit.desc).map (fun d => d.parameters.length) = some 2 := by decide +kernel
def f_X1_inherit_27 (fu : Nat) (k2 : SS → (Int32 × Int32 × Int32) → Option (Unit × SS)) (σ : SS) (x1 : Int32) (x2 : Int32) (x3 : Int32) : Option (Unit × SS) :=
  k2 σ (x1, x2, (x3 + 1))
def f_X1_inherit_2 (fu : Nat) (k2 : SS → (Int32 × Int32 × Int32) → Option (Unit × SS)) (σ : SS) (x1 : Int32) (x2 : Int32) (x3 : Int32) : Option (Unit × SS) :=
  (if (σ.1 16) ≤ x3 then some ((), σ) else if inB x3 30 then (if (σ.2.1 26 (x3).toNatClampNeg) = x1 then f_X1_inherit_27 fu k2 (sA σ 26 (x3).toNatClampNeg x2) x1 x2 x3 else f_X1_inherit_27 fu k2 σ x1 x2 x3) else none)
def f_X1_inherit_L2 (fu : Nat) : SS → (Int32 × Int32 × Int32) → Option (Unit × SS) := loopN (fun k2 σ x => f_X1_inherit_2 fu k2 σ x.1 x.2.1 x.2.2) fu
def f_X1_inherit (fu : Nat) (σ : SS) (x1 : Int32) (x2 : Int32) : Option (Unit × SS) :=
  f_X1_inherit_L2 fu σ (x1, x2, (0 : Int32))
section
variable {p : Program} {l : Launch} {e : Env} {s : State} {m : MethodId} {args : Array Value} {below : List Frame} {meth : Method} {c : Code} {g : Gm} {A : Nat → Prop} {fu : Nat} {R : Unit × SS}
set_option maxHeartbeats 4000000 in
set_option maxRecDepth 100000 in
theorem w_X1_inherit_27 {σ : SS} {x1 : Int32} {x2 : Int32} {x3 : Int32} (C : Cx p l s m args meth c cX1_inherit 4 wsX1_inherit none RX1 g A) {k2 : SS → (Int32 × Int32 × Int32) → Option (Unit × SS)} (hk2 : ∀ (σ : SS) (x : Int32 × Int32 × Int32), k2 σ x = some R → ∀ (H : Heap) (locs : List Loc) (ls : Array Slot), Aw g A s.heap (wX g σ) H locs → lv_has ls 4 [(0, .ref (g.2.1 6)), (1, .int x.1), (2, .int x.2.1), (3, .int x.2.2)] → W p l e rmX1_inherit s m args below meth c H locs 0 0 (MQ below (Qv g A (wX g R.2) R.1) args s 0 0 A) (F0 m 2 ls [])) (h : f_X1_inherit_27 fu k2 σ x1 x2 x3 = some R) {H : Heap} {locs : List Loc} {ls : Array Slot} (hA : Aw g A s.heap (wX g σ) H locs) (hl : lv_has ls 4 [(0, .ref (g.2.1 6)), (1, .int x1), (2, .int x2), (3, .int x3)]) : W p l e rmX1_inherit s m args below meth c H locs 0 0 (MQ below (Qv g A (wX g R.2) R.1) args s 0 0 A) (F0 m 27 ls []) := by
  have hx := C.1.1
  have hb := C.1.2.1
  unfold f_X1_inherit_27 at h
  refine lv_iinc (v := (x3 + 1)) (lv' := [(3, .int (x3 + 1)), (0, .ref (g.2.1 6)), (1, .int x1), (2, .int x2)]) hx hb dX1_inherit_27 hl (k := 3) rfl rfl (by decide) rfl (fun ls hl => ?_)
  refine lv_goto (tgt := 2) hx hb dX1_inherit_30 (by decide) ?_
  exact hk2 _ _ h _ _ _ hA (lv_sub hl [1, 2, 3, 0] rfl)
set_option maxHeartbeats 4000000 in
set_option maxRecDepth 100000 in
theorem w_X1_inherit_2 {σ : SS} {x1 : Int32} {x2 : Int32} {x3 : Int32} (C : Cx p l s m args meth c cX1_inherit 4 wsX1_inherit none RX1 g A) {k2 : SS → (Int32 × Int32 × Int32) → Option (Unit × SS)} (hk2 : ∀ (σ : SS) (x : Int32 × Int32 × Int32), k2 σ x = some R → ∀ (H : Heap) (locs : List Loc) (ls : Array Slot), Aw g A s.heap (wX g σ) H locs → lv_has ls 4 [(0, .ref (g.2.1 6)), (1, .int x.1), (2, .int x.2.1), (3, .int x.2.2)] → W p l e rmX1_inherit s m args below meth c H locs 0 0 (MQ below (Qv g A (wX g R.2) R.1) args s 0 0 A) (F0 m 2 ls [])) (h : f_X1_inherit_2 fu k2 σ x1 x2 x3 = some R) {H : Heap} {locs : List Loc} {ls : Array Slot} (hA : Aw g A s.heap (wX g σ) H locs) (hl : lv_has ls 4 [(0, .ref (g.2.1 6)), (1, .int x1), (2, .int x2), (3, .int x3)]) : W p l e rmX1_inherit s m args below meth c H locs 0 0 (MQ below (Qv g A (wX g R.2) R.1) args s 0 0 A) (F0 m 2 ls []) := by
  have hx := C.1.1
  have hb := C.1.2.1
  unfold f_X1_inherit_2 at h
  refine lv_iload_n hx hb dX1_inherit_2 rfl (lv_at hl 3 rfl) ?_
  refine lv_aload_n hx hb dX1_inherit_3 rfl (lv_at hl 0 rfl) ?_
  refine Xg_X1_size (v := (σ.1 16)) C hA rfl iX1_inherit_X1 (by decide +kernel) dX1_inherit_4 ?_
  refine lv_icmp_ge (tgt := 33) hx hb dX1_inherit_7 (by decide) (fun c1 => ?_) (fun c1 => ?_)
  · replace h := (if_pos c1).symm.trans h
    obtain rfl := Option.some.inj h
    exact r_vret C hA dX1_inherit_33
  · replace h := (if_neg c1).symm.trans h
    refine lv_aload_n hx hb dX1_inherit_10 rfl (lv_at hl 0 rfl) ?_
    refine Xg_X1_owner C hA iX1_inherit_X1 (by decide +kernel) dX1_inherit_11 ?_
    refine lv_iload_n hx hb dX1_inherit_14 rfl (lv_at hl 3 rfl) ?_
    obtain ⟨g2, h⟩ := gd h
    refine Xld_26 (v := (σ.2.1 26 (x3).toNatClampNeg)) C hA rfl g2 dX1_inherit_15 ?_
    refine lv_iload_n hx hb dX1_inherit_16 rfl (lv_at hl 1 rfl) ?_
    refine lv_icmp_ne (tgt := 27) hx hb dX1_inherit_17 (by decide) (fun c3 => ?_) (fun c3 => ?_)
    · replace h := (if_neg c3).symm.trans h
      exact w_X1_inherit_27 C hk2 h hA (lv_sub hl [0, 1, 2, 3] rfl)
    · replace h := (if_pos c3).symm.trans h
      refine lv_aload_n hx hb dX1_inherit_20 rfl (lv_at hl 0 rfl) ?_
      refine Xg_X1_owner C hA iX1_inherit_X1 (by decide +kernel) dX1_inherit_21 ?_
      refine lv_iload_n hx hb dX1_inherit_24 rfl (lv_at hl 3 rfl) ?_
      refine lv_iload_n hx hb dX1_inherit_25 rfl (lv_at hl 2 rfl) ?_
      refine Xst_26 C hA g2 dX1_inherit_26 (fun H locs hA => ?_)
      exact w_X1_inherit_27 C hk2 h hA (lv_sub hl [0, 1, 2, 3] rfl)
set_option maxHeartbeats 4000000 in
theorem w_X1_inherit_L2 {σ : SS} {x : Int32 × Int32 × Int32} (C : Cx p l s m args meth c cX1_inherit 4 wsX1_inherit none RX1 g A) (h : f_X1_inherit_L2 fu σ x = some R) {H : Heap} {locs : List Loc} {ls : Array Slot} (hA : Aw g A s.heap (wX g σ) H locs) (hl : lv_has ls 4 [(0, .ref (g.2.1 6)), (1, .int x.1), (2, .int x.2.1), (3, .int x.2.2)]) : W p l e rmX1_inherit s m args below meth c H locs 0 0 (MQ below (Qv g A (wX g R.2) R.1) args s 0 0 A) (F0 m 2 ls []) := by
  refine loopW (P := fun σ x => ∀ (H : Heap) (locs : List Loc) (ls : Array Slot), Aw g A s.heap (wX g σ) H locs → lv_has ls 4 [(0, .ref (g.2.1 6)), (1, .int x.1), (2, .int x.2.1), (3, .int x.2.2)] → W p l e rmX1_inherit s m args below meth c H locs 0 0 (MQ below (Qv g A (wX g R.2) R.1) args s 0 0 A) (F0 m 2 ls [])) (fun k hk σ x h9 H locs ls hA9 hl9 => ?_) fu σ x h H locs ls hA hl
  exact w_X1_inherit_2 C hk h9 hA9 hl9
set_option maxHeartbeats 4000000 in
set_option maxRecDepth 100000 in
theorem w_X1_inherit_0 {σ : SS} {x1 : Int32} {x2 : Int32} (C : Cx p l s m args meth c cX1_inherit 4 wsX1_inherit none RX1 g A) (h : f_X1_inherit fu σ x1 x2 = some R) {H : Heap} {locs : List Loc} {ls : Array Slot} (hA : Aw g A s.heap (wX g σ) H locs) (hl : lv_has ls 4 [(0, .ref (g.2.1 6)), (1, .int x1), (2, .int x2)]) : W p l e rmX1_inherit s m args below meth c H locs 0 0 (MQ below (Qv g A (wX g R.2) R.1) args s 0 0 A) (F0 m 0 ls []) := by
  have hx := C.1.1
  have hb := C.1.2.1
  unfold f_X1_inherit at h
  refine lv_iconst (v := 0) hx hb dX1_inherit_0 (by decide) ?_
  refine lv_istore_n (lv' := [(3, .int (0 : Int32)), (0, .ref (g.2.1 6)), (1, .int x1), (2, .int x2)]) hx hb dX1_inherit_1 rfl hl (by decide) rfl (fun ls hl => ?_)
  exact w_X1_inherit_L2 C h hA (lv_sub hl [1, 2, 3, 0] rfl)
end
set_option maxRecDepth 100000 in
theorem k_X1_inherit {l : Launch} {g : Gm} {fu : Nat} {σ : SS} {x1 : Int32} {x2 : Int32} {R : Unit × SS} (hlt : l.stackTraces = false) (h : f_X1_inherit fu σ x1 x2 = some R) (sz : Nat) : Met l yX1_inherit wsX1_inherit rmX1_inherit (Pw g (wX g σ) [.ref (g.2.1 6), .int x1, .int x2] sz) (Qv g (va_A (wX g σ) sz) (wX g R.2) R.1) 0 0 (va_A (wX g σ) sz) :=
  ofM (own := RX1) hlt (by decide) rfl rfl (Nat.le_of_ble_eq_true rfl) (fun p e s m below meth c hsz C hA ls hl => w_X1_inherit_0 C h hA hl)
abbrev rmX2_add : Room := { frames := 0, cells := 0, slots := 0, locals := 0 }
theorem iX2_add_X2 : ∀ x ∈ wsX20, x ∈ wsX2_add := by decide +kernel
theorem iX2_add_X6 : ∀ x ∈ wsX60, x ∈ wsX2_add := by decide +kernel
theorem nd_X2_add : yX2_add.cls = RX2 ∧ yX2_add.cls ≠ "java/lang/invoke/MethodHandle" ∧ yX2_add.cls ≠ "java/lang/invoke/VarHandle" ∧ (parseMethodDescriptor yX2_add.desc).map (fun d => d.parameters.length) = some 2 := by decide +kernel
def f_X2_add (fu : Nat) (σ : SS) (x2 : Int32) : Option (Int32 × SS) :=
  if inB (σ.1 13) 20 then some ((((σ.1 13) + (1 : Int32)) - (1 : Int32)), (sI (sA (sA (sA (sA (sA (sA (sA σ 12 ((σ.1 13)).toNatClampNeg x2) 13 ((σ.1 13)).toNatClampNeg (σ.1 7)) 14 ((σ.1 13)).toNatClampNeg (σ.1 8)) 15 ((σ.1 13)).toNatClampNeg (σ.1 9)) 16 ((σ.1 13)).toNatClampNeg (σ.1 10)) 17 ((σ.1 13)).toNatClampNeg (σ.1 11)) 18 ((σ.1 13)).toNatClampNeg (σ.1 12)) 13 ((σ.1 13) + (1 : Int32)))) else none
section
variable {p : Program} {l : Launch} {e : Env} {s : State} {m : MethodId} {args : Array Value} {below : List Frame} {meth : Method} {c : Code} {g : Gm} {A : Nat → Prop} {fu : Nat} {R : Int32 × SS}
set_option maxHeartbeats 4000000 in
set_option maxRecDepth 100000 in
theorem w_X2_add_0 {σ : SS} {x2 : Int32} (C : Cx p l s m args meth c cX2_add 3 wsX2_add (some .int) RX2 g A) (h : f_X2_add fu σ x2 = some R) {H : Heap} {locs : List Loc} {ls : Array Slot} (hA : Aw g A s.heap (wX g σ) H locs) (hl : lv_has ls 3 [(0, .ref (g.2.1 3)), (1, .ref (g.2.1 2)), (2, .int x2)]) : W p l e rmX2_add s m args below meth c H locs 0 0 (MQ below (Qi g A (wX g R.2) R.1) args s 0 0 A) (F0 m 0 ls []) := by
  have hx := C.1.1
  have hb := C.1.2.1
  unfold f_X2_add at h
  refine lv_aload_n hx hb dX2_add_0 rfl (lv_at hl 0 rfl) ?_
  refine Xg_X2_fromYear C hA iX2_add_X2 (by decide +kernel) dX2_add_1 ?_
  refine lv_aload_n hx hb dX2_add_4 rfl (lv_at hl 0 rfl) ?_
  refine Xg_X2_size (v := (σ.1 13)) C hA rfl iX2_add_X2 (by decide +kernel) dX2_add_5 ?_
  refine lv_iload_n hx hb dX2_add_8 rfl (lv_at hl 2 rfl) ?_
  obtain ⟨g1, h⟩ := gd h
  refine Xst_12 C hA g1 dX2_add_9 (fun H locs hA => ?_)
  refine lv_aload_n hx hb dX2_add_10 rfl (lv_at hl 0 rfl) ?_
  refine Xg_X2_returnTimes C hA iX2_add_X2 (by decide +kernel) dX2_add_11 ?_
  refine lv_aload_n hx hb dX2_add_14 rfl (lv_at hl 0 rfl) ?_
  refine Xg_X2_size (v := (σ.1 13)) C hA rfl iX2_add_X2 (by decide +kernel) dX2_add_15 ?_
  refine lv_aload_n hx hb dX2_add_18 rfl (lv_at hl 1 rfl) ?_
  refine Xg_X6_returnTimes (v := (σ.1 7)) C hA rfl iX2_add_X6 (by decide +kernel) dX2_add_19 ?_
  refine Xst_13 C hA g1 dX2_add_22 (fun H locs hA => ?_)
  refine lv_aload_n hx hb dX2_add_23 rfl (lv_at hl 0 rfl) ?_
  refine Xg_X2_returnBy C hA iX2_add_X2 (by decide +kernel) dX2_add_24 ?_
  refine lv_aload_n hx hb dX2_add_27 rfl (lv_at hl 0 rfl) ?_
  refine Xg_X2_size (v := (σ.1 13)) C hA rfl iX2_add_X2 (by decide +kernel) dX2_add_28 ?_
  refine lv_aload_n hx hb dX2_add_31 rfl (lv_at hl 1 rfl) ?_
  refine Xg_X6_returnBy (v := (σ.1 8)) C hA rfl iX2_add_X6 (by decide +kernel) dX2_add_32 ?_
  refine Xst_14 C hA g1 dX2_add_35 (fun H locs hA => ?_)
  refine lv_aload_n hx hb dX2_add_36 rfl (lv_at hl 0 rfl) ?_
  refine Xg_X2_within C hA iX2_add_X2 (by decide +kernel) dX2_add_37 ?_
  refine lv_aload_n hx hb dX2_add_40 rfl (lv_at hl 0 rfl) ?_
  refine Xg_X2_size (v := (σ.1 13)) C hA rfl iX2_add_X2 (by decide +kernel) dX2_add_41 ?_
  refine lv_aload_n hx hb dX2_add_44 rfl (lv_at hl 1 rfl) ?_
  refine Xg_X6_within (v := (σ.1 9)) C hA rfl iX2_add_X6 (by decide +kernel) dX2_add_45 ?_
  refine Xst_15 C hA g1 dX2_add_48 (fun H locs hA => ?_)
  refine lv_aload_n hx hb dX2_add_49 rfl (lv_at hl 0 rfl) ?_
  refine Xg_X2_loanTimes C hA iX2_add_X2 (by decide +kernel) dX2_add_50 ?_
  refine lv_aload_n hx hb dX2_add_53 rfl (lv_at hl 0 rfl) ?_
  refine Xg_X2_size (v := (σ.1 13)) C hA rfl iX2_add_X2 (by decide +kernel) dX2_add_54 ?_
  refine lv_aload_n hx hb dX2_add_57 rfl (lv_at hl 1 rfl) ?_
  refine Xg_X6_loanTimes (v := (σ.1 10)) C hA rfl iX2_add_X6 (by decide +kernel) dX2_add_58 ?_
  refine Xst_16 C hA g1 dX2_add_61 (fun H locs hA => ?_)
  refine lv_aload_n hx hb dX2_add_62 rfl (lv_at hl 0 rfl) ?_
  refine Xg_X2_loanBy C hA iX2_add_X2 (by decide +kernel) dX2_add_63 ?_
  refine lv_aload_n hx hb dX2_add_66 rfl (lv_at hl 0 rfl) ?_
  refine Xg_X2_size (v := (σ.1 13)) C hA rfl iX2_add_X2 (by decide +kernel) dX2_add_67 ?_
  refine lv_aload_n hx hb dX2_add_70 rfl (lv_at hl 1 rfl) ?_
  refine Xg_X6_loanBy (v := (σ.1 11)) C hA rfl iX2_add_X6 (by decide +kernel) dX2_add_71 ?_
  refine Xst_17 C hA g1 dX2_add_74 (fun H locs hA => ?_)
  refine lv_aload_n hx hb dX2_add_75 rfl (lv_at hl 0 rfl) ?_
  refine Xg_X2_witness C hA iX2_add_X2 (by decide +kernel) dX2_add_76 ?_
  refine lv_aload_n hx hb dX2_add_79 rfl (lv_at hl 0 rfl) ?_
  refine Xg_X2_size (v := (σ.1 13)) C hA rfl iX2_add_X2 (by decide +kernel) dX2_add_80 ?_
  refine lv_aload_n hx hb dX2_add_83 rfl (lv_at hl 1 rfl) ?_
  refine Xg_X6_witness (v := (σ.1 12)) C hA rfl iX2_add_X6 (by decide +kernel) dX2_add_84 ?_
  refine Xst_18 C hA g1 dX2_add_87 (fun H locs hA => ?_)
  refine lv_aload_n hx hb dX2_add_88 rfl (lv_at hl 0 rfl) ?_
  refine lv_dup hx hb dX2_add_89 rfl ?_
  refine Xg_X2_size (v := (σ.1 13)) C hA rfl iX2_add_X2 (by decide +kernel) dX2_add_90 ?_
  refine lv_iconst (v := 1) hx hb dX2_add_93 (by decide) ?_
  refine lv_iadd hx hb dX2_add_94 ?_
  refine Xp_X2_size C hA iX2_add_X2 (by decide +kernel) dX2_add_95 (fun H locs hA => ?_)
  refine lv_aload_n hx hb dX2_add_98 rfl (lv_at hl 0 rfl) ?_
  refine Xg_X2_size (v := ((σ.1 13) + (1 : Int32))) C hA rfl iX2_add_X2 (by decide +kernel) dX2_add_99 ?_
  refine lv_iconst (v := 1) hx hb dX2_add_102 (by decide) ?_
  refine lv_isub hx hb dX2_add_103 ?_
  obtain rfl := Option.some.inj h
  exact r_iret C hA dX2_add_104
end
set_option maxRecDepth 100000 in
theorem k_X2_add {l : Launch} {g : Gm} {fu : Nat} {σ : SS} {x2 : Int32} {R : Int32 × SS} (hlt : l.stackTraces = false) (h : f_X2_add fu σ x2 = some R) (sz : Nat) : Met l yX2_add wsX2_add rmX2_add (Pw g (wX g σ) [.ref (g.2.1 3), .ref (g.2.1 2), .int x2] sz) (Qi g (va_A (wX g σ) sz) (wX g R.2) R.1) 0 0 (va_A (wX g σ) sz) :=
  ofM (own := RX2) hlt (by decide) rfl rfl (Nat.le_of_ble_eq_true rfl) (fun p e s m below meth c hsz C hA ls hl => w_X2_add_0 C h hA hl)
abbrev rmX2_inForce : Room := { frames := 0, cells := 0, slots := 0, locals := 0 }
theorem iX2_inForce_X2 : ∀ x ∈ wsX20, x ∈ wsX2_inForce := by decide +kernel
theorem nd_X2_inForce : yX2_inForce.cls = RX2 ∧ yX2_inForce.cls ≠ "java/lang/invoke/MethodHandle" ∧ yX2_inForce.cls ≠ "java/lang/invoke/VarHandle" ∧ (parseMethodDescriptor yX2_inForce.desc).map (fun d => d.parameters.length) = some 1 := by decide +kernel
def f_X2_inForce_44 (fu : Nat) (k4 : SS → (Int32 × Int32 × Int32) → Option (Int32)) (σ : SS) (x1 : Int32) (x2 : Int32) (x3 : Int32) : Option (Int32) :=
  k4 σ (x1, x2, (x3 + 1))
def f_X2_inForce_42 (fu : Nat) (k4 : SS → (Int32 × Int32 × Int32) → Option (Int32)) (σ : SS) (x1 : Int32) (x3 : Int32) : Option (Int32) :=
  f_X2_inForce_44 fu k4 σ x1 x3 x3
def f_X2_inForce_4 (fu : Nat) (k4 : SS → (Int32 × Int32 × Int32) → Option (Int32)) (σ : SS) (x1 : Int32) (x2 : Int32) (x3 : Int32) : Option (Int32) :=
  (if (σ.1 13) ≤ x3 then some x2 else if inB x3 20 then (if x1 < (σ.2.1 12 (x3).toNatClampNeg) then f_X2_inForce_44 fu k4 σ x1 x2 x3 else (if x2 = (-1) then f_X2_inForce_42 fu k4 σ x1 x3 else if inB x2 20 then (if (σ.2.1 12 (x3).toNatClampNeg) < (σ.2.1 12 (x2).toNatClampNeg) then f_X2_inForce_44 fu k4 σ x1 x2 x3 else f_X2_inForce_42 fu k4 σ x1 x3) else none)) else none)
def f_X2_inForce_L4 (fu : Nat) : SS → (Int32 × Int32 × Int32) → Option (Int32) := loopN (fun k4 σ x => f_X2_inForce_4 fu k4 σ x.1 x.2.1 x.2.2) fu
def f_X2_inForce (fu : Nat) (σ : SS) (x1 : Int32) : Option (Int32) :=
  f_X2_inForce_L4 fu σ (x1, (-1), (0 : Int32))
section
variable {p : Program} {l : Launch} {e : Env} {s : State} {m : MethodId} {args : Array Value} {below : List Frame} {meth : Method} {c : Code} {g : Gm} {A : Nat → Prop} {fu : Nat} {R : Int32}
set_option maxHeartbeats 4000000 in
set_option maxRecDepth 100000 in
theorem w_X2_inForce_44 {σ : SS} {x1 : Int32} {x2 : Int32} {x3 : Int32} (C : Cx p l s m args meth c cX2_inForce 4 wsX2_inForce (some .int) RX2 g A) {k4 : SS → (Int32 × Int32 × Int32) → Option (Int32)} (hk4 : ∀ (σ1 : SS) (x : Int32 × Int32 × Int32), σ1 = σ → k4 σ1 x = some R → ∀ (H : Heap) (locs : List Loc) (ls : Array Slot), Aw g A s.heap (wX g σ) H locs → lv_has ls 4 [(0, .ref (g.2.1 3)), (1, .int x.1), (2, .int x.2.1), (3, .int x.2.2)] → W p l e rmX2_inForce s m args below meth c H locs 0 0 (MQ below (Qi g A (wX g σ) R) args s 0 0 A) (F0 m 4 ls [])) (h : f_X2_inForce_44 fu k4 σ x1 x2 x3 = some R) {H : Heap} {locs : List Loc} {ls : Array Slot} (hA : Aw g A s.heap (wX g σ) H locs) (hl : lv_has ls 4 [(0, .ref (g.2.1 3)), (1, .int x1), (2, .int x2), (3, .int x3)]) : W p l e rmX2_inForce s m args below meth c H locs 0 0 (MQ below (Qi g A (wX g σ) R) args s 0 0 A) (F0 m 44 ls []) := by
  have hx := C.1.1
  have hb := C.1.2.1
  unfold f_X2_inForce_44 at h
  refine lv_iinc (v := (x3 + 1)) (lv' := [(3, .int (x3 + 1)), (0, .ref (g.2.1 3)), (1, .int x1), (2, .int x2)]) hx hb dX2_inForce_44 hl (k := 3) rfl rfl (by decide) rfl (fun ls hl => ?_)
  refine lv_goto (tgt := 4) hx hb dX2_inForce_47 (by decide) ?_
  exact hk4 _ _ rfl h _ _ _ hA (lv_sub hl [1, 2, 3, 0] rfl)
set_option maxHeartbeats 4000000 in
set_option maxRecDepth 100000 in
theorem w_X2_inForce_42 {σ : SS} {x1 : Int32} {x3 : Int32} (C : Cx p l s m args meth c cX2_inForce 4 wsX2_inForce (some .int) RX2 g A) {k4 : SS → (Int32 × Int32 × Int32) → Option (Int32)} (hk4 : ∀ (σ1 : SS) (x : Int32 × Int32 × Int32), σ1 = σ → k4 σ1 x = some R → ∀ (H : Heap) (locs : List Loc) (ls : Array Slot), Aw g A s.heap (wX g σ) H locs → lv_has ls 4 [(0, .ref (g.2.1 3)), (1, .int x.1), (2, .int x.2.1), (3, .int x.2.2)] → W p l e rmX2_inForce s m args below meth c H locs 0 0 (MQ below (Qi g A (wX g σ) R) args s 0 0 A) (F0 m 4 ls [])) (h : f_X2_inForce_42 fu k4 σ x1 x3 = some R) {H : Heap} {locs : List Loc} {ls : Array Slot} (hA : Aw g A s.heap (wX g σ) H locs) (hl : lv_has ls 4 [(0, .ref (g.2.1 3)), (1, .int x1), (3, .int x3)]) : W p l e rmX2_inForce s m args below meth c H locs 0 0 (MQ below (Qi g A (wX g σ) R) args s 0 0 A) (F0 m 42 ls []) := by
  have hx := C.1.1
  have hb := C.1.2.1
  unfold f_X2_inForce_42 at h
  refine lv_iload_n hx hb dX2_inForce_42 rfl (lv_at hl 2 rfl) ?_
  refine lv_istore_n (lv' := [(2, .int x3), (0, .ref (g.2.1 3)), (1, .int x1), (3, .int x3)]) hx hb dX2_inForce_43 rfl hl (by decide) rfl (fun ls hl => ?_)
  exact w_X2_inForce_44 C hk4 h hA (lv_sub hl [1, 2, 0, 3] rfl)
set_option maxHeartbeats 4000000 in
set_option maxRecDepth 100000 in
theorem w_X2_inForce_4 {σ : SS} {x1 : Int32} {x2 : Int32} {x3 : Int32} (C : Cx p l s m args meth c cX2_inForce 4 wsX2_inForce (some .int) RX2 g A) {k4 : SS → (Int32 × Int32 × Int32) → Option (Int32)} (hk4 : ∀ (σ1 : SS) (x : Int32 × Int32 × Int32), σ1 = σ → k4 σ1 x = some R → ∀ (H : Heap) (locs : List Loc) (ls : Array Slot), Aw g A s.heap (wX g σ) H locs → lv_has ls 4 [(0, .ref (g.2.1 3)), (1, .int x.1), (2, .int x.2.1), (3, .int x.2.2)] → W p l e rmX2_inForce s m args below meth c H locs 0 0 (MQ below (Qi g A (wX g σ) R) args s 0 0 A) (F0 m 4 ls [])) (h : f_X2_inForce_4 fu k4 σ x1 x2 x3 = some R) {H : Heap} {locs : List Loc} {ls : Array Slot} (hA : Aw g A s.heap (wX g σ) H locs) (hl : lv_has ls 4 [(0, .ref (g.2.1 3)), (1, .int x1), (2, .int x2), (3, .int x3)]) : W p l e rmX2_inForce s m args below meth c H locs 0 0 (MQ below (Qi g A (wX g σ) R) args s 0 0 A) (F0 m 4 ls []) := by
  have hx := C.1.1
  have hb := C.1.2.1
  unfold f_X2_inForce_4 at h
  refine lv_iload_n hx hb dX2_inForce_4 rfl (lv_at hl 3 rfl) ?_
  refine lv_aload_n hx hb dX2_inForce_5 rfl (lv_at hl 0 rfl) ?_
  refine Xg_X2_size (v := (σ.1 13)) C hA rfl iX2_inForce_X2 (by decide +kernel) dX2_inForce_6 ?_
  refine lv_icmp_ge (tgt := 50) hx hb dX2_inForce_9 (by decide) (fun c1 => ?_) (fun c1 => ?_)
  · replace h := (if_pos c1).symm.trans h
    refine lv_iload_n hx hb dX2_inForce_50 rfl (lv_at hl 2 rfl) ?_
    obtain rfl := Option.some.inj h
    exact r_iret C hA dX2_inForce_51
  · replace h := (if_neg c1).symm.trans h
    refine lv_aload_n hx hb dX2_inForce_12 rfl (lv_at hl 0 rfl) ?_
    refine Xg_X2_fromYear C hA iX2_inForce_X2 (by decide +kernel) dX2_inForce_13 ?_
    refine lv_iload_n hx hb dX2_inForce_16 rfl (lv_at hl 3 rfl) ?_
    obtain ⟨g2, h⟩ := gd h
    refine Xld_12 (v := (σ.2.1 12 (x3).toNatClampNeg)) C hA rfl g2 dX2_inForce_17 ?_
    refine lv_iload_n hx hb dX2_inForce_18 rfl (lv_at hl 1 rfl) ?_
    refine lv_icmp_gt (tgt := 44) hx hb dX2_inForce_19 (by decide) (fun c3 => ?_) (fun c3 => ?_)
    · replace h := (if_pos c3).symm.trans h
      exact w_X2_inForce_44 C hk4 h hA (lv_sub hl [0, 1, 2, 3] rfl)
    · replace h := (if_neg c3).symm.trans h
      refine lv_iload_n hx hb dX2_inForce_22 rfl (lv_at hl 2 rfl) ?_
      refine lv_iconst (v := (-1)) hx hb dX2_inForce_23 (by decide) ?_
      refine lv_icmp_eq (tgt := 42) hx hb dX2_inForce_24 (by decide) (fun c4 => ?_) (fun c4 => ?_)
      · replace h := (if_pos c4).symm.trans h
        exact w_X2_inForce_42 C hk4 h hA (lv_sub hl [0, 1, 3] rfl)
      · replace h := (if_neg c4).symm.trans h
        refine lv_aload_n hx hb dX2_inForce_27 rfl (lv_at hl 0 rfl) ?_
        refine Xg_X2_fromYear C hA iX2_inForce_X2 (by decide +kernel) dX2_inForce_28 ?_
        refine lv_iload_n hx hb dX2_inForce_31 rfl (lv_at hl 3 rfl) ?_
        refine Xld_12 (v := (σ.2.1 12 (x3).toNatClampNeg)) C hA rfl g2 dX2_inForce_32 ?_
        refine lv_aload_n hx hb dX2_inForce_33 rfl (lv_at hl 0 rfl) ?_
        refine Xg_X2_fromYear C hA iX2_inForce_X2 (by decide +kernel) dX2_inForce_34 ?_
        refine lv_iload_n hx hb dX2_inForce_37 rfl (lv_at hl 2 rfl) ?_
        obtain ⟨g5, h⟩ := gd h
        refine Xld_12 (v := (σ.2.1 12 (x2).toNatClampNeg)) C hA rfl g5 dX2_inForce_38 ?_
        refine lv_icmp_lt (tgt := 44) hx hb dX2_inForce_39 (by decide) (fun c6 => ?_) (fun c6 => ?_)
        · replace h := (if_pos c6).symm.trans h
          exact w_X2_inForce_44 C hk4 h hA (lv_sub hl [0, 1, 2, 3] rfl)
        · replace h := (if_neg c6).symm.trans h
          exact w_X2_inForce_42 C hk4 h hA (lv_sub hl [0, 1, 3] rfl)
set_option maxHeartbeats 4000000 in
theorem w_X2_inForce_L4 {σ : SS} {x : Int32 × Int32 × Int32} (C : Cx p l s m args meth c cX2_inForce 4 wsX2_inForce (some .int) RX2 g A) (h : f_X2_inForce_L4 fu σ x = some R) {H : Heap} {locs : List Loc} {ls : Array Slot} (hA : Aw g A s.heap (wX g σ) H locs) (hl : lv_has ls 4 [(0, .ref (g.2.1 3)), (1, .int x.1), (2, .int x.2.1), (3, .int x.2.2)]) : W p l e rmX2_inForce s m args below meth c H locs 0 0 (MQ below (Qi g A (wX g σ) R) args s 0 0 A) (F0 m 4 ls []) := by
  refine loopW (P := fun σ1 x => σ1 = σ → ∀ (H : Heap) (locs : List Loc) (ls : Array Slot), Aw g A s.heap (wX g σ) H locs → lv_has ls 4 [(0, .ref (g.2.1 3)), (1, .int x.1), (2, .int x.2.1), (3, .int x.2.2)] → W p l e rmX2_inForce s m args below meth c H locs 0 0 (MQ below (Qi g A (wX g σ) R) args s 0 0 A) (F0 m 4 ls [])) (fun k hk σ1 x h9 e1 H locs ls hA9 hl9 => ?_) fu σ x h rfl H locs ls hA hl
  subst e1
  exact w_X2_inForce_4 C (fun σ2 x e2 h2 => hk σ2 x h2 e2) h9 hA9 hl9
set_option maxHeartbeats 4000000 in
set_option maxRecDepth 100000 in
theorem w_X2_inForce_0 {σ : SS} {x1 : Int32} (C : Cx p l s m args meth c cX2_inForce 4 wsX2_inForce (some .int) RX2 g A) (h : f_X2_inForce fu σ x1 = some R) {H : Heap} {locs : List Loc} {ls : Array Slot} (hA : Aw g A s.heap (wX g σ) H locs) (hl : lv_has ls 4 [(0, .ref (g.2.1 3)), (1, .int x1)]) : W p l e rmX2_inForce s m args below meth c H locs 0 0 (MQ below (Qi g A (wX g σ) R) args s 0 0 A) (F0 m 0 ls []) := by
  have hx := C.1.1
  have hb := C.1.2.1
  unfold f_X2_inForce at h
  refine lv_iconst (v := (-1)) hx hb dX2_inForce_0 (by decide) ?_
  refine lv_istore_n (lv' := [(2, .int (-1)), (0, .ref (g.2.1 3)), (1, .int x1)]) hx hb dX2_inForce_1 rfl hl (by decide) rfl (fun ls hl => ?_)
  refine lv_iconst (v := 0) hx hb dX2_inForce_2 (by decide) ?_
  refine lv_istore_n (lv' := [(3, .int (0 : Int32)), (2, .int (-1)), (0, .ref (g.2.1 3)), (1, .int x1)]) hx hb dX2_inForce_3 rfl hl (by decide) rfl (fun ls hl => ?_)
  exact w_X2_inForce_L4 C h hA (lv_sub hl [2, 3, 1, 0] rfl)
end
set_option maxRecDepth 100000 in
theorem k_X2_inForce {l : Launch} {g : Gm} {fu : Nat} {σ : SS} {x1 : Int32} {R : Int32} (hlt : l.stackTraces = false) (h : f_X2_inForce fu σ x1 = some R) (sz : Nat) : Met l yX2_inForce wsX2_inForce rmX2_inForce (Pw g (wX g σ) [.ref (g.2.1 3), .int x1] sz) (Qi g (va_A (wX g σ) sz) (wX g σ) R) 0 0 (va_A (wX g σ) sz) :=
  ofM (own := RX2) hlt (by decide) rfl rfl (Nat.le_of_ble_eq_true rfl) (fun p e s m below meth c hsz C hA ls hl => w_X2_inForce_0 C h hA hl)
abbrev rmX2_witnessShare : Room := { frames := 0, cells := 0, slots := 0, locals := 0 }
theorem iX2_witnessShare_X2 : ∀ x ∈ wsX20, x ∈ wsX2_witnessShare := by decide +kernel
theorem nd_X2_witnessShare : yX2_witnessShare.cls = RX2 ∧ yX2_witnessShare.cls ≠ "java/lang/invoke/MethodHandle" ∧ yX2_witnessShare.cls ≠ "java/lang/invoke/VarHandle" ∧ (parseMethodDescriptor yX2_witnessShare.desc).map (fun d => d.parameters.length) = some 1 := by decide +kernel
def f_X2_witnessShare (fu : Nat) (σ : SS) (x1 : Int32) : Option (Int32) :=
  (if x1 = (-1) then some (0 : Int32) else if inB x1 20 then some (σ.2.1 18 (x1).toNatClampNeg) else none)
section
variable {p : Program} {l : Launch} {e : Env} {s : State} {m : MethodId} {args : Array Value} {below : List Frame} {meth : Method} {c : Code} {g : Gm} {A : Nat → Prop} {fu : Nat} {R : Int32}
set_option maxHeartbeats 4000000 in
set_option maxRecDepth 100000 in
theorem w_X2_witnessShare_0 {σ : SS} {x1 : Int32} (C : Cx p l s m args meth c cX2_witnessShare 2 wsX2_witnessShare (some .int) RX2 g A) (h : f_X2_witnessShare fu σ x1 = some R) {H : Heap} {locs : List Loc} {ls : Array Slot} (hA : Aw g A s.heap (wX g σ) H locs) (hl : lv_has ls 2 [(0, .ref (g.2.1 3)), (1, .int x1)]) : W p l e rmX2_witnessShare s m args below meth c H locs 0 0 (MQ below (Qi g A (wX g σ) R) args s 0 0 A) (F0 m 0 ls []) := by
  have hx := C.1.1
  have hb := C.1.2.1
  unfold f_X2_witnessShare at h
  refine lv_iload_n hx hb dX2_witnessShare_0 rfl (lv_at hl 1 rfl) ?_
  refine lv_iconst (v := (-1)) hx hb dX2_witnessShare_1 (by decide) ?_
  refine lv_icmp_ne (tgt := 9) hx hb dX2_witnessShare_2 (by decide) (fun c1 => ?_) (fun c1 => ?_)
  · replace h := (if_neg c1).symm.trans h
    refine lv_aload_n hx hb dX2_witnessShare_9 rfl (lv_at hl 0 rfl) ?_
    refine Xg_X2_witness C hA iX2_witnessShare_X2 (by decide +kernel) dX2_witnessShare_10 ?_
    refine lv_iload_n hx hb dX2_witnessShare_13 rfl (lv_at hl 1 rfl) ?_
    obtain ⟨g2, h⟩ := gd h
    refine Xld_18 (v := (σ.2.1 18 (x1).toNatClampNeg)) C hA rfl g2 dX2_witnessShare_14 ?_
    obtain rfl := Option.some.inj h
    exact r_iret C hA dX2_witnessShare_15
  · replace h := (if_pos c1).symm.trans h
    refine lv_iconst (v := 0) hx hb dX2_witnessShare_5 (by decide) ?_
    refine lv_goto (tgt := 15) hx hb dX2_witnessShare_6 (by decide) ?_
    obtain rfl := Option.some.inj h
    exact r_iret C hA dX2_witnessShare_15
end
set_option maxRecDepth 100000 in
theorem k_X2_witnessShare {l : Launch} {g : Gm} {fu : Nat} {σ : SS} {x1 : Int32} {R : Int32} (hlt : l.stackTraces = false) (h : f_X2_witnessShare fu σ x1 = some R) (sz : Nat) : Met l yX2_witnessShare wsX2_witnessShare rmX2_witnessShare (Pw g (wX g σ) [.ref (g.2.1 3), .int x1] sz) (Qi g (va_A (wX g σ) sz) (wX g σ) R) 0 0 (va_A (wX g σ) sz) :=
  ofM (own := RX2) hlt (by decide) rfl rfl (Nat.le_of_ble_eq_true rfl) (fun p e s m below meth c hsz C hA ls hl => w_X2_witnessShare_0 C h hA hl)
abbrev rmX2_yearsToAnswer : Room := { frames := 0, cells := 0, slots := 0, locals := 0 }
theorem iX2_yearsToAnswer_X2 : ∀ x ∈ wsX20, x ∈ wsX2_yearsToAnswer := by decide +kernel
theorem nd_X2_yearsToAnswer : yX2_yearsToAnswer.cls = RX2 ∧ yX2_yearsToAnswer.cls ≠ "java/lang/invoke/MethodHandle" ∧ yX2_yearsToAnswer.cls ≠ "java/lang/invoke/VarHandle" ∧ (parseMethodDescriptor yX2_yearsToAnswer.desc).map (fun d => d.parameters.length) = some 1 := by decide +kernel
def f_X2_yearsToAnswer (fu : Nat) (σ : SS) (x1 : Int32) : Option (Int32) :=
  (if x1 = (-1) then some (0 : Int32) else if inB x1 20 then some (σ.2.1 15 (x1).toNatClampNeg) else none)
section
variable {p : Program} {l : Launch} {e : Env} {s : State} {m : MethodId} {args : Array Value} {below : List Frame} {meth : Method} {c : Code} {g : Gm} {A : Nat → Prop} {fu : Nat} {R : Int32}
set_option maxHeartbeats 4000000 in
set_option maxRecDepth 100000 in
theorem w_X2_yearsToAnswer_0 {σ : SS} {x1 : Int32} (C : Cx p l s m args meth c cX2_yearsToAnswer 2 wsX2_yearsToAnswer (some .int) RX2 g A) (h : f_X2_yearsToAnswer fu σ x1 = some R) {H : Heap} {locs : List Loc} {ls : Array Slot} (hA : Aw g A s.heap (wX g σ) H locs) (hl : lv_has ls 2 [(0, .ref (g.2.1 3)), (1, .int x1)]) : W p l e rmX2_yearsToAnswer s m args below meth c H locs 0 0 (MQ below (Qi g A (wX g σ) R) args s 0 0 A) (F0 m 0 ls []) := by
  have hx := C.1.1
  have hb := C.1.2.1
  unfold f_X2_yearsToAnswer at h
  refine lv_iload_n hx hb dX2_yearsToAnswer_0 rfl (lv_at hl 1 rfl) ?_
  refine lv_iconst (v := (-1)) hx hb dX2_yearsToAnswer_1 (by decide) ?_
  refine lv_icmp_ne (tgt := 9) hx hb dX2_yearsToAnswer_2 (by decide) (fun c1 => ?_) (fun c1 => ?_)
  · replace h := (if_neg c1).symm.trans h
    refine lv_aload_n hx hb dX2_yearsToAnswer_9 rfl (lv_at hl 0 rfl) ?_
    refine Xg_X2_within C hA iX2_yearsToAnswer_X2 (by decide +kernel) dX2_yearsToAnswer_10 ?_
    refine lv_iload_n hx hb dX2_yearsToAnswer_13 rfl (lv_at hl 1 rfl) ?_
    obtain ⟨g2, h⟩ := gd h
    refine Xld_15 (v := (σ.2.1 15 (x1).toNatClampNeg)) C hA rfl g2 dX2_yearsToAnswer_14 ?_
    obtain rfl := Option.some.inj h
    exact r_iret C hA dX2_yearsToAnswer_15
  · replace h := (if_pos c1).symm.trans h
    refine lv_iconst (v := 0) hx hb dX2_yearsToAnswer_5 (by decide) ?_
    refine lv_goto (tgt := 15) hx hb dX2_yearsToAnswer_6 (by decide) ?_
    obtain rfl := Option.some.inj h
    exact r_iret C hA dX2_yearsToAnswer_15
end
set_option maxRecDepth 100000 in
theorem k_X2_yearsToAnswer {l : Launch} {g : Gm} {fu : Nat} {σ : SS} {x1 : Int32} {R : Int32} (hlt : l.stackTraces = false) (h : f_X2_yearsToAnswer fu σ x1 = some R) (sz : Nat) : Met l yX2_yearsToAnswer wsX2_yearsToAnswer rmX2_yearsToAnswer (Pw g (wX g σ) [.ref (g.2.1 3), .int x1] sz) (Qi g (va_A (wX g σ) sz) (wX g σ) R) 0 0 (va_A (wX g σ) sz) :=
  ofM (own := RX2) hlt (by decide) rfl rfl (Nat.le_of_ble_eq_true rfl) (fun p e s m below meth c hsz C hA ls hl => w_X2_yearsToAnswer_0 C h hA hl)
abbrev rmX2_askedFor : Room := { frames := 1, cells := 0, slots := 0, locals := 30 }
theorem iX2_askedFor_X2 : ∀ x ∈ wsX20, x ∈ wsX2_askedFor := by decide +kernel
theorem nd_X2_askedFor : yX2_askedFor.cls = RX2 ∧ yX2_askedFor.cls ≠ "java/lang/invoke/MethodHandle" ∧ yX2_askedFor.cls ≠ "java/lang/invoke/VarHandle" ∧ (parseMethodDescriptor yX2_askedFor.desc).map (fun d => d.parameters.length) = some 2 := by decide +kernel
def f_X2_askedFor_15 (fu : Nat) (σ : SS) (x1 : Int32) (x2 : Int64) (y0 : Int32) : Option (Int32) :=
  (if y0 = 0 then some (0 : Int32) else if inB x1 20 then if ¬ (y0).toInt64 = 0 then some ((if (1000000000 : Int64) < ((((x2 * ((σ.2.1 13 (x1).toNatClampNeg)).toInt64) + (y0).toInt64) - (1 : Int64)) / (y0).toInt64) then (1000000000 : Int64) else ((((x2 * ((σ.2.1 13 (x1).toNatClampNeg)).toInt64) + (y0).toInt64) - (1 : Int64)) / (y0).toInt64))).toInt32 else none else none)
def f_X2_askedFor (fu : Nat) (σ : SS) (x1 : Int32) (x2 : Int64) : Option (Int32) :=
  (if x1 = (-1) then f_X2_askedFor_15 fu σ x1 x2 (0 : Int32) else if inB x1 20 then f_X2_askedFor_15 fu σ x1 x2 (σ.2.1 14 (x1).toNatClampNeg) else none)
section
variable {p : Program} {l : Launch} {e : Env} {s : State} {m : MethodId} {args : Array Value} {below : List Frame} {meth : Method} {c : Code} {g : Gm} {A : Nat → Prop} {fu : Nat} {R : Int32}
set_option maxHeartbeats 4000000 in
set_option maxRecDepth 100000 in
theorem w_X2_askedFor_15 {σ : SS} {x1 : Int32} {x2 : Int64} {y0 : Int32} (C : Cx p l s m args meth c cX2_askedFor 7 wsX2_askedFor (some .int) RX2 g A) (h : f_X2_askedFor_15 fu σ x1 x2 y0 = some R) {H : Heap} {locs : List Loc} {ls : Array Slot} (hA : Aw g A s.heap (wX g σ) H locs) (hl : lv_has ls 7 [(0, .ref (g.2.1 3)), (1, .int x1), (2, .long x2)]) : W p l e rmX2_askedFor s m args below meth c H locs 0 0 (MQ below (Qi g A (wX g σ) R) args s 0 0 A) (F0 m 15 ls [.int y0]) := by
  have hx := C.1.1
  have hb := C.1.2.1
  unfold f_X2_askedFor_15 at h
  refine lv_istore (lv' := [(4, .int y0), (0, .ref (g.2.1 3)), (1, .int x1), (2, .long x2)]) hx hb dX2_askedFor_15 hl (by decide) rfl (fun ls hl => ?_)
  refine lv_iload hx hb dX2_askedFor_17 (lv_at hl 0 rfl) ?_
  refine lv_if_ne (tgt := 24) hx hb dX2_askedFor_19 (by decide) (fun c1 => ?_) (fun c1 => ?_)
  · replace h := (if_neg c1).symm.trans h
    refine lv_lload_n hx hb dX2_askedFor_24 rfl (lv_at hl 3 rfl) ?_
    refine lv_aload_n hx hb dX2_askedFor_25 rfl (lv_at hl 1 rfl) ?_
    refine Xg_X2_returnTimes C hA iX2_askedFor_X2 (by decide +kernel) dX2_askedFor_26 ?_
    refine lv_iload_n hx hb dX2_askedFor_29 rfl (lv_at hl 2 rfl) ?_
    obtain ⟨g2, h⟩ := gd h
    refine Xld_13 (v := (σ.2.1 13 (x1).toNatClampNeg)) C hA rfl g2 dX2_askedFor_30 ?_
    refine lv_i2l hx hb dX2_askedFor_31 rfl ?_
    refine lv_lmul hx hb dX2_askedFor_32 ?_
    refine lv_iload hx hb dX2_askedFor_33 (lv_at hl 0 rfl) ?_
    refine lv_i2l hx hb dX2_askedFor_35 rfl ?_
    refine lv_ladd hx hb dX2_askedFor_36 ?_
    refine lv_lconst (v := 1) hx hb dX2_askedFor_37 (by decide) ?_
    refine lv_lsub hx hb dX2_askedFor_38 ?_
    refine lv_iload hx hb dX2_askedFor_39 (lv_at hl 0 rfl) ?_
    refine lv_i2l hx hb dX2_askedFor_41 rfl ?_
    obtain ⟨g3, h⟩ := gd h
    refine lv_ldiv hx hb dX2_askedFor_42 g3 ?_
    refine lv_lstore (lv' := [(5, .long ((((x2 * ((σ.2.1 13 (x1).toNatClampNeg)).toInt64) + (y0).toInt64) - (1 : Int64)) / (y0).toInt64)), (4, .int y0), (0, .ref (g.2.1 3)), (1, .int x1), (2, .long x2)]) hx hb dX2_askedFor_43 hl (by decide) rfl (fun ls hl => ?_)
    refine lv_lload hx hb dX2_askedFor_45 (lv_at hl 0 rfl) ?_
    refine lv_ldc2 (v := 1000000000) hx hb C.1.2.2.2.1 (C.1.2.2.2.2 (.constantLong RX2 51 (1000000000)) (by decide +kernel)) dX2_askedFor_47 ?_
    refine va_mmin_long (rest := []) hx hb (C.1.2.2.1.trans hl.1.symm) C.1.2.2.2.1 (C.1.2.2.2.2 (.methodLink RX2 53 Lib.MathLoose.min_long.x) (by decide +kernel)) (C.1.2.2.2.2 (.static Lib.MathLoose.min_long.x) (by decide +kernel)) (C.1.2.2.2.2 (.initialized "java/lang/Math") (by decide +kernel)) (C.1.2.2.2.2 (.code Lib.MathLoose.min_long.x Lib.MathLoose.min_long.code 4 (some .long)) (by decide +kernel)) (Nat.le_of_ble_eq_true rfl) (Nat.le_of_ble_eq_true rfl) (Nat.le_of_ble_eq_true rfl) (Nat.le_of_ble_eq_true rfl) dX2_askedFor_50 ?_
    refine lv_l2i hx hb dX2_askedFor_53 rfl ?_
    obtain rfl := Option.some.inj h
    exact r_iret C hA dX2_askedFor_54
  · replace h := (if_pos c1).symm.trans h
    refine lv_iconst (v := 0) hx hb dX2_askedFor_22 (by decide) ?_
    obtain rfl := Option.some.inj h
    exact r_iret C hA dX2_askedFor_23
set_option maxHeartbeats 4000000 in
set_option maxRecDepth 100000 in
theorem w_X2_askedFor_0 {σ : SS} {x1 : Int32} {x2 : Int64} (C : Cx p l s m args meth c cX2_askedFor 7 wsX2_askedFor (some .int) RX2 g A) (h : f_X2_askedFor fu σ x1 x2 = some R) {H : Heap} {locs : List Loc} {ls : Array Slot} (hA : Aw g A s.heap (wX g σ) H locs) (hl : lv_has ls 7 [(0, .ref (g.2.1 3)), (1, .int x1), (2, .long x2)]) : W p l e rmX2_askedFor s m args below meth c H locs 0 0 (MQ below (Qi g A (wX g σ) R) args s 0 0 A) (F0 m 0 ls []) := by
  have hx := C.1.1
  have hb := C.1.2.1
  unfold f_X2_askedFor at h
  refine lv_iload_n hx hb dX2_askedFor_0 rfl (lv_at hl 1 rfl) ?_
  refine lv_iconst (v := (-1)) hx hb dX2_askedFor_1 (by decide) ?_
  refine lv_icmp_ne (tgt := 9) hx hb dX2_askedFor_2 (by decide) (fun c1 => ?_) (fun c1 => ?_)
  · replace h := (if_neg c1).symm.trans h
    refine lv_aload_n hx hb dX2_askedFor_9 rfl (lv_at hl 0 rfl) ?_
    refine Xg_X2_returnBy C hA iX2_askedFor_X2 (by decide +kernel) dX2_askedFor_10 ?_
    refine lv_iload_n hx hb dX2_askedFor_13 rfl (lv_at hl 1 rfl) ?_
    obtain ⟨g2, h⟩ := gd h
    refine Xld_14 (v := (σ.2.1 14 (x1).toNatClampNeg)) C hA rfl g2 dX2_askedFor_14 ?_
    exact w_X2_askedFor_15 C h hA (lv_sub hl [0, 1, 2] rfl)
  · replace h := (if_pos c1).symm.trans h
    refine lv_iconst (v := 0) hx hb dX2_askedFor_5 (by decide) ?_
    refine lv_goto (tgt := 15) hx hb dX2_askedFor_6 (by decide) ?_
    exact w_X2_askedFor_15 C h hA (lv_sub hl [0, 1, 2] rfl)
end
set_option maxRecDepth 100000 in
theorem k_X2_askedFor {l : Launch} {g : Gm} {fu : Nat} {σ : SS} {x1 : Int32} {x2 : Int64} {R : Int32} (hlt : l.stackTraces = false) (h : f_X2_askedFor fu σ x1 x2 = some R) (sz : Nat) : Met l yX2_askedFor wsX2_askedFor rmX2_askedFor (Pw g (wX g σ) [.ref (g.2.1 3), .int x1, .long x2] sz) (Qi g (va_A (wX g σ) sz) (wX g σ) R) 0 0 (va_A (wX g σ) sz) :=
  ofM (own := RX2) hlt (by decide) rfl rfl (Nat.le_of_ble_eq_true rfl) (fun p e s m below meth c hsz C hA ls hl => w_X2_askedFor_0 C h hA hl)
abbrev rmX2_grown : Room := { frames := 1, cells := 0, slots := 0, locals := 30 }
theorem iX2_grown_X2 : ∀ x ∈ wsX20, x ∈ wsX2_grown := by decide +kernel
theorem nd_X2_grown : yX2_grown.cls = RX2 ∧ yX2_grown.cls ≠ "java/lang/invoke/MethodHandle" ∧ yX2_grown.cls ≠ "java/lang/invoke/VarHandle" ∧ (parseMethodDescriptor yX2_grown.desc).map (fun d => d.parameters.length) = some 2 := by decide +kernel
def f_X2_grown_15 (fu : Nat) (σ : SS) (x1 : Int32) (x2 : Int32) (y0 : Int32) : Option (Int32) :=
  (if y0 = 0 then some x2 else if inB x1 20 then if ¬ (y0).toInt64 = 0 then some ((if (1000000000 : Int64) < ((x2).toInt64 + (((x2).toInt64 * ((σ.2.1 16 (x1).toNatClampNeg)).toInt64) / (y0).toInt64)) then (1000000000 : Int64) else ((x2).toInt64 + (((x2).toInt64 * ((σ.2.1 16 (x1).toNatClampNeg)).toInt64) / (y0).toInt64)))).toInt32 else none else none)
def f_X2_grown (fu : Nat) (σ : SS) (x1 : Int32) (x2 : Int32) : Option (Int32) :=
  (if x1 = (-1) then f_X2_grown_15 fu σ x1 x2 (0 : Int32) else if inB x1 20 then f_X2_grown_15 fu σ x1 x2 (σ.2.1 17 (x1).toNatClampNeg) else none)
section
variable {p : Program} {l : Launch} {e : Env} {s : State} {m : MethodId} {args : Array Value} {below : List Frame} {meth : Method} {c : Code} {g : Gm} {A : Nat → Prop} {fu : Nat} {R : Int32}
set_option maxHeartbeats 4000000 in
set_option maxRecDepth 100000 in
theorem w_X2_grown_15 {σ : SS} {x1 : Int32} {x2 : Int32} {y0 : Int32} (C : Cx p l s m args meth c cX2_grown 6 wsX2_grown (some .int) RX2 g A) (h : f_X2_grown_15 fu σ x1 x2 y0 = some R) {H : Heap} {locs : List Loc} {ls : Array Slot} (hA : Aw g A s.heap (wX g σ) H locs) (hl : lv_has ls 6 [(0, .ref (g.2.1 3)), (1, .int x1), (2, .int x2)]) : W p l e rmX2_grown s m args below meth c H locs 0 0 (MQ below (Qi g A (wX g σ) R) args s 0 0 A) (F0 m 15 ls [.int y0]) := by
  have hx := C.1.1
  have hb := C.1.2.1
  unfold f_X2_grown_15 at h
  refine lv_istore_n (lv' := [(3, .int y0), (0, .ref (g.2.1 3)), (1, .int x1), (2, .int x2)]) hx hb dX2_grown_15 rfl hl (by decide) rfl (fun ls hl => ?_)
  refine lv_iload_n hx hb dX2_grown_16 rfl (lv_at hl 0 rfl) ?_
  refine lv_if_ne (tgt := 22) hx hb dX2_grown_17 (by decide) (fun c1 => ?_) (fun c1 => ?_)
  · replace h := (if_neg c1).symm.trans h
    refine lv_iload_n hx hb dX2_grown_22 rfl (lv_at hl 3 rfl) ?_
    refine lv_i2l hx hb dX2_grown_23 rfl ?_
    refine lv_aload_n hx hb dX2_grown_24 rfl (lv_at hl 1 rfl) ?_
    refine Xg_X2_loanTimes C hA iX2_grown_X2 (by decide +kernel) dX2_grown_25 ?_
    refine lv_iload_n hx hb dX2_grown_28 rfl (lv_at hl 2 rfl) ?_
    obtain ⟨g2, h⟩ := gd h
    refine Xld_16 (v := (σ.2.1 16 (x1).toNatClampNeg)) C hA rfl g2 dX2_grown_29 ?_
    refine lv_i2l hx hb dX2_grown_30 rfl ?_
    refine lv_lmul hx hb dX2_grown_31 ?_
    refine lv_iload_n hx hb dX2_grown_32 rfl (lv_at hl 0 rfl) ?_
    refine lv_i2l hx hb dX2_grown_33 rfl ?_
    obtain ⟨g3, h⟩ := gd h
    refine lv_ldiv hx hb dX2_grown_34 g3 ?_
    refine lv_lstore (lv' := [(4, .long (((x2).toInt64 * ((σ.2.1 16 (x1).toNatClampNeg)).toInt64) / (y0).toInt64)), (3, .int y0), (0, .ref (g.2.1 3)), (1, .int x1), (2, .int x2)]) hx hb dX2_grown_35 hl (by decide) rfl (fun ls hl => ?_)
    refine lv_iload_n hx hb dX2_grown_37 rfl (lv_at hl 4 rfl) ?_
    refine lv_i2l hx hb dX2_grown_38 rfl ?_
    refine lv_lload hx hb dX2_grown_39 (lv_at hl 0 rfl) ?_
    refine lv_ladd hx hb dX2_grown_41 ?_
    refine lv_ldc2 (v := 1000000000) hx hb C.1.2.2.2.1 (C.1.2.2.2.2 (.constantLong RX2 51 (1000000000)) (by decide +kernel)) dX2_grown_42 ?_
    refine va_mmin_long (rest := []) hx hb (C.1.2.2.1.trans hl.1.symm) C.1.2.2.2.1 (C.1.2.2.2.2 (.methodLink RX2 53 Lib.MathLoose.min_long.x) (by decide +kernel)) (C.1.2.2.2.2 (.static Lib.MathLoose.min_long.x) (by decide +kernel)) (C.1.2.2.2.2 (.initialized "java/lang/Math") (by decide +kernel)) (C.1.2.2.2.2 (.code Lib.MathLoose.min_long.x Lib.MathLoose.min_long.code 4 (some .long)) (by decide +kernel)) (Nat.le_of_ble_eq_true rfl) (Nat.le_of_ble_eq_true rfl) (Nat.le_of_ble_eq_true rfl) (Nat.le_of_ble_eq_true rfl) dX2_grown_45 ?_
    refine lv_l2i hx hb dX2_grown_48 rfl ?_
    obtain rfl := Option.some.inj h
    exact r_iret C hA dX2_grown_49
  · replace h := (if_pos c1).symm.trans h
    refine lv_iload_n hx hb dX2_grown_20 rfl (lv_at hl 3 rfl) ?_
    obtain rfl := Option.some.inj h
    exact r_iret C hA dX2_grown_21
set_option maxHeartbeats 4000000 in
set_option maxRecDepth 100000 in
theorem w_X2_grown_0 {σ : SS} {x1 : Int32} {x2 : Int32} (C : Cx p l s m args meth c cX2_grown 6 wsX2_grown (some .int) RX2 g A) (h : f_X2_grown fu σ x1 x2 = some R) {H : Heap} {locs : List Loc} {ls : Array Slot} (hA : Aw g A s.heap (wX g σ) H locs) (hl : lv_has ls 6 [(0, .ref (g.2.1 3)), (1, .int x1), (2, .int x2)]) : W p l e rmX2_grown s m args below meth c H locs 0 0 (MQ below (Qi g A (wX g σ) R) args s 0 0 A) (F0 m 0 ls []) := by
  have hx := C.1.1
  have hb := C.1.2.1
  unfold f_X2_grown at h
  refine lv_iload_n hx hb dX2_grown_0 rfl (lv_at hl 1 rfl) ?_
  refine lv_iconst (v := (-1)) hx hb dX2_grown_1 (by decide) ?_
  refine lv_icmp_ne (tgt := 9) hx hb dX2_grown_2 (by decide) (fun c1 => ?_) (fun c1 => ?_)
  · replace h := (if_neg c1).symm.trans h
    refine lv_aload_n hx hb dX2_grown_9 rfl (lv_at hl 0 rfl) ?_
    refine Xg_X2_loanBy C hA iX2_grown_X2 (by decide +kernel) dX2_grown_10 ?_
    refine lv_iload_n hx hb dX2_grown_13 rfl (lv_at hl 1 rfl) ?_
    obtain ⟨g2, h⟩ := gd h
    refine Xld_17 (v := (σ.2.1 17 (x1).toNatClampNeg)) C hA rfl g2 dX2_grown_14 ?_
    exact w_X2_grown_15 C h hA (lv_sub hl [0, 1, 2] rfl)
  · replace h := (if_pos c1).symm.trans h
    refine lv_iconst (v := 0) hx hb dX2_grown_5 (by decide) ?_
    refine lv_goto (tgt := 15) hx hb dX2_grown_6 (by decide) ?_
    exact w_X2_grown_15 C h hA (lv_sub hl [0, 1, 2] rfl)
end
set_option maxRecDepth 100000 in
theorem k_X2_grown {l : Launch} {g : Gm} {fu : Nat} {σ : SS} {x1 : Int32} {x2 : Int32} {R : Int32} (hlt : l.stackTraces = false) (h : f_X2_grown fu σ x1 x2 = some R) (sz : Nat) : Met l yX2_grown wsX2_grown rmX2_grown (Pw g (wX g σ) [.ref (g.2.1 3), .int x1, .int x2] sz) (Qi g (va_A (wX g σ) sz) (wX g σ) R) 0 0 (va_A (wX g σ) sz) :=
  ofM (own := RX2) hlt (by decide) rfl rfl (Nat.le_of_ble_eq_true rfl) (fun p e s m below meth c hsz C hA ls hl => w_X2_grown_0 C h hA hl)

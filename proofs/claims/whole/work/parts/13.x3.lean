abbrev rmX4_callIn : Room := { frames := 1, cells := 0, slots := 0, locals := 21 }
theorem iX4_callIn_X0 : ∀ x ∈ wsX00, x ∈ wsX4_callIn := by decide +kernel
theorem iX4_callIn_X3 : ∀ x ∈ wsX30, x ∈ wsX4_callIn := by decide +kernel
theorem iX4_callIn_X4 : ∀ x ∈ wsX40, x ∈ wsX4_callIn := by decide +kernel
theorem nd_X4_callIn : yX4_callIn.cls = RX4 ∧ yX4_callIn.cls ≠ "java/lang/invoke/MethodHandle" ∧ yX4_callIn.cls ≠ "java/lang/invoke/VarHandle" ∧ (parseMethodDescriptor yX4_callIn.desc).map (fun d => d.parameters.length) = some 3 := by decide +kernel
def f_X4_callIn_121 (fu : Nat) (k61 : SS → (Int32 × Int32) → Option (Unit × SS)) (σ : SS) (x3 : Int32) (x4 : Int32) : Option (Unit × SS) :=
  k61 σ (x3, (x4 + 1))
def f_X4_callIn_90 (fu : Nat) (k61 : SS → (Int32 × Int32) → Option (Unit × SS)) (σ : SS) (x3 : Int32) (x4 : Int32) : Option (Unit × SS) :=
  if inB x4 400 then if inB (σ.2.1 22 (x4).toNatClampNeg) 12 then if inB (σ.2.1 23 (x4).toNatClampNeg) 12 then f_X4_callIn_121 fu k61 (sL σ (40 + ((σ.2.1 22 (x4).toNatClampNeg)).toNatClampNeg) ((σ.2.1 23 (x4).toNatClampNeg)).toNatClampNeg ((σ.2.2 (40 + ((σ.2.1 22 (x4).toNatClampNeg)).toNatClampNeg) ((σ.2.1 23 (x4).toNatClampNeg)).toNatClampNeg) + ((σ.2.1 24 (x4).toNatClampNeg)).toInt64)) x3 x4 else none else none else none
def f_X4_callIn_61 (fu : Nat) (k61 : SS → (Int32 × Int32) → Option (Unit × SS)) (σ : SS) (x3 : Int32) (x4 : Int32) : Option (Unit × SS) :=
  (if (σ.1 15) ≤ x4 then some ((), σ) else bnd1 (f_X3_isLoan fu σ x4) (fun r2 => (if r2 = 0 then if inB x4 400 then (if x3 < (σ.2.1 25 (x4).toNatClampNeg) then f_X4_callIn_121 fu k61 σ x3 x4 else f_X4_callIn_90 fu k61 σ x3 x4) else none else f_X4_callIn_90 fu k61 σ x3 x4)))
def f_X4_callIn_L61 (fu : Nat) : SS → (Int32 × Int32) → Option (Unit × SS) := loopN (fun k61 σ x => f_X4_callIn_61 fu k61 σ x.1 x.2) fu
def f_X4_callIn_28 (fu : Nat) (k3 : SS → (Int32 × Int32) → Option (Unit × SS)) (k28 : SS → (Int32 × Int32 × Int32) → Option (Unit × SS)) (σ : SS) (x3 : Int32) (x4 : Int32) (x5 : Int32) : Option (Unit × SS) :=
  (if (12 : Int32) ≤ x5 then k3 σ (x3, (x4 + 1)) else if inB x4 12 then if inB x5 12 then k28 (sL σ (40 + (x4).toNatClampNeg) (x5).toNatClampNeg (0 : Int64)) (x3, x4, (x5 + 1)) else none else none)
def f_X4_callIn_L28 (fu : Nat) (k3 : SS → (Int32 × Int32) → Option (Unit × SS)) : SS → (Int32 × Int32 × Int32) → Option (Unit × SS) := loopN (fun k28 σ x => f_X4_callIn_28 fu k3 k28 σ x.1 x.2.1 x.2.2) fu
def f_X4_callIn_3 (fu : Nat) (k3 : SS → (Int32 × Int32) → Option (Unit × SS)) (σ : SS) (x3 : Int32) (x4 : Int32) : Option (Unit × SS) :=
  (if (12 : Int32) ≤ x4 then f_X4_callIn_L61 fu σ (x3, (0 : Int32)) else if inB x4 12 then f_X4_callIn_L28 fu k3 (sL σ 29 (x4).toNatClampNeg ((σ.2.1 19 (x4).toNatClampNeg)).toInt64) (x3, x4, (0 : Int32)) else none)
def f_X4_callIn_L3 (fu : Nat) : SS → (Int32 × Int32) → Option (Unit × SS) := loopN (fun k3 σ x => f_X4_callIn_3 fu k3 σ x.1 x.2) fu
def f_X4_callIn (fu : Nat) (σ : SS) (x3 : Int32) : Option (Unit × SS) :=
  f_X4_callIn_L3 fu σ (x3, (0 : Int32))
section
variable {p : Program} {l : Launch} {e : Env} {s : State} {m : MethodId} {args : Array Value} {below : List Frame} {meth : Method} {c : Code} {g : Gm} {A : Nat → Prop} {fu : Nat} {R : Unit × SS}
set_option maxHeartbeats 4000000 in
set_option maxRecDepth 100000 in
theorem w_X4_callIn_121 {σ : SS} {x3 : Int32} {x4 : Int32} (C : Cx p l s m args meth c cX4_callIn 6 wsX4_callIn none RX4 g A) {k61 : SS → (Int32 × Int32) → Option (Unit × SS)} (hk61 : ∀ (σ : SS) (x : Int32 × Int32), k61 σ x = some R → ∀ (H : Heap) (locs : List Loc) (ls : Array Slot), Aw g A s.heap (wX g σ) H locs → lv_has ls 6 [(0, .ref (g.2.1 7)), (2, .ref (g.2.1 5)), (3, .int x.1), (4, .int x.2)] → W p l e rmX4_callIn s m args below meth c H locs 0 0 (MQ below (Qv g A (wX g R.2) R.1) args s 0 0 A) (F0 m 61 ls [])) (h : f_X4_callIn_121 fu k61 σ x3 x4 = some R) {H : Heap} {locs : List Loc} {ls : Array Slot} (hA : Aw g A s.heap (wX g σ) H locs) (hl : lv_has ls 6 [(0, .ref (g.2.1 7)), (2, .ref (g.2.1 5)), (3, .int x3), (4, .int x4)]) : W p l e rmX4_callIn s m args below meth c H locs 0 0 (MQ below (Qv g A (wX g R.2) R.1) args s 0 0 A) (F0 m 121 ls []) := by
  have hx := C.1.1
  have hb := C.1.2.1
  unfold f_X4_callIn_121 at h
  refine lv_iinc (v := (x4 + 1)) (lv' := [(4, .int (x4 + 1)), (0, .ref (g.2.1 7)), (2, .ref (g.2.1 5)), (3, .int x3)]) hx hb dX4_callIn_121 hl (k := 3) rfl rfl (by decide) rfl (fun ls hl => ?_)
  refine lv_goto (tgt := 61) hx hb dX4_callIn_124 (by decide) ?_
  exact hk61 _ _ h _ _ _ hA (lv_sub hl [1, 2, 3, 0] rfl)
set_option maxHeartbeats 4000000 in
set_option maxRecDepth 100000 in
theorem w_X4_callIn_90 {σ : SS} {x3 : Int32} {x4 : Int32} (C : Cx p l s m args meth c cX4_callIn 6 wsX4_callIn none RX4 g A) {k61 : SS → (Int32 × Int32) → Option (Unit × SS)} (hk61 : ∀ (σ : SS) (x : Int32 × Int32), k61 σ x = some R → ∀ (H : Heap) (locs : List Loc) (ls : Array Slot), Aw g A s.heap (wX g σ) H locs → lv_has ls 6 [(0, .ref (g.2.1 7)), (2, .ref (g.2.1 5)), (3, .int x.1), (4, .int x.2)] → W p l e rmX4_callIn s m args below meth c H locs 0 0 (MQ below (Qv g A (wX g R.2) R.1) args s 0 0 A) (F0 m 61 ls [])) (h : f_X4_callIn_90 fu k61 σ x3 x4 = some R) {H : Heap} {locs : List Loc} {ls : Array Slot} (hA : Aw g A s.heap (wX g σ) H locs) (hl : lv_has ls 6 [(0, .ref (g.2.1 7)), (2, .ref (g.2.1 5)), (3, .int x3), (4, .int x4)]) : W p l e rmX4_callIn s m args below meth c H locs 0 0 (MQ below (Qv g A (wX g R.2) R.1) args s 0 0 A) (F0 m 90 ls []) := by
  have hx := C.1.1
  have hb := C.1.2.1
  unfold f_X4_callIn_90 at h
  refine lv_aload_n hx hb dX4_callIn_90 rfl (lv_at hl 0 rfl) ?_
  refine Xg_X4_open C hA iX4_callIn_X4 (by decide +kernel) dX4_callIn_91 ?_
  refine lv_aload_n hx hb dX4_callIn_94 rfl (lv_at hl 1 rfl) ?_
  refine Xg_X3_debtor C hA iX4_callIn_X3 (by decide +kernel) dX4_callIn_95 ?_
  refine lv_iload hx hb dX4_callIn_98 (lv_at hl 3 rfl) ?_
  obtain ⟨g1, h⟩ := gd h
  refine Xld_22 (v := (σ.2.1 22 (x4).toNatClampNeg)) C hA rfl g1 dX4_callIn_100 ?_
  obtain ⟨g2, h⟩ := gd h
  refine Xld_mat C hA g2 dX4_callIn_101 ?_
  refine lv_aload_n hx hb dX4_callIn_102 rfl (lv_at hl 1 rfl) ?_
  refine Xg_X3_creditor C hA iX4_callIn_X3 (by decide +kernel) dX4_callIn_103 ?_
  refine lv_iload hx hb dX4_callIn_106 (lv_at hl 3 rfl) ?_
  refine Xld_23 (v := (σ.2.1 23 (x4).toNatClampNeg)) C hA rfl g1 dX4_callIn_108 ?_
  refine lv_dup2_11 hx hb dX4_callIn_109 rfl rfl ?_
  obtain ⟨g3, h⟩ := gd h
  refine Xld_row (v := (σ.2.2 (40 + ((σ.2.1 22 (x4).toNatClampNeg)).toNatClampNeg) ((σ.2.1 23 (x4).toNatClampNeg)).toNatClampNeg)) C hA (inB_nat g2) rfl g3 dX4_callIn_110 ?_
  refine lv_aload_n hx hb dX4_callIn_111 rfl (lv_at hl 1 rfl) ?_
  refine Xg_X3_left C hA iX4_callIn_X3 (by decide +kernel) dX4_callIn_112 ?_
  refine lv_iload hx hb dX4_callIn_115 (lv_at hl 3 rfl) ?_
  refine Xld_24 (v := (σ.2.1 24 (x4).toNatClampNeg)) C hA rfl g1 dX4_callIn_117 ?_
  refine lv_i2l hx hb dX4_callIn_118 rfl ?_
  refine lv_ladd hx hb dX4_callIn_119 ?_
  refine Xst_row C hA (inB_nat g2) g3 dX4_callIn_120 (fun H locs hA => ?_)
  exact w_X4_callIn_121 C hk61 h hA (lv_sub hl [0, 1, 2, 3] rfl)
set_option maxHeartbeats 4000000 in
set_option maxRecDepth 100000 in
theorem w_X4_callIn_61 {σ : SS} {x3 : Int32} {x4 : Int32} (C : Cx p l s m args meth c cX4_callIn 6 wsX4_callIn none RX4 g A) {k61 : SS → (Int32 × Int32) → Option (Unit × SS)} (hk61 : ∀ (σ : SS) (x : Int32 × Int32), k61 σ x = some R → ∀ (H : Heap) (locs : List Loc) (ls : Array Slot), Aw g A s.heap (wX g σ) H locs → lv_has ls 6 [(0, .ref (g.2.1 7)), (2, .ref (g.2.1 5)), (3, .int x.1), (4, .int x.2)] → W p l e rmX4_callIn s m args below meth c H locs 0 0 (MQ below (Qv g A (wX g R.2) R.1) args s 0 0 A) (F0 m 61 ls [])) (h : f_X4_callIn_61 fu k61 σ x3 x4 = some R) {H : Heap} {locs : List Loc} {ls : Array Slot} (hA : Aw g A s.heap (wX g σ) H locs) (hl : lv_has ls 6 [(0, .ref (g.2.1 7)), (2, .ref (g.2.1 5)), (3, .int x3), (4, .int x4)]) : W p l e rmX4_callIn s m args below meth c H locs 0 0 (MQ below (Qv g A (wX g R.2) R.1) args s 0 0 A) (F0 m 61 ls []) := by
  have hx := C.1.1
  have hb := C.1.2.1
  unfold f_X4_callIn_61 at h
  refine lv_iload hx hb dX4_callIn_61 (lv_at hl 3 rfl) ?_
  refine lv_aload_n hx hb dX4_callIn_63 rfl (lv_at hl 1 rfl) ?_
  refine Xg_X3_size (v := (σ.1 15)) C hA rfl iX4_callIn_X3 (by decide +kernel) dX4_callIn_64 ?_
  refine lv_icmp_ge (tgt := 127) hx hb dX4_callIn_67 (by decide) (fun c1 => ?_) (fun c1 => ?_)
  · replace h := (if_pos c1).symm.trans h
    obtain rfl := Option.some.inj h
    exact r_vret C hA dX4_callIn_127
  · replace h := (if_neg c1).symm.trans h
    refine lv_aload_n hx hb dX4_callIn_70 rfl (lv_at hl 1 rfl) ?_
    refine lv_iload hx hb dX4_callIn_71 (lv_at hl 3 rfl) ?_
    obtain ⟨r2, hc3, h⟩ := bd1 h
    refine r_callVi (r := r2) (w1 := wX g σ) (As := [.int x4]) (rest := []) C hA hl.1 (k_X3_isLoan C.2.2.2.2.2.2 hc3) (cwV 1 C.1.2.2.2.2 gX4_callIn_X3_isLoan rfl rfl rfl nd_X3_isLoan ⟨Nat.le_of_ble_eq_true rfl, Nat.le_of_ble_eq_true rfl⟩) 5 rfl rfl rfl rfl (Nat.le_of_ble_eq_true rfl) dX4_callIn_73 ⟨Nat.le_of_ble_eq_true rfl, Nat.le_of_ble_eq_true rfl⟩ (fun H locs hA => ?_)
    refine lv_if_ne (tgt := 90) hx hb dX4_callIn_76 (by decide) (fun c4 => ?_) (fun c4 => ?_)
    · replace h := (if_neg c4).symm.trans h
      exact w_X4_callIn_90 C hk61 h hA (lv_sub hl [0, 1, 2, 3] rfl)
    · replace h := (if_pos c4).symm.trans h
      refine lv_aload_n hx hb dX4_callIn_79 rfl (lv_at hl 1 rfl) ?_
      refine Xg_X3_due C hA iX4_callIn_X3 (by decide +kernel) dX4_callIn_80 ?_
      refine lv_iload hx hb dX4_callIn_83 (lv_at hl 3 rfl) ?_
      obtain ⟨g5, h⟩ := gd h
      refine Xld_25 (v := (σ.2.1 25 (x4).toNatClampNeg)) C hA rfl g5 dX4_callIn_85 ?_
      refine lv_iload_n hx hb dX4_callIn_86 rfl (lv_at hl 2 rfl) ?_
      refine lv_icmp_gt (tgt := 121) hx hb dX4_callIn_87 (by decide) (fun c6 => ?_) (fun c6 => ?_)
      · replace h := (if_pos c6).symm.trans h
        exact w_X4_callIn_121 C hk61 h hA (lv_sub hl [0, 1, 2, 3] rfl)
      · replace h := (if_neg c6).symm.trans h
        exact w_X4_callIn_90 C hk61 h hA (lv_sub hl [0, 1, 2, 3] rfl)
set_option maxHeartbeats 4000000 in
theorem w_X4_callIn_L61 {σ : SS} {x : Int32 × Int32} (C : Cx p l s m args meth c cX4_callIn 6 wsX4_callIn none RX4 g A) (h : f_X4_callIn_L61 fu σ x = some R) {H : Heap} {locs : List Loc} {ls : Array Slot} (hA : Aw g A s.heap (wX g σ) H locs) (hl : lv_has ls 6 [(0, .ref (g.2.1 7)), (2, .ref (g.2.1 5)), (3, .int x.1), (4, .int x.2)]) : W p l e rmX4_callIn s m args below meth c H locs 0 0 (MQ below (Qv g A (wX g R.2) R.1) args s 0 0 A) (F0 m 61 ls []) := by
  refine loopW (P := fun σ x => ∀ (H : Heap) (locs : List Loc) (ls : Array Slot), Aw g A s.heap (wX g σ) H locs → lv_has ls 6 [(0, .ref (g.2.1 7)), (2, .ref (g.2.1 5)), (3, .int x.1), (4, .int x.2)] → W p l e rmX4_callIn s m args below meth c H locs 0 0 (MQ below (Qv g A (wX g R.2) R.1) args s 0 0 A) (F0 m 61 ls [])) (fun k hk σ x h9 H locs ls hA9 hl9 => ?_) fu σ x h H locs ls hA hl
  exact w_X4_callIn_61 C hk h9 hA9 hl9
set_option maxHeartbeats 4000000 in
set_option maxRecDepth 100000 in
theorem w_X4_callIn_28 {σ : SS} {x3 : Int32} {x4 : Int32} {x5 : Int32} (C : Cx p l s m args meth c cX4_callIn 6 wsX4_callIn none RX4 g A) {k3 : SS → (Int32 × Int32) → Option (Unit × SS)} (hk3 : ∀ (σ : SS) (x : Int32 × Int32), k3 σ x = some R → ∀ (H : Heap) (locs : List Loc) (ls : Array Slot), Aw g A s.heap (wX g σ) H locs → lv_has ls 6 [(0, .ref (g.2.1 7)), (1, .ref (g.2.1 4)), (2, .ref (g.2.1 5)), (3, .int x.1), (4, .int x.2)] → W p l e rmX4_callIn s m args below meth c H locs 0 0 (MQ below (Qv g A (wX g R.2) R.1) args s 0 0 A) (F0 m 3 ls [])) {k28 : SS → (Int32 × Int32 × Int32) → Option (Unit × SS)} (hk28 : ∀ (σ : SS) (x : Int32 × Int32 × Int32), k28 σ x = some R → ∀ (H : Heap) (locs : List Loc) (ls : Array Slot), Aw g A s.heap (wX g σ) H locs → lv_has ls 6 [(0, .ref (g.2.1 7)), (1, .ref (g.2.1 4)), (2, .ref (g.2.1 5)), (3, .int x.1), (4, .int x.2.1), (5, .int x.2.2)] → W p l e rmX4_callIn s m args below meth c H locs 0 0 (MQ below (Qv g A (wX g R.2) R.1) args s 0 0 A) (F0 m 28 ls [])) (h : f_X4_callIn_28 fu k3 k28 σ x3 x4 x5 = some R) {H : Heap} {locs : List Loc} {ls : Array Slot} (hA : Aw g A s.heap (wX g σ) H locs) (hl : lv_has ls 6 [(0, .ref (g.2.1 7)), (1, .ref (g.2.1 4)), (2, .ref (g.2.1 5)), (3, .int x3), (4, .int x4), (5, .int x5)]) : W p l e rmX4_callIn s m args below meth c H locs 0 0 (MQ below (Qv g A (wX g R.2) R.1) args s 0 0 A) (F0 m 28 ls []) := by
  have hx := C.1.1
  have hb := C.1.2.1
  unfold f_X4_callIn_28 at h
  refine lv_iload hx hb dX4_callIn_28 (lv_at hl 5 rfl) ?_
  refine lv_bipush (v := 12) hx hb dX4_callIn_30 (by decide) ?_
  refine lv_icmp_ge (tgt := 52) hx hb dX4_callIn_32 (by decide) (fun c1 => ?_) (fun c1 => ?_)
  · replace h := (if_pos c1).symm.trans h
    refine lv_iinc (v := (x4 + 1)) (lv' := [(4, .int (x4 + 1)), (0, .ref (g.2.1 7)), (1, .ref (g.2.1 4)), (2, .ref (g.2.1 5)), (3, .int x3), (5, .int x5)]) hx hb dX4_callIn_52 hl (k := 4) rfl rfl (by decide) rfl (fun ls hl => ?_)
    refine lv_goto (tgt := 3) hx hb dX4_callIn_55 (by decide) ?_
    exact hk3 _ _ h _ _ _ hA (lv_sub hl [1, 2, 3, 4, 0] rfl)
  · replace h := (if_neg c1).symm.trans h
    refine lv_aload_n hx hb dX4_callIn_35 rfl (lv_at hl 0 rfl) ?_
    refine Xg_X4_open C hA iX4_callIn_X4 (by decide +kernel) dX4_callIn_36 ?_
    refine lv_iload hx hb dX4_callIn_39 (lv_at hl 4 rfl) ?_
    obtain ⟨g2, h⟩ := gd h
    refine Xld_mat C hA g2 dX4_callIn_41 ?_
    refine lv_iload hx hb dX4_callIn_42 (lv_at hl 5 rfl) ?_
    refine lv_lconst (v := 0) hx hb dX4_callIn_44 (by decide) ?_
    obtain ⟨g3, h⟩ := gd h
    refine Xst_row C hA (inB_nat g2) g3 dX4_callIn_45 (fun H locs hA => ?_)
    refine lv_iinc (v := (x5 + 1)) (lv' := [(5, .int (x5 + 1)), (0, .ref (g.2.1 7)), (1, .ref (g.2.1 4)), (2, .ref (g.2.1 5)), (3, .int x3), (4, .int x4)]) hx hb dX4_callIn_46 hl (k := 5) rfl rfl (by decide) rfl (fun ls hl => ?_)
    refine lv_goto (tgt := 28) hx hb dX4_callIn_49 (by decide) ?_
    exact hk28 _ _ h _ _ _ hA (lv_sub hl [1, 2, 3, 4, 5, 0] rfl)
set_option maxHeartbeats 4000000 in
theorem w_X4_callIn_L28 {σ : SS} {x : Int32 × Int32 × Int32} (C : Cx p l s m args meth c cX4_callIn 6 wsX4_callIn none RX4 g A) {k3 : SS → (Int32 × Int32) → Option (Unit × SS)} (hk3 : ∀ (σ : SS) (x : Int32 × Int32), k3 σ x = some R → ∀ (H : Heap) (locs : List Loc) (ls : Array Slot), Aw g A s.heap (wX g σ) H locs → lv_has ls 6 [(0, .ref (g.2.1 7)), (1, .ref (g.2.1 4)), (2, .ref (g.2.1 5)), (3, .int x.1), (4, .int x.2)] → W p l e rmX4_callIn s m args below meth c H locs 0 0 (MQ below (Qv g A (wX g R.2) R.1) args s 0 0 A) (F0 m 3 ls [])) (h : f_X4_callIn_L28 fu k3 σ x = some R) {H : Heap} {locs : List Loc} {ls : Array Slot} (hA : Aw g A s.heap (wX g σ) H locs) (hl : lv_has ls 6 [(0, .ref (g.2.1 7)), (1, .ref (g.2.1 4)), (2, .ref (g.2.1 5)), (3, .int x.1), (4, .int x.2.1), (5, .int x.2.2)]) : W p l e rmX4_callIn s m args below meth c H locs 0 0 (MQ below (Qv g A (wX g R.2) R.1) args s 0 0 A) (F0 m 28 ls []) := by
  refine loopW (P := fun σ x => ∀ (H : Heap) (locs : List Loc) (ls : Array Slot), Aw g A s.heap (wX g σ) H locs → lv_has ls 6 [(0, .ref (g.2.1 7)), (1, .ref (g.2.1 4)), (2, .ref (g.2.1 5)), (3, .int x.1), (4, .int x.2.1), (5, .int x.2.2)] → W p l e rmX4_callIn s m args below meth c H locs 0 0 (MQ below (Qv g A (wX g R.2) R.1) args s 0 0 A) (F0 m 28 ls [])) (fun k hk σ x h9 H locs ls hA9 hl9 => ?_) fu σ x h H locs ls hA hl
  exact w_X4_callIn_28 C hk3 hk h9 hA9 hl9
set_option maxHeartbeats 4000000 in
set_option maxRecDepth 100000 in
theorem w_X4_callIn_3 {σ : SS} {x3 : Int32} {x4 : Int32} (C : Cx p l s m args meth c cX4_callIn 6 wsX4_callIn none RX4 g A) {k3 : SS → (Int32 × Int32) → Option (Unit × SS)} (hk3 : ∀ (σ : SS) (x : Int32 × Int32), k3 σ x = some R → ∀ (H : Heap) (locs : List Loc) (ls : Array Slot), Aw g A s.heap (wX g σ) H locs → lv_has ls 6 [(0, .ref (g.2.1 7)), (1, .ref (g.2.1 4)), (2, .ref (g.2.1 5)), (3, .int x.1), (4, .int x.2)] → W p l e rmX4_callIn s m args below meth c H locs 0 0 (MQ below (Qv g A (wX g R.2) R.1) args s 0 0 A) (F0 m 3 ls [])) (h : f_X4_callIn_3 fu k3 σ x3 x4 = some R) {H : Heap} {locs : List Loc} {ls : Array Slot} (hA : Aw g A s.heap (wX g σ) H locs) (hl : lv_has ls 6 [(0, .ref (g.2.1 7)), (1, .ref (g.2.1 4)), (2, .ref (g.2.1 5)), (3, .int x3), (4, .int x4)]) : W p l e rmX4_callIn s m args below meth c H locs 0 0 (MQ below (Qv g A (wX g R.2) R.1) args s 0 0 A) (F0 m 3 ls []) := by
  have hx := C.1.1
  have hb := C.1.2.1
  unfold f_X4_callIn_3 at h
  refine lv_iload hx hb dX4_callIn_3 (lv_at hl 4 rfl) ?_
  refine lv_bipush (v := 12) hx hb dX4_callIn_5 (by decide) ?_
  refine lv_icmp_ge (tgt := 58) hx hb dX4_callIn_7 (by decide) (fun c1 => ?_) (fun c1 => ?_)
  · replace h := (if_pos c1).symm.trans h
    refine lv_iconst (v := 0) hx hb dX4_callIn_58 (by decide) ?_
    refine lv_istore (lv' := [(4, .int (0 : Int32)), (0, .ref (g.2.1 7)), (1, .ref (g.2.1 4)), (2, .ref (g.2.1 5)), (3, .int x3)]) hx hb dX4_callIn_59 hl (by decide) rfl (fun ls hl => ?_)
    exact w_X4_callIn_L61 C h hA (lv_sub hl [1, 3, 4, 0] rfl)
  · replace h := (if_neg c1).symm.trans h
    refine lv_aload_n hx hb dX4_callIn_10 rfl (lv_at hl 0 rfl) ?_
    refine Xg_X4_stock C hA iX4_callIn_X4 (by decide +kernel) dX4_callIn_11 ?_
    refine lv_iload hx hb dX4_callIn_14 (lv_at hl 4 rfl) ?_
    refine lv_aload_n hx hb dX4_callIn_16 rfl (lv_at hl 1 rfl) ?_
    refine Xg_X0_blankets C hA iX4_callIn_X0 (by decide +kernel) dX4_callIn_17 ?_
    refine lv_iload hx hb dX4_callIn_20 (lv_at hl 4 rfl) ?_
    obtain ⟨g2, h⟩ := gd h
    refine Xld_19 (v := (σ.2.1 19 (x4).toNatClampNeg)) C hA rfl g2 dX4_callIn_22 ?_
    refine lv_i2l hx hb dX4_callIn_23 rfl ?_
    refine Xst_29 C hA g2 dX4_callIn_24 (fun H locs hA => ?_)
    refine lv_iconst (v := 0) hx hb dX4_callIn_25 (by decide) ?_
    refine lv_istore (lv' := [(5, .int (0 : Int32)), (0, .ref (g.2.1 7)), (1, .ref (g.2.1 4)), (2, .ref (g.2.1 5)), (3, .int x3), (4, .int x4)]) hx hb dX4_callIn_26 hl (by decide) rfl (fun ls hl => ?_)
    exact w_X4_callIn_L28 C hk3 h hA (lv_sub hl [1, 2, 3, 4, 5, 0] rfl)
set_option maxHeartbeats 4000000 in
theorem w_X4_callIn_L3 {σ : SS} {x : Int32 × Int32} (C : Cx p l s m args meth c cX4_callIn 6 wsX4_callIn none RX4 g A) (h : f_X4_callIn_L3 fu σ x = some R) {H : Heap} {locs : List Loc} {ls : Array Slot} (hA : Aw g A s.heap (wX g σ) H locs) (hl : lv_has ls 6 [(0, .ref (g.2.1 7)), (1, .ref (g.2.1 4)), (2, .ref (g.2.1 5)), (3, .int x.1), (4, .int x.2)]) : W p l e rmX4_callIn s m args below meth c H locs 0 0 (MQ below (Qv g A (wX g R.2) R.1) args s 0 0 A) (F0 m 3 ls []) := by
  refine loopW (P := fun σ x => ∀ (H : Heap) (locs : List Loc) (ls : Array Slot), Aw g A s.heap (wX g σ) H locs → lv_has ls 6 [(0, .ref (g.2.1 7)), (1, .ref (g.2.1 4)), (2, .ref (g.2.1 5)), (3, .int x.1), (4, .int x.2)] → W p l e rmX4_callIn s m args below meth c H locs 0 0 (MQ below (Qv g A (wX g R.2) R.1) args s 0 0 A) (F0 m 3 ls [])) (fun k hk σ x h9 H locs ls hA9 hl9 => ?_) fu σ x h H locs ls hA hl
  exact w_X4_callIn_3 C hk h9 hA9 hl9
set_option maxHeartbeats 4000000 in
set_option maxRecDepth 100000 in
theorem w_X4_callIn_0 {σ : SS} {x3 : Int32} (C : Cx p l s m args meth c cX4_callIn 6 wsX4_callIn none RX4 g A) (h : f_X4_callIn fu σ x3 = some R) {H : Heap} {locs : List Loc} {ls : Array Slot} (hA : Aw g A s.heap (wX g σ) H locs) (hl : lv_has ls 6 [(0, .ref (g.2.1 7)), (1, .ref (g.2.1 4)), (2, .ref (g.2.1 5)), (3, .int x3)]) : W p l e rmX4_callIn s m args below meth c H locs 0 0 (MQ below (Qv g A (wX g R.2) R.1) args s 0 0 A) (F0 m 0 ls []) := by
  have hx := C.1.1
  have hb := C.1.2.1
  unfold f_X4_callIn at h
  refine lv_iconst (v := 0) hx hb dX4_callIn_0 (by decide) ?_
  refine lv_istore (lv' := [(4, .int (0 : Int32)), (0, .ref (g.2.1 7)), (1, .ref (g.2.1 4)), (2, .ref (g.2.1 5)), (3, .int x3)]) hx hb dX4_callIn_1 hl (by decide) rfl (fun ls hl => ?_)
  exact w_X4_callIn_L3 C h hA (lv_sub hl [1, 2, 3, 4, 0] rfl)
end
set_option maxRecDepth 100000 in
theorem k_X4_callIn {l : Launch} {g : Gm} {fu : Nat} {σ : SS} {x3 : Int32} {R : Unit × SS} (hlt : l.stackTraces = false) (h : f_X4_callIn fu σ x3 = some R) (sz : Nat) : Met l yX4_callIn wsX4_callIn rmX4_callIn (Pw g (wX g σ) [.ref (g.2.1 7), .ref (g.2.1 4), .ref (g.2.1 5), .int x3] sz) (Qv g (va_A (wX g σ) sz) (wX g R.2) R.1) 0 0 (va_A (wX g σ) sz) :=
  ofM (own := RX4) hlt (by decide) rfl rfl (Nat.le_of_ble_eq_true rfl) (fun p e s m below meth c hsz C hA ls hl => w_X4_callIn_0 C h hA hl)
abbrev rmX4_side : Room := { frames := 0, cells := 0, slots := 0, locals := 0 }
theorem iX4_side_X4 : ∀ x ∈ wsX40, x ∈ wsX4_side := by decide +kernel
theorem nd_X4_side : yX4_side.cls = RX4 ∧ yX4_side.cls ≠ "java/lang/invoke/MethodHandle" ∧ yX4_side.cls ≠ "java/lang/invoke/VarHandle" ∧ (parseMethodDescriptor yX4_side.desc).map (fun d => d.parameters.length) = some 0 := by decide +kernel
def f_X4_side_27 (fu : Nat) (k4 : SS → (Int32 × Int32) → Option (Int32)) (σ : SS) (x2 : Int32) (y0 : Int32) (y1 : Int32) : Option (Int32) :=
  k4 σ ((y1 ||| y0), (x2 + 1))
def f_X4_side_4 (fu : Nat) (k4 : SS → (Int32 × Int32) → Option (Int32)) (σ : SS) (x1 : Int32) (x2 : Int32) : Option (Int32) :=
  (if (12 : Int32) ≤ x2 then some x1 else if inB x2 12 then (if (σ.2.1 31 (x2).toNatClampNeg) = 0 then f_X4_side_27 fu k4 σ x2 (0 : Int32) x1 else f_X4_side_27 fu k4 σ x2 ((1 : Int32) <<< (x2 &&& 31)) x1) else none)
def f_X4_side_L4 (fu : Nat) : SS → (Int32 × Int32) → Option (Int32) := loopN (fun k4 σ x => f_X4_side_4 fu k4 σ x.1 x.2) fu
def f_X4_side (fu : Nat) (σ : SS) : Option (Int32) :=
  f_X4_side_L4 fu σ ((0 : Int32), (0 : Int32))
section
variable {p : Program} {l : Launch} {e : Env} {s : State} {m : MethodId} {args : Array Value} {below : List Frame} {meth : Method} {c : Code} {g : Gm} {A : Nat → Prop} {fu : Nat} {R : Int32}
set_option maxHeartbeats 4000000 in
set_option maxRecDepth 100000 in
theorem w_X4_side_27 {σ : SS} {x2 : Int32} {y0 : Int32} {y1 : Int32} (C : Cx p l s m args meth c cX4_side 3 wsX4_side (some .int) RX4 g A) {k4 : SS → (Int32 × Int32) → Option (Int32)} (hk4 : ∀ (σ1 : SS) (x : Int32 × Int32), σ1 = σ → k4 σ1 x = some R → ∀ (H : Heap) (locs : List Loc) (ls : Array Slot), Aw g A s.heap (wX g σ) H locs → lv_has ls 3 [(0, .ref (g.2.1 7)), (1, .int x.1), (2, .int x.2)] → W p l e rmX4_side s m args below meth c H locs 0 0 (MQ below (Qi g A (wX g σ) R) args s 0 0 A) (F0 m 4 ls [])) (h : f_X4_side_27 fu k4 σ x2 y0 y1 = some R) {H : Heap} {locs : List Loc} {ls : Array Slot} (hA : Aw g A s.heap (wX g σ) H locs) (hl : lv_has ls 3 [(0, .ref (g.2.1 7)), (2, .int x2)]) : W p l e rmX4_side s m args below meth c H locs 0 0 (MQ below (Qi g A (wX g σ) R) args s 0 0 A) (F0 m 27 ls [.int y0, .int y1]) := by
  have hx := C.1.1
  have hb := C.1.2.1
  unfold f_X4_side_27 at h
  refine lv_ior hx hb dX4_side_27 ?_
  refine lv_istore_n (lv' := [(1, .int (y1 ||| y0)), (0, .ref (g.2.1 7)), (2, .int x2)]) hx hb dX4_side_28 rfl hl (by decide) rfl (fun ls hl => ?_)
  refine lv_iinc (v := (x2 + 1)) (lv' := [(2, .int (x2 + 1)), (1, .int (y1 ||| y0)), (0, .ref (g.2.1 7))]) hx hb dX4_side_29 hl (k := 2) rfl rfl (by decide) rfl (fun ls hl => ?_)
  refine lv_goto (tgt := 4) hx hb dX4_side_32 (by decide) ?_
  exact hk4 _ _ rfl h _ _ _ hA (lv_sub hl [2, 1, 0] rfl)
set_option maxHeartbeats 4000000 in
set_option maxRecDepth 100000 in
theorem w_X4_side_4 {σ : SS} {x1 : Int32} {x2 : Int32} (C : Cx p l s m args meth c cX4_side 3 wsX4_side (some .int) RX4 g A) {k4 : SS → (Int32 × Int32) → Option (Int32)} (hk4 : ∀ (σ1 : SS) (x : Int32 × Int32), σ1 = σ → k4 σ1 x = some R → ∀ (H : Heap) (locs : List Loc) (ls : Array Slot), Aw g A s.heap (wX g σ) H locs → lv_has ls 3 [(0, .ref (g.2.1 7)), (1, .int x.1), (2, .int x.2)] → W p l e rmX4_side s m args below meth c H locs 0 0 (MQ below (Qi g A (wX g σ) R) args s 0 0 A) (F0 m 4 ls [])) (h : f_X4_side_4 fu k4 σ x1 x2 = some R) {H : Heap} {locs : List Loc} {ls : Array Slot} (hA : Aw g A s.heap (wX g σ) H locs) (hl : lv_has ls 3 [(0, .ref (g.2.1 7)), (1, .int x1), (2, .int x2)]) : W p l e rmX4_side s m args below meth c H locs 0 0 (MQ below (Qi g A (wX g σ) R) args s 0 0 A) (F0 m 4 ls []) := by
  have hx := C.1.1
  have hb := C.1.2.1
  unfold f_X4_side_4 at h
  refine lv_iload_n hx hb dX4_side_4 rfl (lv_at hl 2 rfl) ?_
  refine lv_bipush (v := 12) hx hb dX4_side_5 (by decide) ?_
  refine lv_icmp_ge (tgt := 35) hx hb dX4_side_7 (by decide) (fun c1 => ?_) (fun c1 => ?_)
  · replace h := (if_pos c1).symm.trans h
    refine lv_iload_n hx hb dX4_side_35 rfl (lv_at hl 1 rfl) ?_
    obtain rfl := Option.some.inj h
    exact r_iret C hA dX4_side_36
  · replace h := (if_neg c1).symm.trans h
    refine lv_iload_n hx hb dX4_side_10 rfl (lv_at hl 1 rfl) ?_
    refine lv_aload_n hx hb dX4_side_11 rfl (lv_at hl 0 rfl) ?_
    refine Xg_X4_found C hA iX4_side_X4 (by decide +kernel) dX4_side_12 ?_
    refine lv_iload_n hx hb dX4_side_15 rfl (lv_at hl 2 rfl) ?_
    obtain ⟨g2, h⟩ := gd h
    refine Xld_31 (v := (σ.2.1 31 (x2).toNatClampNeg)) C hA rfl g2 dX4_side_16 ?_
    refine lv_if_eq (tgt := 26) hx hb dX4_side_17 (by decide) (fun c3 => ?_) (fun c3 => ?_)
    · replace h := (if_pos c3).symm.trans h
      refine lv_iconst (v := 0) hx hb dX4_side_26 (by decide) ?_
      exact w_X4_side_27 C hk4 h hA (lv_sub hl [0, 2] rfl)
    · replace h := (if_neg c3).symm.trans h
      refine lv_iconst (v := 1) hx hb dX4_side_20 (by decide) ?_
      refine lv_iload_n hx hb dX4_side_21 rfl (lv_at hl 2 rfl) ?_
      refine lv_ishl hx hb dX4_side_22 ?_
      refine lv_goto (tgt := 27) hx hb dX4_side_23 (by decide) ?_
      exact w_X4_side_27 C hk4 h hA (lv_sub hl [0, 2] rfl)
set_option maxHeartbeats 4000000 in
theorem w_X4_side_L4 {σ : SS} {x : Int32 × Int32} (C : Cx p l s m args meth c cX4_side 3 wsX4_side (some .int) RX4 g A) (h : f_X4_side_L4 fu σ x = some R) {H : Heap} {locs : List Loc} {ls : Array Slot} (hA : Aw g A s.heap (wX g σ) H locs) (hl : lv_has ls 3 [(0, .ref (g.2.1 7)), (1, .int x.1), (2, .int x.2)]) : W p l e rmX4_side s m args below meth c H locs 0 0 (MQ below (Qi g A (wX g σ) R) args s 0 0 A) (F0 m 4 ls []) := by
  refine loopW (P := fun σ1 x => σ1 = σ → ∀ (H : Heap) (locs : List Loc) (ls : Array Slot), Aw g A s.heap (wX g σ) H locs → lv_has ls 3 [(0, .ref (g.2.1 7)), (1, .int x.1), (2, .int x.2)] → W p l e rmX4_side s m args below meth c H locs 0 0 (MQ below (Qi g A (wX g σ) R) args s 0 0 A) (F0 m 4 ls [])) (fun k hk σ1 x h9 e1 H locs ls hA9 hl9 => ?_) fu σ x h rfl H locs ls hA hl
  subst e1
  exact w_X4_side_4 C (fun σ2 x e2 h2 => hk σ2 x h2 e2) h9 hA9 hl9
set_option maxHeartbeats 4000000 in
set_option maxRecDepth 100000 in
theorem w_X4_side_0 {σ : SS} (C : Cx p l s m args meth c cX4_side 3 wsX4_side (some .int) RX4 g A) (h : f_X4_side fu σ = some R) {H : Heap} {locs : List Loc} {ls : Array Slot} (hA : Aw g A s.heap (wX g σ) H locs) (hl : lv_has ls 3 [(0, .ref (g.2.1 7))]) : W p l e rmX4_side s m args below meth c H locs 0 0 (MQ below (Qi g A (wX g σ) R) args s 0 0 A) (F0 m 0 ls []) := by
  have hx := C.1.1
  have hb := C.1.2.1
  unfold f_X4_side at h
  refine lv_iconst (v := 0) hx hb dX4_side_0 (by decide) ?_
  refine lv_istore_n (lv' := [(1, .int (0 : Int32)), (0, .ref (g.2.1 7))]) hx hb dX4_side_1 rfl hl (by decide) rfl (fun ls hl => ?_)
  refine lv_iconst (v := 0) hx hb dX4_side_2 (by decide) ?_
  refine lv_istore_n (lv' := [(2, .int (0 : Int32)), (1, .int (0 : Int32)), (0, .ref (g.2.1 7))]) hx hb dX4_side_3 rfl hl (by decide) rfl (fun ls hl => ?_)
  exact w_X4_side_L4 C h hA (lv_sub hl [2, 1, 0] rfl)
end
set_option maxRecDepth 100000 in
theorem k_X4_side {l : Launch} {g : Gm} {fu : Nat} {σ : SS} {R : Int32} (hlt : l.stackTraces = false) (h : f_X4_side fu σ = some R) (sz : Nat) : Met l yX4_side wsX4_side rmX4_side (Pw g (wX g σ) [.ref (g.2.1 7)] sz) (Qi g (va_A (wX g σ) sz) (wX g σ) R) 0 0 (va_A (wX g σ) sz) :=
  ofM (own := RX4) hlt (by decide) rfl rfl (Nat.le_of_ble_eq_true rfl) (fun p e s m below meth c hsz C hA ls hl => w_X4_side_0 C h hA hl)
abbrev rmX4_nearestGiver : Room := { frames := 0, cells := 0, slots := 0, locals := 0 }
theorem iX4_nearestGiver_X4 : ∀ x ∈ wsX40, x ∈ wsX4_nearestGiver := by decide +kernel
theorem nd_X4_nearestGiver : yX4_nearestGiver.cls = RX4 ∧ yX4_nearestGiver.cls ≠ "java/lang/invoke/MethodHandle" ∧ yX4_nearestGiver.cls ≠ "java/lang/invoke/VarHandle" ∧ (parseMethodDescriptor yX4_nearestGiver.desc).map (fun d => d.parameters.length) = some 1 := by decide +kernel
def f_X4_nearestGiver_138 (fu : Nat) (k41 : SS → (Int32 × Int32) → Option (Int32 × SS)) (k78 : SS → (Int32 × Int32 × Int32 × Int32) → Option (Int32 × SS)) (σ : SS) (x2 : Int32) (x3 : Int32) (x4 : Int32) (x5 : Int32) : Option (Int32 × SS) :=
  k78 σ (x2, x3, x4, (x5 + 1))
def f_X4_nearestGiver_78 (fu : Nat) (k41 : SS → (Int32 × Int32) → Option (Int32 × SS)) (k78 : SS → (Int32 × Int32 × Int32 × Int32) → Option (Int32 × SS)) (σ : SS) (x2 : Int32) (x3 : Int32) (x4 : Int32) (x5 : Int32) : Option (Int32 × SS) :=
  (if (12 : Int32) ≤ x5 then k41 σ (x2, (x3 + 1)) else if inB x5 12 then (if (σ.2.1 31 (x5).toNatClampNeg) = 0 then if inB x4 12 then (if (lg_cmp (σ.2.2 (40 + (x5).toNatClampNeg) (x4).toNatClampNeg) (0 : Int64)) ≤ 0 then f_X4_nearestGiver_138 fu k41 k78 σ x2 x3 x4 x5 else if inB x2 12 then f_X4_nearestGiver_138 fu k41 k78 (sA (sA (sA σ 31 (x5).toNatClampNeg (vp_nar .boolean (1 : Int32))) 32 (x5).toNatClampNeg x4) 33 (x2).toNatClampNeg x5) (x2 + 1) x3 x4 x5 else none) else none else f_X4_nearestGiver_138 fu k41 k78 σ x2 x3 x4 x5) else none)
def f_X4_nearestGiver_L78 (fu : Nat) (k41 : SS → (Int32 × Int32) → Option (Int32 × SS)) : SS → (Int32 × Int32 × Int32 × Int32) → Option (Int32 × SS) := loopN (fun k78 σ x => f_X4_nearestGiver_78 fu k41 k78 σ x.1 x.2.1 x.2.2.1 x.2.2.2) fu
def f_X4_nearestGiver_41 (fu : Nat) (k41 : SS → (Int32 × Int32) → Option (Int32 × SS)) (σ : SS) (x2 : Int32) (x3 : Int32) : Option (Int32 × SS) :=
  (if (12 : Int32) ≤ x3 then some ((-1), σ) else (if x2 ≤ x3 then some ((-1), σ) else if inB x3 12 then if inB (σ.2.1 33 (x3).toNatClampNeg) 12 then (if (lg_cmp (σ.2.2 29 ((σ.2.1 33 (x3).toNatClampNeg)).toNatClampNeg) (0 : Int64)) ≤ 0 then f_X4_nearestGiver_L78 fu k41 σ (x2, x3, (σ.2.1 33 (x3).toNatClampNeg), (0 : Int32)) else some ((σ.2.1 33 (x3).toNatClampNeg), σ)) else none else none))
def f_X4_nearestGiver_L41 (fu : Nat) : SS → (Int32 × Int32) → Option (Int32 × SS) := loopN (fun k41 σ x => f_X4_nearestGiver_41 fu k41 σ x.1 x.2) fu
def f_X4_nearestGiver_23 (fu : Nat) (k2 : SS → (Int32 × Int32) → Option (Int32 × SS)) (σ : SS) (x1 : Int32) (x2 : Int32) (y0 : Int32) (y1 : Int32) : Option (Int32 × SS) :=
  if inB y1 12 then k2 (sA σ 31 (y1).toNatClampNeg (vp_nar .boolean y0)) (x1, (x2 + 1)) else none
def f_X4_nearestGiver_2 (fu : Nat) (k2 : SS → (Int32 × Int32) → Option (Int32 × SS)) (σ : SS) (x1 : Int32) (x2 : Int32) : Option (Int32 × SS) :=
  (if (12 : Int32) ≤ x2 then if inB (0 : Int32) 12 then f_X4_nearestGiver_L41 fu (sA σ 33 ((0 : Int32)).toNatClampNeg x1) ((1 : Int32), (0 : Int32)) else none else (if x2 = x1 then f_X4_nearestGiver_23 fu k2 σ x1 x2 (1 : Int32) x2 else f_X4_nearestGiver_23 fu k2 σ x1 x2 (0 : Int32) x2))
def f_X4_nearestGiver_L2 (fu : Nat) : SS → (Int32 × Int32) → Option (Int32 × SS) := loopN (fun k2 σ x => f_X4_nearestGiver_2 fu k2 σ x.1 x.2) fu
def f_X4_nearestGiver (fu : Nat) (σ : SS) (x1 : Int32) : Option (Int32 × SS) :=
  f_X4_nearestGiver_L2 fu σ (x1, (0 : Int32))
section
variable {p : Program} {l : Launch} {e : Env} {s : State} {m : MethodId} {args : Array Value} {below : List Frame} {meth : Method} {c : Code} {g : Gm} {A : Nat → Prop} {fu : Nat} {R : Int32 × SS}
set_option maxHeartbeats 4000000 in
set_option maxRecDepth 100000 in
theorem w_X4_nearestGiver_138 {σ : SS} {x2 : Int32} {x3 : Int32} {x4 : Int32} {x5 : Int32} (C : Cx p l s m args meth c cX4_nearestGiver 6 wsX4_nearestGiver (some .int) RX4 g A) {k41 : SS → (Int32 × Int32) → Option (Int32 × SS)} (hk41 : ∀ (σ : SS) (x : Int32 × Int32), k41 σ x = some R → ∀ (H : Heap) (locs : List Loc) (ls : Array Slot), Aw g A s.heap (wX g σ) H locs → lv_has ls 6 [(0, .ref (g.2.1 7)), (2, .int x.1), (3, .int x.2)] → W p l e rmX4_nearestGiver s m args below meth c H locs 0 0 (MQ below (Qi g A (wX g R.2) R.1) args s 0 0 A) (F0 m 41 ls [])) {k78 : SS → (Int32 × Int32 × Int32 × Int32) → Option (Int32 × SS)} (hk78 : ∀ (σ : SS) (x : Int32 × Int32 × Int32 × Int32), k78 σ x = some R → ∀ (H : Heap) (locs : List Loc) (ls : Array Slot), Aw g A s.heap (wX g σ) H locs → lv_has ls 6 [(0, .ref (g.2.1 7)), (2, .int x.1), (3, .int x.2.1), (4, .int x.2.2.1), (5, .int x.2.2.2)] → W p l e rmX4_nearestGiver s m args below meth c H locs 0 0 (MQ below (Qi g A (wX g R.2) R.1) args s 0 0 A) (F0 m 78 ls [])) (h : f_X4_nearestGiver_138 fu k41 k78 σ x2 x3 x4 x5 = some R) {H : Heap} {locs : List Loc} {ls : Array Slot} (hA : Aw g A s.heap (wX g σ) H locs) (hl : lv_has ls 6 [(0, .ref (g.2.1 7)), (2, .int x2), (3, .int x3), (4, .int x4), (5, .int x5)]) : W p l e rmX4_nearestGiver s m args below meth c H locs 0 0 (MQ below (Qi g A (wX g R.2) R.1) args s 0 0 A) (F0 m 138 ls []) := by
  have hx := C.1.1
  have hb := C.1.2.1
  unfold f_X4_nearestGiver_138 at h
  refine lv_iinc (v := (x5 + 1)) (lv' := [(5, .int (x5 + 1)), (0, .ref (g.2.1 7)), (2, .int x2), (3, .int x3), (4, .int x4)]) hx hb dX4_nearestGiver_138 hl (k := 4) rfl rfl (by decide) rfl (fun ls hl => ?_)
  refine lv_goto (tgt := 78) hx hb dX4_nearestGiver_141 (by decide) ?_
  exact hk78 _ _ h _ _ _ hA (lv_sub hl [1, 2, 3, 4, 0] rfl)
set_option maxHeartbeats 4000000 in
set_option maxRecDepth 100000 in
theorem w_X4_nearestGiver_78 {σ : SS} {x2 : Int32} {x3 : Int32} {x4 : Int32} {x5 : Int32} (C : Cx p l s m args meth c cX4_nearestGiver 6 wsX4_nearestGiver (some .int) RX4 g A) {k41 : SS → (Int32 × Int32) → Option (Int32 × SS)} (hk41 : ∀ (σ : SS) (x : Int32 × Int32), k41 σ x = some R → ∀ (H : Heap) (locs : List Loc) (ls : Array Slot), Aw g A s.heap (wX g σ) H locs → lv_has ls 6 [(0, .ref (g.2.1 7)), (2, .int x.1), (3, .int x.2)] → W p l e rmX4_nearestGiver s m args below meth c H locs 0 0 (MQ below (Qi g A (wX g R.2) R.1) args s 0 0 A) (F0 m 41 ls [])) {k78 : SS → (Int32 × Int32 × Int32 × Int32) → Option (Int32 × SS)} (hk78 : ∀ (σ : SS) (x : Int32 × Int32 × Int32 × Int32), k78 σ x = some R → ∀ (H : Heap) (locs : List Loc) (ls : Array Slot), Aw g A s.heap (wX g σ) H locs → lv_has ls 6 [(0, .ref (g.2.1 7)), (2, .int x.1), (3, .int x.2.1), (4, .int x.2.2.1), (5, .int x.2.2.2)] → W p l e rmX4_nearestGiver s m args below meth c H locs 0 0 (MQ below (Qi g A (wX g R.2) R.1) args s 0 0 A) (F0 m 78 ls [])) (h : f_X4_nearestGiver_78 fu k41 k78 σ x2 x3 x4 x5 = some R) {H : Heap} {locs : List Loc} {ls : Array Slot} (hA : Aw g A s.heap (wX g σ) H locs) (hl : lv_has ls 6 [(0, .ref (g.2.1 7)), (2, .int x2), (3, .int x3), (4, .int x4), (5, .int x5)]) : W p l e rmX4_nearestGiver s m args below meth c H locs 0 0 (MQ below (Qi g A (wX g R.2) R.1) args s 0 0 A) (F0 m 78 ls []) := by
  have hx := C.1.1
  have hb := C.1.2.1
  unfold f_X4_nearestGiver_78 at h
  refine lv_iload hx hb dX4_nearestGiver_78 (lv_at hl 4 rfl) ?_
  refine lv_bipush (v := 12) hx hb dX4_nearestGiver_80 (by decide) ?_
  refine lv_icmp_ge (tgt := 144) hx hb dX4_nearestGiver_82 (by decide) (fun c1 => ?_) (fun c1 => ?_)
  · replace h := (if_pos c1).symm.trans h
    refine lv_iinc (v := (x3 + 1)) (lv' := [(3, .int (x3 + 1)), (0, .ref (g.2.1 7)), (2, .int x2), (4, .int x4), (5, .int x5)]) hx hb dX4_nearestGiver_144 hl (k := 2) rfl rfl (by decide) rfl (fun ls hl => ?_)
    refine lv_goto (tgt := 41) hx hb dX4_nearestGiver_147 (by decide) ?_
    exact hk41 _ _ h _ _ _ hA (lv_sub hl [1, 2, 0] rfl)
  · replace h := (if_neg c1).symm.trans h
    refine lv_aload_n hx hb dX4_nearestGiver_85 rfl (lv_at hl 0 rfl) ?_
    refine Xg_X4_found C hA iX4_nearestGiver_X4 (by decide +kernel) dX4_nearestGiver_86 ?_
    refine lv_iload hx hb dX4_nearestGiver_89 (lv_at hl 4 rfl) ?_
    obtain ⟨g2, h⟩ := gd h
    refine Xld_31 (v := (σ.2.1 31 (x5).toNatClampNeg)) C hA rfl g2 dX4_nearestGiver_91 ?_
    refine lv_if_ne (tgt := 138) hx hb dX4_nearestGiver_92 (by decide) (fun c3 => ?_) (fun c3 => ?_)
    · replace h := (if_neg c3).symm.trans h
      exact w_X4_nearestGiver_138 C hk41 hk78 h hA (lv_sub hl [0, 1, 2, 3, 4] rfl)
    · replace h := (if_pos c3).symm.trans h
      refine lv_aload_n hx hb dX4_nearestGiver_95 rfl (lv_at hl 0 rfl) ?_
      refine Xg_X4_open C hA iX4_nearestGiver_X4 (by decide +kernel) dX4_nearestGiver_96 ?_
      refine lv_iload hx hb dX4_nearestGiver_99 (lv_at hl 4 rfl) ?_
      refine Xld_mat C hA g2 dX4_nearestGiver_101 ?_
      refine lv_iload hx hb dX4_nearestGiver_102 (lv_at hl 3 rfl) ?_
      obtain ⟨g4, h⟩ := gd h
      refine Xld_row (v := (σ.2.2 (40 + (x5).toNatClampNeg) (x4).toNatClampNeg)) C hA (inB_nat g2) rfl g4 dX4_nearestGiver_104 ?_
      refine lv_lconst (v := 0) hx hb dX4_nearestGiver_105 (by decide) ?_
      refine W.lcmp hx hb dX4_nearestGiver_106 ?_
      refine lv_if_le (tgt := 138) hx hb dX4_nearestGiver_107 (by decide) (fun c5 => ?_) (fun c5 => ?_)
      · replace h := (if_pos c5).symm.trans h
        exact w_X4_nearestGiver_138 C hk41 hk78 h hA (lv_sub hl [0, 1, 2, 3, 4] rfl)
      · replace h := (if_neg c5).symm.trans h
        refine lv_aload_n hx hb dX4_nearestGiver_110 rfl (lv_at hl 0 rfl) ?_
        refine Xg_X4_found C hA iX4_nearestGiver_X4 (by decide +kernel) dX4_nearestGiver_111 ?_
        refine lv_iload hx hb dX4_nearestGiver_114 (lv_at hl 4 rfl) ?_
        refine lv_iconst (v := 1) hx hb dX4_nearestGiver_116 (by decide) ?_
        refine Xst_31 C hA g2 dX4_nearestGiver_117 (fun H locs hA => ?_)
        refine lv_aload_n hx hb dX4_nearestGiver_118 rfl (lv_at hl 0 rfl) ?_
        refine Xg_X4_next C hA iX4_nearestGiver_X4 (by decide +kernel) dX4_nearestGiver_119 ?_
        refine lv_iload hx hb dX4_nearestGiver_122 (lv_at hl 4 rfl) ?_
        refine lv_iload hx hb dX4_nearestGiver_124 (lv_at hl 3 rfl) ?_
        refine Xst_32 C hA g2 dX4_nearestGiver_126 (fun H locs hA => ?_)
        refine lv_aload_n hx hb dX4_nearestGiver_127 rfl (lv_at hl 0 rfl) ?_
        refine Xg_X4_queue C hA iX4_nearestGiver_X4 (by decide +kernel) dX4_nearestGiver_128 ?_
        refine lv_iload_n hx hb dX4_nearestGiver_131 rfl (lv_at hl 1 rfl) ?_
        refine lv_iload hx hb dX4_nearestGiver_132 (lv_at hl 4 rfl) ?_
        obtain ⟨g6, h⟩ := gd h
        refine Xst_33 C hA g6 dX4_nearestGiver_134 (fun H locs hA => ?_)
        refine lv_iinc (v := (x2 + 1)) (lv' := [(2, .int (x2 + 1)), (0, .ref (g.2.1 7)), (3, .int x3), (4, .int x4), (5, .int x5)]) hx hb dX4_nearestGiver_135 hl (k := 1) rfl rfl (by decide) rfl (fun ls hl => ?_)
        exact w_X4_nearestGiver_138 C hk41 hk78 h hA (lv_sub hl [1, 0, 2, 3, 4] rfl)
set_option maxHeartbeats 4000000 in
theorem w_X4_nearestGiver_L78 {σ : SS} {x : Int32 × Int32 × Int32 × Int32} (C : Cx p l s m args meth c cX4_nearestGiver 6 wsX4_nearestGiver (some .int) RX4 g A) {k41 : SS → (Int32 × Int32) → Option (Int32 × SS)} (hk41 : ∀ (σ : SS) (x : Int32 × Int32), k41 σ x = some R → ∀ (H : Heap) (locs : List Loc) (ls : Array Slot), Aw g A s.heap (wX g σ) H locs → lv_has ls 6 [(0, .ref (g.2.1 7)), (2, .int x.1), (3, .int x.2)] → W p l e rmX4_nearestGiver s m args below meth c H locs 0 0 (MQ below (Qi g A (wX g R.2) R.1) args s 0 0 A) (F0 m 41 ls [])) (h : f_X4_nearestGiver_L78 fu k41 σ x = some R) {H : Heap} {locs : List Loc} {ls : Array Slot} (hA : Aw g A s.heap (wX g σ) H locs) (hl : lv_has ls 6 [(0, .ref (g.2.1 7)), (2, .int x.1), (3, .int x.2.1), (4, .int x.2.2.1), (5, .int x.2.2.2)]) : W p l e rmX4_nearestGiver s m args below meth c H locs 0 0 (MQ below (Qi g A (wX g R.2) R.1) args s 0 0 A) (F0 m 78 ls []) := by
  refine loopW (P := fun σ x => ∀ (H : Heap) (locs : List Loc) (ls : Array Slot), Aw g A s.heap (wX g σ) H locs → lv_has ls 6 [(0, .ref (g.2.1 7)), (2, .int x.1), (3, .int x.2.1), (4, .int x.2.2.1), (5, .int x.2.2.2)] → W p l e rmX4_nearestGiver s m args below meth c H locs 0 0 (MQ below (Qi g A (wX g R.2) R.1) args s 0 0 A) (F0 m 78 ls [])) (fun k hk σ x h9 H locs ls hA9 hl9 => ?_) fu σ x h H locs ls hA hl
  exact w_X4_nearestGiver_78 C hk41 hk h9 hA9 hl9
set_option maxHeartbeats 4000000 in
set_option maxRecDepth 100000 in
theorem w_X4_nearestGiver_41 {σ : SS} {x2 : Int32} {x3 : Int32} (C : Cx p l s m args meth c cX4_nearestGiver 6 wsX4_nearestGiver (some .int) RX4 g A) {k41 : SS → (Int32 × Int32) → Option (Int32 × SS)} (hk41 : ∀ (σ : SS) (x : Int32 × Int32), k41 σ x = some R → ∀ (H : Heap) (locs : List Loc) (ls : Array Slot), Aw g A s.heap (wX g σ) H locs → lv_has ls 6 [(0, .ref (g.2.1 7)), (2, .int x.1), (3, .int x.2)] → W p l e rmX4_nearestGiver s m args below meth c H locs 0 0 (MQ below (Qi g A (wX g R.2) R.1) args s 0 0 A) (F0 m 41 ls [])) (h : f_X4_nearestGiver_41 fu k41 σ x2 x3 = some R) {H : Heap} {locs : List Loc} {ls : Array Slot} (hA : Aw g A s.heap (wX g σ) H locs) (hl : lv_has ls 6 [(0, .ref (g.2.1 7)), (2, .int x2), (3, .int x3)]) : W p l e rmX4_nearestGiver s m args below meth c H locs 0 0 (MQ below (Qi g A (wX g R.2) R.1) args s 0 0 A) (F0 m 41 ls []) := by
  have hx := C.1.1
  have hb := C.1.2.1
  unfold f_X4_nearestGiver_41 at h
  refine lv_iload_n hx hb dX4_nearestGiver_41 rfl (lv_at hl 2 rfl) ?_
  refine lv_bipush (v := 12) hx hb dX4_nearestGiver_42 (by decide) ?_
  refine lv_icmp_ge (tgt := 150) hx hb dX4_nearestGiver_44 (by decide) (fun c1 => ?_) (fun c1 => ?_)
  · replace h := (if_pos c1).symm.trans h
    refine lv_iconst (v := (-1)) hx hb dX4_nearestGiver_150 (by decide) ?_
    obtain rfl := Option.some.inj h
    exact r_iret C hA dX4_nearestGiver_151
  · replace h := (if_neg c1).symm.trans h
    refine lv_iload_n hx hb dX4_nearestGiver_47 rfl (lv_at hl 2 rfl) ?_
    refine lv_iload_n hx hb dX4_nearestGiver_48 rfl (lv_at hl 1 rfl) ?_
    refine lv_icmp_ge (tgt := 150) hx hb dX4_nearestGiver_49 (by decide) (fun c2 => ?_) (fun c2 => ?_)
    · replace h := (if_pos c2).symm.trans h
      refine lv_iconst (v := (-1)) hx hb dX4_nearestGiver_150 (by decide) ?_
      obtain rfl := Option.some.inj h
      exact r_iret C hA dX4_nearestGiver_151
    · replace h := (if_neg c2).symm.trans h
      refine lv_aload_n hx hb dX4_nearestGiver_52 rfl (lv_at hl 0 rfl) ?_
      refine Xg_X4_queue C hA iX4_nearestGiver_X4 (by decide +kernel) dX4_nearestGiver_53 ?_
      refine lv_iload_n hx hb dX4_nearestGiver_56 rfl (lv_at hl 2 rfl) ?_
      obtain ⟨g3, h⟩ := gd h
      refine Xld_33 (v := (σ.2.1 33 (x3).toNatClampNeg)) C hA rfl g3 dX4_nearestGiver_57 ?_
      refine lv_istore (lv' := [(4, .int (σ.2.1 33 (x3).toNatClampNeg)), (0, .ref (g.2.1 7)), (2, .int x2), (3, .int x3)]) hx hb dX4_nearestGiver_58 hl (by decide) rfl (fun ls hl => ?_)
      refine lv_aload_n hx hb dX4_nearestGiver_60 rfl (lv_at hl 1 rfl) ?_
      refine Xg_X4_stock C hA iX4_nearestGiver_X4 (by decide +kernel) dX4_nearestGiver_61 ?_
      refine lv_iload hx hb dX4_nearestGiver_64 (lv_at hl 0 rfl) ?_
      obtain ⟨g4, h⟩ := gd h
      refine Xld_29 (v := (σ.2.2 29 ((σ.2.1 33 (x3).toNatClampNeg)).toNatClampNeg)) C hA rfl g4 dX4_nearestGiver_66 ?_
      refine lv_lconst (v := 0) hx hb dX4_nearestGiver_67 (by decide) ?_
      refine W.lcmp hx hb dX4_nearestGiver_68 ?_
      refine lv_if_le (tgt := 75) hx hb dX4_nearestGiver_69 (by decide) (fun c5 => ?_) (fun c5 => ?_)
      · replace h := (if_pos c5).symm.trans h
        refine lv_iconst (v := 0) hx hb dX4_nearestGiver_75 (by decide) ?_
        refine lv_istore (lv' := [(5, .int (0 : Int32)), (4, .int (σ.2.1 33 (x3).toNatClampNeg)), (0, .ref (g.2.1 7)), (2, .int x2), (3, .int x3)]) hx hb dX4_nearestGiver_76 hl (by decide) rfl (fun ls hl => ?_)
        exact w_X4_nearestGiver_L78 C hk41 h hA (lv_sub hl [2, 3, 4, 1, 0] rfl)
      · replace h := (if_neg c5).symm.trans h
        refine lv_iload hx hb dX4_nearestGiver_72 (lv_at hl 0 rfl) ?_
        obtain rfl := Option.some.inj h
        exact r_iret C hA dX4_nearestGiver_74
set_option maxHeartbeats 4000000 in
theorem w_X4_nearestGiver_L41 {σ : SS} {x : Int32 × Int32} (C : Cx p l s m args meth c cX4_nearestGiver 6 wsX4_nearestGiver (some .int) RX4 g A) (h : f_X4_nearestGiver_L41 fu σ x = some R) {H : Heap} {locs : List Loc} {ls : Array Slot} (hA : Aw g A s.heap (wX g σ) H locs) (hl : lv_has ls 6 [(0, .ref (g.2.1 7)), (2, .int x.1), (3, .int x.2)]) : W p l e rmX4_nearestGiver s m args below meth c H locs 0 0 (MQ below (Qi g A (wX g R.2) R.1) args s 0 0 A) (F0 m 41 ls []) := by
  refine loopW (P := fun σ x => ∀ (H : Heap) (locs : List Loc) (ls : Array Slot), Aw g A s.heap (wX g σ) H locs → lv_has ls 6 [(0, .ref (g.2.1 7)), (2, .int x.1), (3, .int x.2)] → W p l e rmX4_nearestGiver s m args below meth c H locs 0 0 (MQ below (Qi g A (wX g R.2) R.1) args s 0 0 A) (F0 m 41 ls [])) (fun k hk σ x h9 H locs ls hA9 hl9 => ?_) fu σ x h H locs ls hA hl
  exact w_X4_nearestGiver_41 C hk h9 hA9 hl9
set_option maxHeartbeats 4000000 in
set_option maxRecDepth 100000 in
theorem w_X4_nearestGiver_23 {σ : SS} {x1 : Int32} {x2 : Int32} {y0 : Int32} {y1 : Int32} (C : Cx p l s m args meth c cX4_nearestGiver 6 wsX4_nearestGiver (some .int) RX4 g A) {k2 : SS → (Int32 × Int32) → Option (Int32 × SS)} (hk2 : ∀ (σ : SS) (x : Int32 × Int32), k2 σ x = some R → ∀ (H : Heap) (locs : List Loc) (ls : Array Slot), Aw g A s.heap (wX g σ) H locs → lv_has ls 6 [(0, .ref (g.2.1 7)), (1, .int x.1), (2, .int x.2)] → W p l e rmX4_nearestGiver s m args below meth c H locs 0 0 (MQ below (Qi g A (wX g R.2) R.1) args s 0 0 A) (F0 m 2 ls [])) (h : f_X4_nearestGiver_23 fu k2 σ x1 x2 y0 y1 = some R) {H : Heap} {locs : List Loc} {ls : Array Slot} (hA : Aw g A s.heap (wX g σ) H locs) (hl : lv_has ls 6 [(0, .ref (g.2.1 7)), (1, .int x1), (2, .int x2)]) : W p l e rmX4_nearestGiver s m args below meth c H locs 0 0 (MQ below (Qi g A (wX g R.2) R.1) args s 0 0 A) (F0 m 23 ls [.int y0, .int y1, .ref (g.2.1 31)]) := by
  have hx := C.1.1
  have hb := C.1.2.1
  unfold f_X4_nearestGiver_23 at h
  obtain ⟨g1, h⟩ := gd h
  refine Xst_31 C hA g1 dX4_nearestGiver_23 (fun H locs hA => ?_)
  refine lv_iinc (v := (x2 + 1)) (lv' := [(2, .int (x2 + 1)), (0, .ref (g.2.1 7)), (1, .int x1)]) hx hb dX4_nearestGiver_24 hl (k := 2) rfl rfl (by decide) rfl (fun ls hl => ?_)
  refine lv_goto (tgt := 2) hx hb dX4_nearestGiver_27 (by decide) ?_
  exact hk2 _ _ h _ _ _ hA (lv_sub hl [1, 2, 0] rfl)
set_option maxHeartbeats 4000000 in
set_option maxRecDepth 100000 in
theorem w_X4_nearestGiver_2 {σ : SS} {x1 : Int32} {x2 : Int32} (C : Cx p l s m args meth c cX4_nearestGiver 6 wsX4_nearestGiver (some .int) RX4 g A) {k2 : SS → (Int32 × Int32) → Option (Int32 × SS)} (hk2 : ∀ (σ : SS) (x : Int32 × Int32), k2 σ x = some R → ∀ (H : Heap) (locs : List Loc) (ls : Array Slot), Aw g A s.heap (wX g σ) H locs → lv_has ls 6 [(0, .ref (g.2.1 7)), (1, .int x.1), (2, .int x.2)] → W p l e rmX4_nearestGiver s m args below meth c H locs 0 0 (MQ below (Qi g A (wX g R.2) R.1) args s 0 0 A) (F0 m 2 ls [])) (h : f_X4_nearestGiver_2 fu k2 σ x1 x2 = some R) {H : Heap} {locs : List Loc} {ls : Array Slot} (hA : Aw g A s.heap (wX g σ) H locs) (hl : lv_has ls 6 [(0, .ref (g.2.1 7)), (1, .int x1), (2, .int x2)]) : W p l e rmX4_nearestGiver s m args below meth c H locs 0 0 (MQ below (Qi g A (wX g R.2) R.1) args s 0 0 A) (F0 m 2 ls []) := by
  have hx := C.1.1
  have hb := C.1.2.1
  unfold f_X4_nearestGiver_2 at h
  refine lv_iload_n hx hb dX4_nearestGiver_2 rfl (lv_at hl 2 rfl) ?_
  refine lv_bipush (v := 12) hx hb dX4_nearestGiver_3 (by decide) ?_
  refine lv_icmp_ge (tgt := 30) hx hb dX4_nearestGiver_5 (by decide) (fun c1 => ?_) (fun c1 => ?_)
  · replace h := (if_pos c1).symm.trans h
    refine lv_aload_n hx hb dX4_nearestGiver_30 rfl (lv_at hl 0 rfl) ?_
    refine Xg_X4_queue C hA iX4_nearestGiver_X4 (by decide +kernel) dX4_nearestGiver_31 ?_
    refine lv_iconst (v := 0) hx hb dX4_nearestGiver_34 (by decide) ?_
    refine lv_iload_n hx hb dX4_nearestGiver_35 rfl (lv_at hl 1 rfl) ?_
    obtain ⟨g2, h⟩ := gd h
    refine Xst_33 C hA g2 dX4_nearestGiver_36 (fun H locs hA => ?_)
    refine lv_iconst (v := 1) hx hb dX4_nearestGiver_37 (by decide) ?_
    refine lv_istore_n (lv' := [(2, .int (1 : Int32)), (0, .ref (g.2.1 7)), (1, .int x1)]) hx hb dX4_nearestGiver_38 rfl hl (by decide) rfl (fun ls hl => ?_)
    refine lv_iconst (v := 0) hx hb dX4_nearestGiver_39 (by decide) ?_
    refine lv_istore_n (lv' := [(3, .int (0 : Int32)), (2, .int (1 : Int32)), (0, .ref (g.2.1 7)), (1, .int x1)]) hx hb dX4_nearestGiver_40 rfl hl (by decide) rfl (fun ls hl => ?_)
    exact w_X4_nearestGiver_L41 C h hA (lv_sub hl [2, 1, 0] rfl)
  · replace h := (if_neg c1).symm.trans h
    refine lv_aload_n hx hb dX4_nearestGiver_8 rfl (lv_at hl 0 rfl) ?_
    refine Xg_X4_found C hA iX4_nearestGiver_X4 (by decide +kernel) dX4_nearestGiver_9 ?_
    refine lv_iload_n hx hb dX4_nearestGiver_12 rfl (lv_at hl 2 rfl) ?_
    refine lv_iload_n hx hb dX4_nearestGiver_13 rfl (lv_at hl 2 rfl) ?_
    refine lv_iload_n hx hb dX4_nearestGiver_14 rfl (lv_at hl 1 rfl) ?_
    refine lv_icmp_ne (tgt := 22) hx hb dX4_nearestGiver_15 (by decide) (fun c3 => ?_) (fun c3 => ?_)
    · replace h := (if_neg c3).symm.trans h
      refine lv_iconst (v := 0) hx hb dX4_nearestGiver_22 (by decide) ?_
      exact w_X4_nearestGiver_23 C hk2 h hA (lv_sub hl [0, 1, 2] rfl)
    · replace h := (if_pos c3).symm.trans h
      refine lv_iconst (v := 1) hx hb dX4_nearestGiver_18 (by decide) ?_
      refine lv_goto (tgt := 23) hx hb dX4_nearestGiver_19 (by decide) ?_
      exact w_X4_nearestGiver_23 C hk2 h hA (lv_sub hl [0, 1, 2] rfl)
set_option maxHeartbeats 4000000 in
theorem w_X4_nearestGiver_L2 {σ : SS} {x : Int32 × Int32} (C : Cx p l s m args meth c cX4_nearestGiver 6 wsX4_nearestGiver (some .int) RX4 g A) (h : f_X4_nearestGiver_L2 fu σ x = some R) {H : Heap} {locs : List Loc} {ls : Array Slot} (hA : Aw g A s.heap (wX g σ) H locs) (hl : lv_has ls 6 [(0, .ref (g.2.1 7)), (1, .int x.1), (2, .int x.2)]) : W p l e rmX4_nearestGiver s m args below meth c H locs 0 0 (MQ below (Qi g A (wX g R.2) R.1) args s 0 0 A) (F0 m 2 ls []) := by
  refine loopW (P := fun σ x => ∀ (H : Heap) (locs : List Loc) (ls : Array Slot), Aw g A s.heap (wX g σ) H locs → lv_has ls 6 [(0, .ref (g.2.1 7)), (1, .int x.1), (2, .int x.2)] → W p l e rmX4_nearestGiver s m args below meth c H locs 0 0 (MQ below (Qi g A (wX g R.2) R.1) args s 0 0 A) (F0 m 2 ls [])) (fun k hk σ x h9 H locs ls hA9 hl9 => ?_) fu σ x h H locs ls hA hl
  exact w_X4_nearestGiver_2 C hk h9 hA9 hl9
set_option maxHeartbeats 4000000 in
set_option maxRecDepth 100000 in
theorem w_X4_nearestGiver_0 {σ : SS} {x1 : Int32} (C : Cx p l s m args meth c cX4_nearestGiver 6 wsX4_nearestGiver (some .int) RX4 g A) (h : f_X4_nearestGiver fu σ x1 = some R) {H : Heap} {locs : List Loc} {ls : Array Slot} (hA : Aw g A s.heap (wX g σ) H locs) (hl : lv_has ls 6 [(0, .ref (g.2.1 7)), (1, .int x1)]) : W p l e rmX4_nearestGiver s m args below meth c H locs 0 0 (MQ below (Qi g A (wX g R.2) R.1) args s 0 0 A) (F0 m 0 ls []) := by
  have hx := C.1.1
  have hb := C.1.2.1
  unfold f_X4_nearestGiver at h
  refine lv_iconst (v := 0) hx hb dX4_nearestGiver_0 (by decide) ?_
  refine lv_istore_n (lv' := [(2, .int (0 : Int32)), (0, .ref (g.2.1 7)), (1, .int x1)]) hx hb dX4_nearestGiver_1 rfl hl (by decide) rfl (fun ls hl => ?_)
  exact w_X4_nearestGiver_L2 C h hA (lv_sub hl [1, 2, 0] rfl)
end
set_option maxRecDepth 100000 in
theorem k_X4_nearestGiver {l : Launch} {g : Gm} {fu : Nat} {σ : SS} {x1 : Int32} {R : Int32 × SS} (hlt : l.stackTraces = false) (h : f_X4_nearestGiver fu σ x1 = some R) (sz : Nat) : Met l yX4_nearestGiver wsX4_nearestGiver rmX4_nearestGiver (Pw g (wX g σ) [.ref (g.2.1 7), .int x1] sz) (Qi g (va_A (wX g σ) sz) (wX g R.2) R.1) 0 0 (va_A (wX g σ) sz) :=
  ofM (own := RX4) hlt (by decide) rfl rfl (Nat.le_of_ble_eq_true rfl) (fun p e s m below meth c hsz C hA ls hl => w_X4_nearestGiver_0 C h hA hl)
abbrev rmX4_handOn : Room := { frames := 1, cells := 0, slots := 0, locals := 30 }
theorem iX4_handOn_X4 : ∀ x ∈ wsX40, x ∈ wsX4_handOn := by decide +kernel
theorem nd_X4_handOn : yX4_handOn.cls = RX4 ∧ yX4_handOn.cls ≠ "java/lang/invoke/MethodHandle" ∧ yX4_handOn.cls ≠ "java/lang/invoke/VarHandle" ∧ (parseMethodDescriptor yX4_handOn.desc).map (fun d => d.parameters.length) = some 2 := by decide +kernel
def f_X4_handOn_77 (fu : Nat) (k77 : SS → (Int32 × Int64 × Int32 × Int32) → Option (Int64 × SS)) (σ : SS) (x2 : Int32) (x3 : Int64) (x5 : Int32) (x6 : Int32) : Option (Int64 × SS) :=
  (if (12 : Int32) ≤ x6 then some (x3, σ) else (if x5 = x2 then some (x3, σ) else if inB x5 12 then if inB (σ.2.1 32 (x5).toNatClampNeg) 12 then k77 (sL (sL σ (40 + (x5).toNatClampNeg) ((σ.2.1 32 (x5).toNatClampNeg)).toNatClampNeg ((σ.2.2 (40 + (x5).toNatClampNeg) ((σ.2.1 32 (x5).toNatClampNeg)).toNatClampNeg) - x3)) (40 + ((σ.2.1 32 (x5).toNatClampNeg)).toNatClampNeg) (x5).toNatClampNeg (((sL σ (40 + (x5).toNatClampNeg) ((σ.2.1 32 (x5).toNatClampNeg)).toNatClampNeg ((σ.2.2 (40 + (x5).toNatClampNeg) ((σ.2.1 32 (x5).toNatClampNeg)).toNatClampNeg) - x3)).2.2 (40 + ((σ.2.1 32 (x5).toNatClampNeg)).toNatClampNeg) (x5).toNatClampNeg) + x3)) (x2, x3, (σ.2.1 32 (x5).toNatClampNeg), (x6 + 1)) else none else none))
def f_X4_handOn_L77 (fu : Nat) : SS → (Int32 × Int64 × Int32 × Int32) → Option (Int64 × SS) := loopN (fun k77 σ x => f_X4_handOn_77 fu k77 σ x.1 x.2.1 x.2.2.1 x.2.2.2) fu
def f_X4_handOn_61 (fu : Nat) (σ : SS) (x1 : Int32) (x2 : Int32) (x3 : Int64) : Option (Int64 × SS) :=
  if inB x1 12 then f_X4_handOn_L77 fu (sL σ 29 (x1).toNatClampNeg ((σ.2.2 29 (x1).toNatClampNeg) - x3)) (x2, x3, x1, (0 : Int32)) else none
def f_X4_handOn_13 (fu : Nat) (k13 : SS → (Int32 × Int32 × Int64 × Int32 × Int32) → Option (Int64 × SS)) (σ : SS) (x1 : Int32) (x2 : Int32) (x3 : Int64) (x5 : Int32) (x6 : Int32) : Option (Int64 × SS) :=
  (if (12 : Int32) ≤ x6 then f_X4_handOn_61 fu σ x1 x2 x3 else (if x5 = x2 then f_X4_handOn_61 fu σ x1 x2 x3 else if inB x5 12 then if inB (σ.2.1 32 (x5).toNatClampNeg) 12 then k13 σ (x1, x2, (if (σ.2.2 (40 + (x5).toNatClampNeg) ((σ.2.1 32 (x5).toNatClampNeg)).toNatClampNeg) < x3 then (σ.2.2 (40 + (x5).toNatClampNeg) ((σ.2.1 32 (x5).toNatClampNeg)).toNatClampNeg) else x3), (σ.2.1 32 (x5).toNatClampNeg), (x6 + 1)) else none else none))
def f_X4_handOn_L13 (fu : Nat) : SS → (Int32 × Int32 × Int64 × Int32 × Int32) → Option (Int64 × SS) := loopN (fun k13 σ x => f_X4_handOn_13 fu k13 σ x.1 x.2.1 x.2.2.1 x.2.2.2.1 x.2.2.2.2) fu
def f_X4_handOn (fu : Nat) (σ : SS) (x1 : Int32) (x2 : Int32) : Option (Int64 × SS) :=
  if inB x1 12 then f_X4_handOn_L13 fu σ (x1, x2, (σ.2.2 29 (x1).toNatClampNeg), x1, (0 : Int32)) else none
section
variable {p : Program} {l : Launch} {e : Env} {s : State} {m : MethodId} {args : Array Value} {below : List Frame} {meth : Method} {c : Code} {g : Gm} {A : Nat → Prop} {fu : Nat} {R : Int64 × SS}
set_option maxHeartbeats 4000000 in
set_option maxRecDepth 100000 in
theorem w_X4_handOn_77 {σ : SS} {x2 : Int32} {x3 : Int64} {x5 : Int32} {x6 : Int32} (C : Cx p l s m args meth c cX4_handOn 7 wsX4_handOn (some .long) RX4 g A) {k77 : SS → (Int32 × Int64 × Int32 × Int32) → Option (Int64 × SS)} (hk77 : ∀ (σ : SS) (x : Int32 × Int64 × Int32 × Int32), k77 σ x = some R → ∀ (H : Heap) (locs : List Loc) (ls : Array Slot), Aw g A s.heap (wX g σ) H locs → lv_has ls 7 [(0, .ref (g.2.1 7)), (2, .int x.1), (3, .long x.2.1), (5, .int x.2.2.1), (6, .int x.2.2.2)] → W p l e rmX4_handOn s m args below meth c H locs 0 0 (MQ below (Ql g A (wX g R.2) R.1) args s 0 0 A) (F0 m 77 ls [])) (h : f_X4_handOn_77 fu k77 σ x2 x3 x5 x6 = some R) {H : Heap} {locs : List Loc} {ls : Array Slot} (hA : Aw g A s.heap (wX g σ) H locs) (hl : lv_has ls 7 [(0, .ref (g.2.1 7)), (2, .int x2), (3, .long x3), (5, .int x5), (6, .int x6)]) : W p l e rmX4_handOn s m args below meth c H locs 0 0 (MQ below (Ql g A (wX g R.2) R.1) args s 0 0 A) (F0 m 77 ls []) := by
  have hx := C.1.1
  have hb := C.1.2.1
  unfold f_X4_handOn_77 at h
  refine lv_iload hx hb dX4_handOn_77 (lv_at hl 4 rfl) ?_
  refine lv_bipush (v := 12) hx hb dX4_handOn_79 (by decide) ?_
  refine lv_icmp_ge (tgt := 143) hx hb dX4_handOn_81 (by decide) (fun c1 => ?_) (fun c1 => ?_)
  · replace h := (if_pos c1).symm.trans h
    refine lv_lload_n hx hb dX4_handOn_143 rfl (lv_at hl 2 rfl) ?_
    obtain rfl := Option.some.inj h
    exact r_lret C hA dX4_handOn_144
  · replace h := (if_neg c1).symm.trans h
    refine lv_iload hx hb dX4_handOn_84 (lv_at hl 3 rfl) ?_
    refine lv_iload_n hx hb dX4_handOn_86 rfl (lv_at hl 1 rfl) ?_
    refine lv_icmp_eq (tgt := 143) hx hb dX4_handOn_87 (by decide) (fun c2 => ?_) (fun c2 => ?_)
    · replace h := (if_pos c2).symm.trans h
      refine lv_lload_n hx hb dX4_handOn_143 rfl (lv_at hl 2 rfl) ?_
      obtain rfl := Option.some.inj h
      exact r_lret C hA dX4_handOn_144
    · replace h := (if_neg c2).symm.trans h
      refine lv_aload_n hx hb dX4_handOn_90 rfl (lv_at hl 0 rfl) ?_
      refine Xg_X4_open C hA iX4_handOn_X4 (by decide +kernel) dX4_handOn_91 ?_
      refine lv_iload hx hb dX4_handOn_94 (lv_at hl 3 rfl) ?_
      obtain ⟨g3, h⟩ := gd h
      refine Xld_mat C hA g3 dX4_handOn_96 ?_
      refine lv_aload_n hx hb dX4_handOn_97 rfl (lv_at hl 0 rfl) ?_
      refine Xg_X4_next C hA iX4_handOn_X4 (by decide +kernel) dX4_handOn_98 ?_
      refine lv_iload hx hb dX4_handOn_101 (lv_at hl 3 rfl) ?_
      refine Xld_32 (v := (σ.2.1 32 (x5).toNatClampNeg)) C hA rfl g3 dX4_handOn_103 ?_
      refine lv_dup2_11 hx hb dX4_handOn_104 rfl rfl ?_
      obtain ⟨g4, h⟩ := gd h
      refine Xld_row (v := (σ.2.2 (40 + (x5).toNatClampNeg) ((σ.2.1 32 (x5).toNatClampNeg)).toNatClampNeg)) C hA (inB_nat g3) rfl g4 dX4_handOn_105 ?_
      refine lv_lload_n hx hb dX4_handOn_106 rfl (lv_at hl 2 rfl) ?_
      refine lv_lsub hx hb dX4_handOn_107 ?_
      refine Xst_row C hA (inB_nat g3) g4 dX4_handOn_108 (fun H locs hA => ?_)
      refine lv_aload_n hx hb dX4_handOn_109 rfl (lv_at hl 0 rfl) ?_
      refine Xg_X4_open C hA iX4_handOn_X4 (by decide +kernel) dX4_handOn_110 ?_
      refine lv_aload_n hx hb dX4_handOn_113 rfl (lv_at hl 0 rfl) ?_
      refine Xg_X4_next C hA iX4_handOn_X4 (by decide +kernel) dX4_handOn_114 ?_
      refine lv_iload hx hb dX4_handOn_117 (lv_at hl 3 rfl) ?_
      refine Xld_32 (v := (σ.2.1 32 (x5).toNatClampNeg)) C hA rfl g3 dX4_handOn_119 ?_
      refine Xld_mat C hA g4 dX4_handOn_120 ?_
      refine lv_iload hx hb dX4_handOn_121 (lv_at hl 3 rfl) ?_
      refine lv_dup2_11 hx hb dX4_handOn_123 rfl rfl ?_
      refine Xld_row (v := ((sL σ (40 + (x5).toNatClampNeg) ((σ.2.1 32 (x5).toNatClampNeg)).toNatClampNeg ((σ.2.2 (40 + (x5).toNatClampNeg) ((σ.2.1 32 (x5).toNatClampNeg)).toNatClampNeg) - x3)).2.2 (40 + ((σ.2.1 32 (x5).toNatClampNeg)).toNatClampNeg) (x5).toNatClampNeg)) C hA (inB_nat g4) rfl g3 dX4_handOn_124 ?_
      refine lv_lload_n hx hb dX4_handOn_125 rfl (lv_at hl 2 rfl) ?_
      refine lv_ladd hx hb dX4_handOn_126 ?_
      refine Xst_row C hA (inB_nat g4) g3 dX4_handOn_127 (fun H locs hA => ?_)
      refine lv_aload_n hx hb dX4_handOn_128 rfl (lv_at hl 0 rfl) ?_
      refine Xg_X4_next C hA iX4_handOn_X4 (by decide +kernel) dX4_handOn_129 ?_
      refine lv_iload hx hb dX4_handOn_132 (lv_at hl 3 rfl) ?_
      refine Xld_32 (v := (σ.2.1 32 (x5).toNatClampNeg)) C hA rfl g3 dX4_handOn_134 ?_
      refine lv_istore (lv' := [(5, .int (σ.2.1 32 (x5).toNatClampNeg)), (0, .ref (g.2.1 7)), (2, .int x2), (3, .long x3), (6, .int x6)]) hx hb dX4_handOn_135 hl (by decide) rfl (fun ls hl => ?_)
      refine lv_iinc (v := (x6 + 1)) (lv' := [(6, .int (x6 + 1)), (5, .int (σ.2.1 32 (x5).toNatClampNeg)), (0, .ref (g.2.1 7)), (2, .int x2), (3, .long x3)]) hx hb dX4_handOn_137 hl (k := 4) rfl rfl (by decide) rfl (fun ls hl => ?_)
      refine lv_goto (tgt := 77) hx hb dX4_handOn_140 (by decide) ?_
      exact hk77 _ _ h _ _ _ hA (lv_sub hl [2, 3, 4, 1, 0] rfl)
set_option maxHeartbeats 4000000 in
theorem w_X4_handOn_L77 {σ : SS} {x : Int32 × Int64 × Int32 × Int32} (C : Cx p l s m args meth c cX4_handOn 7 wsX4_handOn (some .long) RX4 g A) (h : f_X4_handOn_L77 fu σ x = some R) {H : Heap} {locs : List Loc} {ls : Array Slot} (hA : Aw g A s.heap (wX g σ) H locs) (hl : lv_has ls 7 [(0, .ref (g.2.1 7)), (2, .int x.1), (3, .long x.2.1), (5, .int x.2.2.1), (6, .int x.2.2.2)]) : W p l e rmX4_handOn s m args below meth c H locs 0 0 (MQ below (Ql g A (wX g R.2) R.1) args s 0 0 A) (F0 m 77 ls []) := by
  refine loopW (P := fun σ x => ∀ (H : Heap) (locs : List Loc) (ls : Array Slot), Aw g A s.heap (wX g σ) H locs → lv_has ls 7 [(0, .ref (g.2.1 7)), (2, .int x.1), (3, .long x.2.1), (5, .int x.2.2.1), (6, .int x.2.2.2)] → W p l e rmX4_handOn s m args below meth c H locs 0 0 (MQ below (Ql g A (wX g R.2) R.1) args s 0 0 A) (F0 m 77 ls [])) (fun k hk σ x h9 H locs ls hA9 hl9 => ?_) fu σ x h H locs ls hA hl
  exact w_X4_handOn_77 C hk h9 hA9 hl9
set_option maxHeartbeats 4000000 in
set_option maxRecDepth 100000 in
theorem w_X4_handOn_61 {σ : SS} {x1 : Int32} {x2 : Int32} {x3 : Int64} (C : Cx p l s m args meth c cX4_handOn 7 wsX4_handOn (some .long) RX4 g A) (h : f_X4_handOn_61 fu σ x1 x2 x3 = some R) {H : Heap} {locs : List Loc} {ls : Array Slot} (hA : Aw g A s.heap (wX g σ) H locs) (hl : lv_has ls 7 [(0, .ref (g.2.1 7)), (1, .int x1), (2, .int x2), (3, .long x3)]) : W p l e rmX4_handOn s m args below meth c H locs 0 0 (MQ below (Ql g A (wX g R.2) R.1) args s 0 0 A) (F0 m 61 ls []) := by
  have hx := C.1.1
  have hb := C.1.2.1
  unfold f_X4_handOn_61 at h
  refine lv_aload_n hx hb dX4_handOn_61 rfl (lv_at hl 0 rfl) ?_
  refine Xg_X4_stock C hA iX4_handOn_X4 (by decide +kernel) dX4_handOn_62 ?_
  refine lv_iload_n hx hb dX4_handOn_65 rfl (lv_at hl 1 rfl) ?_
  refine lv_dup2_11 hx hb dX4_handOn_66 rfl rfl ?_
  obtain ⟨g1, h⟩ := gd h
  refine Xld_29 (v := (σ.2.2 29 (x1).toNatClampNeg)) C hA rfl g1 dX4_handOn_67 ?_
  refine lv_lload_n hx hb dX4_handOn_68 rfl (lv_at hl 3 rfl) ?_
  refine lv_lsub hx hb dX4_handOn_69 ?_
  refine Xst_29 C hA g1 dX4_handOn_70 (fun H locs hA => ?_)
  refine lv_iload_n hx hb dX4_handOn_71 rfl (lv_at hl 1 rfl) ?_
  refine lv_istore (lv' := [(5, .int x1), (0, .ref (g.2.1 7)), (1, .int x1), (2, .int x2), (3, .long x3)]) hx hb dX4_handOn_72 hl (by decide) rfl (fun ls hl => ?_)
  refine lv_iconst (v := 0) hx hb dX4_handOn_74 (by decide) ?_
  refine lv_istore (lv' := [(6, .int (0 : Int32)), (5, .int x1), (0, .ref (g.2.1 7)), (1, .int x1), (2, .int x2), (3, .long x3)]) hx hb dX4_handOn_75 hl (by decide) rfl (fun ls hl => ?_)
  exact w_X4_handOn_L77 C h hA (lv_sub hl [2, 4, 5, 1, 0] rfl)
set_option maxHeartbeats 4000000 in
set_option maxRecDepth 100000 in
theorem w_X4_handOn_13 {σ : SS} {x1 : Int32} {x2 : Int32} {x3 : Int64} {x5 : Int32} {x6 : Int32} (C : Cx p l s m args meth c cX4_handOn 7 wsX4_handOn (some .long) RX4 g A) {k13 : SS → (Int32 × Int32 × Int64 × Int32 × Int32) → Option (Int64 × SS)} (hk13 : ∀ (σ : SS) (x : Int32 × Int32 × Int64 × Int32 × Int32), k13 σ x = some R → ∀ (H : Heap) (locs : List Loc) (ls : Array Slot), Aw g A s.heap (wX g σ) H locs → lv_has ls 7 [(0, .ref (g.2.1 7)), (1, .int x.1), (2, .int x.2.1), (3, .long x.2.2.1), (5, .int x.2.2.2.1), (6, .int x.2.2.2.2)] → W p l e rmX4_handOn s m args below meth c H locs 0 0 (MQ below (Ql g A (wX g R.2) R.1) args s 0 0 A) (F0 m 13 ls [])) (h : f_X4_handOn_13 fu k13 σ x1 x2 x3 x5 x6 = some R) {H : Heap} {locs : List Loc} {ls : Array Slot} (hA : Aw g A s.heap (wX g σ) H locs) (hl : lv_has ls 7 [(0, .ref (g.2.1 7)), (1, .int x1), (2, .int x2), (3, .long x3), (5, .int x5), (6, .int x6)]) : W p l e rmX4_handOn s m args below meth c H locs 0 0 (MQ below (Ql g A (wX g R.2) R.1) args s 0 0 A) (F0 m 13 ls []) := by
  have hx := C.1.1
  have hb := C.1.2.1
  unfold f_X4_handOn_13 at h
  refine lv_iload hx hb dX4_handOn_13 (lv_at hl 5 rfl) ?_
  refine lv_bipush (v := 12) hx hb dX4_handOn_15 (by decide) ?_
  refine lv_icmp_ge (tgt := 61) hx hb dX4_handOn_17 (by decide) (fun c1 => ?_) (fun c1 => ?_)
  · replace h := (if_pos c1).symm.trans h
    exact w_X4_handOn_61 C h hA (lv_sub hl [0, 1, 2, 3] rfl)
  · replace h := (if_neg c1).symm.trans h
    refine lv_iload hx hb dX4_handOn_20 (lv_at hl 4 rfl) ?_
    refine lv_iload_n hx hb dX4_handOn_22 rfl (lv_at hl 2 rfl) ?_
    refine lv_icmp_eq (tgt := 61) hx hb dX4_handOn_23 (by decide) (fun c2 => ?_) (fun c2 => ?_)
    · replace h := (if_pos c2).symm.trans h
      exact w_X4_handOn_61 C h hA (lv_sub hl [0, 1, 2, 3] rfl)
    · replace h := (if_neg c2).symm.trans h
      refine lv_lload_n hx hb dX4_handOn_26 rfl (lv_at hl 3 rfl) ?_
      refine lv_aload_n hx hb dX4_handOn_27 rfl (lv_at hl 0 rfl) ?_
      refine Xg_X4_open C hA iX4_handOn_X4 (by decide +kernel) dX4_handOn_28 ?_
      refine lv_iload hx hb dX4_handOn_31 (lv_at hl 4 rfl) ?_
      obtain ⟨g3, h⟩ := gd h
      refine Xld_mat C hA g3 dX4_handOn_33 ?_
      refine lv_aload_n hx hb dX4_handOn_34 rfl (lv_at hl 0 rfl) ?_
      refine Xg_X4_next C hA iX4_handOn_X4 (by decide +kernel) dX4_handOn_35 ?_
      refine lv_iload hx hb dX4_handOn_38 (lv_at hl 4 rfl) ?_
      refine Xld_32 (v := (σ.2.1 32 (x5).toNatClampNeg)) C hA rfl g3 dX4_handOn_40 ?_
      obtain ⟨g4, h⟩ := gd h
      refine Xld_row (v := (σ.2.2 (40 + (x5).toNatClampNeg) ((σ.2.1 32 (x5).toNatClampNeg)).toNatClampNeg)) C hA (inB_nat g3) rfl g4 dX4_handOn_41 ?_
      refine va_mmin_long (rest := []) hx hb (C.1.2.2.1.trans hl.1.symm) C.1.2.2.2.1 (C.1.2.2.2.2 (.methodLink RX4 66 Lib.MathLoose.min_long.x) (by decide +kernel)) (C.1.2.2.2.2 (.static Lib.MathLoose.min_long.x) (by decide +kernel)) (C.1.2.2.2.2 (.initialized "java/lang/Math") (by decide +kernel)) (C.1.2.2.2.2 (.code Lib.MathLoose.min_long.x Lib.MathLoose.min_long.code 4 (some .long)) (by decide +kernel)) (Nat.le_of_ble_eq_true rfl) (Nat.le_of_ble_eq_true rfl) (Nat.le_of_ble_eq_true rfl) (Nat.le_of_ble_eq_true rfl) dX4_handOn_42 ?_
      refine lv_lstore_n (lv' := [(3, .long (if (σ.2.2 (40 + (x5).toNatClampNeg) ((σ.2.1 32 (x5).toNatClampNeg)).toNatClampNeg) < x3 then (σ.2.2 (40 + (x5).toNatClampNeg) ((σ.2.1 32 (x5).toNatClampNeg)).toNatClampNeg) else x3)), (0, .ref (g.2.1 7)), (1, .int x1), (2, .int x2), (5, .int x5), (6, .int x6)]) hx hb dX4_handOn_45 rfl hl (by decide) rfl (fun ls hl => ?_)
      refine lv_aload_n hx hb dX4_handOn_46 rfl (lv_at hl 1 rfl) ?_
      refine Xg_X4_next C hA iX4_handOn_X4 (by decide +kernel) dX4_handOn_47 ?_
      refine lv_iload hx hb dX4_handOn_50 (lv_at hl 4 rfl) ?_
      refine Xld_32 (v := (σ.2.1 32 (x5).toNatClampNeg)) C hA rfl g3 dX4_handOn_52 ?_
      refine lv_istore (lv' := [(5, .int (σ.2.1 32 (x5).toNatClampNeg)), (3, .long (if (σ.2.2 (40 + (x5).toNatClampNeg) ((σ.2.1 32 (x5).toNatClampNeg)).toNatClampNeg) < x3 then (σ.2.2 (40 + (x5).toNatClampNeg) ((σ.2.1 32 (x5).toNatClampNeg)).toNatClampNeg) else x3)), (0, .ref (g.2.1 7)), (1, .int x1), (2, .int x2), (6, .int x6)]) hx hb dX4_handOn_53 hl (by decide) rfl (fun ls hl => ?_)
      refine lv_iinc (v := (x6 + 1)) (lv' := [(6, .int (x6 + 1)), (5, .int (σ.2.1 32 (x5).toNatClampNeg)), (3, .long (if (σ.2.2 (40 + (x5).toNatClampNeg) ((σ.2.1 32 (x5).toNatClampNeg)).toNatClampNeg) < x3 then (σ.2.2 (40 + (x5).toNatClampNeg) ((σ.2.1 32 (x5).toNatClampNeg)).toNatClampNeg) else x3)), (0, .ref (g.2.1 7)), (1, .int x1), (2, .int x2)]) hx hb dX4_handOn_55 hl (k := 5) rfl rfl (by decide) rfl (fun ls hl => ?_)
      refine lv_goto (tgt := 13) hx hb dX4_handOn_58 (by decide) ?_
      exact hk13 _ _ h _ _ _ hA (lv_sub hl [3, 4, 5, 2, 1, 0] rfl)
set_option maxHeartbeats 4000000 in
theorem w_X4_handOn_L13 {σ : SS} {x : Int32 × Int32 × Int64 × Int32 × Int32} (C : Cx p l s m args meth c cX4_handOn 7 wsX4_handOn (some .long) RX4 g A) (h : f_X4_handOn_L13 fu σ x = some R) {H : Heap} {locs : List Loc} {ls : Array Slot} (hA : Aw g A s.heap (wX g σ) H locs) (hl : lv_has ls 7 [(0, .ref (g.2.1 7)), (1, .int x.1), (2, .int x.2.1), (3, .long x.2.2.1), (5, .int x.2.2.2.1), (6, .int x.2.2.2.2)]) : W p l e rmX4_handOn s m args below meth c H locs 0 0 (MQ below (Ql g A (wX g R.2) R.1) args s 0 0 A) (F0 m 13 ls []) := by
  refine loopW (P := fun σ x => ∀ (H : Heap) (locs : List Loc) (ls : Array Slot), Aw g A s.heap (wX g σ) H locs → lv_has ls 7 [(0, .ref (g.2.1 7)), (1, .int x.1), (2, .int x.2.1), (3, .long x.2.2.1), (5, .int x.2.2.2.1), (6, .int x.2.2.2.2)] → W p l e rmX4_handOn s m args below meth c H locs 0 0 (MQ below (Ql g A (wX g R.2) R.1) args s 0 0 A) (F0 m 13 ls [])) (fun k hk σ x h9 H locs ls hA9 hl9 => ?_) fu σ x h H locs ls hA hl
  exact w_X4_handOn_13 C hk h9 hA9 hl9
set_option maxHeartbeats 4000000 in
set_option maxRecDepth 100000 in
theorem w_X4_handOn_0 {σ : SS} {x1 : Int32} {x2 : Int32} (C : Cx p l s m args meth c cX4_handOn 7 wsX4_handOn (some .long) RX4 g A) (h : f_X4_handOn fu σ x1 x2 = some R) {H : Heap} {locs : List Loc} {ls : Array Slot} (hA : Aw g A s.heap (wX g σ) H locs) (hl : lv_has ls 7 [(0, .ref (g.2.1 7)), (1, .int x1), (2, .int x2)]) : W p l e rmX4_handOn s m args below meth c H locs 0 0 (MQ below (Ql g A (wX g R.2) R.1) args s 0 0 A) (F0 m 0 ls []) := by
  have hx := C.1.1
  have hb := C.1.2.1
  unfold f_X4_handOn at h
  refine lv_aload_n hx hb dX4_handOn_0 rfl (lv_at hl 0 rfl) ?_
  refine Xg_X4_stock C hA iX4_handOn_X4 (by decide +kernel) dX4_handOn_1 ?_
  refine lv_iload_n hx hb dX4_handOn_4 rfl (lv_at hl 1 rfl) ?_
  obtain ⟨g1, h⟩ := gd h
  refine Xld_29 (v := (σ.2.2 29 (x1).toNatClampNeg)) C hA rfl g1 dX4_handOn_5 ?_
  refine lv_lstore_n (lv' := [(3, .long (σ.2.2 29 (x1).toNatClampNeg)), (0, .ref (g.2.1 7)), (1, .int x1), (2, .int x2)]) hx hb dX4_handOn_6 rfl hl (by decide) rfl (fun ls hl => ?_)
  refine lv_iload_n hx hb dX4_handOn_7 rfl (lv_at hl 2 rfl) ?_
  refine lv_istore (lv' := [(5, .int x1), (3, .long (σ.2.2 29 (x1).toNatClampNeg)), (0, .ref (g.2.1 7)), (1, .int x1), (2, .int x2)]) hx hb dX4_handOn_8 hl (by decide) rfl (fun ls hl => ?_)
  refine lv_iconst (v := 0) hx hb dX4_handOn_10 (by decide) ?_
  refine lv_istore (lv' := [(6, .int (0 : Int32)), (5, .int x1), (3, .long (σ.2.2 29 (x1).toNatClampNeg)), (0, .ref (g.2.1 7)), (1, .int x1), (2, .int x2)]) hx hb dX4_handOn_11 hl (by decide) rfl (fun ls hl => ?_)
  exact w_X4_handOn_L13 C h hA (lv_sub hl [3, 4, 5, 2, 1, 0] rfl)
end
set_option maxRecDepth 100000 in
theorem k_X4_handOn {l : Launch} {g : Gm} {fu : Nat} {σ : SS} {x1 : Int32} {x2 : Int32} {R : Int64 × SS} (hlt : l.stackTraces = false) (h : f_X4_handOn fu σ x1 x2 = some R) (sz : Nat) : Met l yX4_handOn wsX4_handOn rmX4_handOn (Pw g (wX g σ) [.ref (g.2.1 7), .int x1, .int x2] sz) (Ql g (va_A (wX g σ) sz) (wX g R.2) R.1) 0 0 (va_A (wX g σ) sz) :=
  ofM (own := RX4) hlt (by decide) rfl rfl (Nat.le_of_ble_eq_true rfl) (fun p e s m below meth c hsz C hA ls hl => w_X4_handOn_0 C h hA hl)
abbrev rmX4_most : Room := { frames := 2, cells := 0, slots := 0, locals := 56 }
theorem iX4_most_X4 : ∀ x ∈ wsX40, x ∈ wsX4_most := by decide +kernel
theorem nd_X4_most : yX4_most.cls = RX4 ∧ yX4_most.cls ≠ "java/lang/invoke/MethodHandle" ∧ yX4_most.cls ≠ "java/lang/invoke/VarHandle" ∧ (parseMethodDescriptor yX4_most.desc).map (fun d => d.parameters.length) = some 1 := by decide +kernel
def f_X4_most_17 (fu : Nat) (k17 : SS → (Int32 × Int64 × Int32) → Option (Int64 × SS)) (σ : SS) (x1 : Int32) (x2 : Int64) (x4 : Int32) : Option (Int64 × SS) :=
  (if (10000 : Int32) ≤ x4 then some (x2, σ) else bnd (f_X4_nearestGiver fu σ x1) (fun r2 t4 => (if r2 = (-1) then some (x2, t4) else bnd (f_X4_handOn fu t4 r2 x1) (fun r6 t8 => k17 t8 (x1, (x2 + r6), (x4 + 1))))))
def f_X4_most_L17 (fu : Nat) : SS → (Int32 × Int64 × Int32) → Option (Int64 × SS) := loopN (fun k17 σ x => f_X4_most_17 fu k17 σ x.1 x.2.1 x.2.2) fu
def f_X4_most (fu : Nat) (σ : SS) (x1 : Int32) : Option (Int64 × SS) :=
  if inB x1 12 then f_X4_most_L17 fu (sL σ 29 (x1).toNatClampNeg (0 : Int64)) (x1, (σ.2.2 29 (x1).toNatClampNeg), (0 : Int32)) else none
section
variable {p : Program} {l : Launch} {e : Env} {s : State} {m : MethodId} {args : Array Value} {below : List Frame} {meth : Method} {c : Code} {g : Gm} {A : Nat → Prop} {fu : Nat} {R : Int64 × SS}
set_option maxHeartbeats 4000000 in
set_option maxRecDepth 100000 in
theorem w_X4_most_17 {σ : SS} {x1 : Int32} {x2 : Int64} {x4 : Int32} (C : Cx p l s m args meth c cX4_most 6 wsX4_most (some .long) RX4 g A) {k17 : SS → (Int32 × Int64 × Int32) → Option (Int64 × SS)} (hk17 : ∀ (σ : SS) (x : Int32 × Int64 × Int32), k17 σ x = some R → ∀ (H : Heap) (locs : List Loc) (ls : Array Slot), Aw g A s.heap (wX g σ) H locs → lv_has ls 6 [(0, .ref (g.2.1 7)), (1, .int x.1), (2, .long x.2.1), (4, .int x.2.2)] → W p l e rmX4_most s m args below meth c H locs 0 0 (MQ below (Ql g A (wX g R.2) R.1) args s 0 0 A) (F0 m 17 ls [])) (h : f_X4_most_17 fu k17 σ x1 x2 x4 = some R) {H : Heap} {locs : List Loc} {ls : Array Slot} (hA : Aw g A s.heap (wX g σ) H locs) (hl : lv_has ls 6 [(0, .ref (g.2.1 7)), (1, .int x1), (2, .long x2), (4, .int x4)]) : W p l e rmX4_most s m args below meth c H locs 0 0 (MQ below (Ql g A (wX g R.2) R.1) args s 0 0 A) (F0 m 17 ls []) := by
  have hx := C.1.1
  have hb := C.1.2.1
  unfold f_X4_most_17 at h
  refine lv_iload hx hb dX4_most_17 (lv_at hl 3 rfl) ?_
  refine lv_sipush (v := 10000) hx hb dX4_most_19 (by decide) ?_
  refine lv_icmp_ge (tgt := 57) hx hb dX4_most_22 (by decide) (fun c1 => ?_) (fun c1 => ?_)
  · replace h := (if_pos c1).symm.trans h
    refine lv_lload_n hx hb dX4_most_57 rfl (lv_at hl 2 rfl) ?_
    obtain rfl := Option.some.inj h
    exact r_lret C hA dX4_most_58
  · replace h := (if_neg c1).symm.trans h
    refine lv_aload_n hx hb dX4_most_25 rfl (lv_at hl 0 rfl) ?_
    refine lv_iload_n hx hb dX4_most_26 rfl (lv_at hl 1 rfl) ?_
    obtain ⟨r2, t4, hc3, h⟩ := bd h
    refine r_callVi (r := r2) (w1 := wX g t4) (As := [.int x1]) (rest := []) C hA hl.1 (k_X4_nearestGiver C.2.2.2.2.2.2 hc3) (cwV 1 C.1.2.2.2.2 gX4_most_X4_nearestGiver rfl rfl rfl nd_X4_nearestGiver ⟨Nat.le_of_ble_eq_true rfl, Nat.le_of_ble_eq_true rfl⟩) 7 rfl rfl rfl rfl (Nat.le_of_ble_eq_true rfl) dX4_most_27 ⟨Nat.le_of_ble_eq_true rfl, Nat.le_of_ble_eq_true rfl⟩ (fun H locs hA => ?_)
    refine lv_istore (lv' := [(5, .int r2), (0, .ref (g.2.1 7)), (1, .int x1), (2, .long x2), (4, .int x4)]) hx hb dX4_most_30 hl (by decide) rfl (fun ls hl => ?_)
    refine lv_iload hx hb dX4_most_32 (lv_at hl 0 rfl) ?_
    refine lv_iconst (v := (-1)) hx hb dX4_most_34 (by decide) ?_
    refine lv_icmp_ne (tgt := 41) hx hb dX4_most_35 (by decide) (fun c5 => ?_) (fun c5 => ?_)
    · replace h := (if_neg c5).symm.trans h
      refine lv_lload_n hx hb dX4_most_41 rfl (lv_at hl 3 rfl) ?_
      refine lv_aload_n hx hb dX4_most_42 rfl (lv_at hl 1 rfl) ?_
      refine lv_iload hx hb dX4_most_43 (lv_at hl 0 rfl) ?_
      refine lv_iload_n hx hb dX4_most_45 rfl (lv_at hl 2 rfl) ?_
      obtain ⟨r6, t8, hc7, h⟩ := bd h
      refine r_callVl (r := r6) (w1 := wX g t8) (As := [.int r2, .int x1]) (rest := [.long x2]) C hA hl.1 (k_X4_handOn C.2.2.2.2.2.2 hc7) (cwV 2 C.1.2.2.2.2 gX4_most_X4_handOn rfl rfl rfl nd_X4_handOn ⟨Nat.le_of_ble_eq_true rfl, Nat.le_of_ble_eq_true rfl⟩) 7 rfl rfl rfl rfl (Nat.le_of_ble_eq_true rfl) dX4_most_46 ⟨Nat.le_of_ble_eq_true rfl, Nat.le_of_ble_eq_true rfl⟩ (fun H locs hA => ?_)
      refine lv_ladd hx hb dX4_most_49 ?_
      refine lv_lstore_n (lv' := [(2, .long (x2 + r6)), (5, .int r2), (0, .ref (g.2.1 7)), (1, .int x1), (4, .int x4)]) hx hb dX4_most_50 rfl hl (by decide) rfl (fun ls hl => ?_)
      refine lv_iinc (v := (x4 + 1)) (lv' := [(4, .int (x4 + 1)), (2, .long (x2 + r6)), (5, .int r2), (0, .ref (g.2.1 7)), (1, .int x1)]) hx hb dX4_most_51 hl (k := 4) rfl rfl (by decide) rfl (fun ls hl => ?_)
      refine lv_goto (tgt := 17) hx hb dX4_most_54 (by decide) ?_
      exact hk17 _ _ h _ _ _ hA (lv_sub hl [3, 4, 1, 0] rfl)
    · replace h := (if_pos c5).symm.trans h
      refine lv_goto (tgt := 57) hx hb dX4_most_38 (by decide) ?_
      refine lv_lload_n hx hb dX4_most_57 rfl (lv_at hl 3 rfl) ?_
      obtain rfl := Option.some.inj h
      exact r_lret C hA dX4_most_58
set_option maxHeartbeats 4000000 in
theorem w_X4_most_L17 {σ : SS} {x : Int32 × Int64 × Int32} (C : Cx p l s m args meth c cX4_most 6 wsX4_most (some .long) RX4 g A) (h : f_X4_most_L17 fu σ x = some R) {H : Heap} {locs : List Loc} {ls : Array Slot} (hA : Aw g A s.heap (wX g σ) H locs) (hl : lv_has ls 6 [(0, .ref (g.2.1 7)), (1, .int x.1), (2, .long x.2.1), (4, .int x.2.2)]) : W p l e rmX4_most s m args below meth c H locs 0 0 (MQ below (Ql g A (wX g R.2) R.1) args s 0 0 A) (F0 m 17 ls []) := by
  refine loopW (P := fun σ x => ∀ (H : Heap) (locs : List Loc) (ls : Array Slot), Aw g A s.heap (wX g σ) H locs → lv_has ls 6 [(0, .ref (g.2.1 7)), (1, .int x.1), (2, .long x.2.1), (4, .int x.2.2)] → W p l e rmX4_most s m args below meth c H locs 0 0 (MQ below (Ql g A (wX g R.2) R.1) args s 0 0 A) (F0 m 17 ls [])) (fun k hk σ x h9 H locs ls hA9 hl9 => ?_) fu σ x h H locs ls hA hl
  exact w_X4_most_17 C hk h9 hA9 hl9
set_option maxHeartbeats 4000000 in
set_option maxRecDepth 100000 in
theorem w_X4_most_0 {σ : SS} {x1 : Int32} (C : Cx p l s m args meth c cX4_most 6 wsX4_most (some .long) RX4 g A) (h : f_X4_most fu σ x1 = some R) {H : Heap} {locs : List Loc} {ls : Array Slot} (hA : Aw g A s.heap (wX g σ) H locs) (hl : lv_has ls 6 [(0, .ref (g.2.1 7)), (1, .int x1)]) : W p l e rmX4_most s m args below meth c H locs 0 0 (MQ below (Ql g A (wX g R.2) R.1) args s 0 0 A) (F0 m 0 ls []) := by
  have hx := C.1.1
  have hb := C.1.2.1
  unfold f_X4_most at h
  refine lv_aload_n hx hb dX4_most_0 rfl (lv_at hl 0 rfl) ?_
  refine Xg_X4_stock C hA iX4_most_X4 (by decide +kernel) dX4_most_1 ?_
  refine lv_iload_n hx hb dX4_most_4 rfl (lv_at hl 1 rfl) ?_
  obtain ⟨g1, h⟩ := gd h
  refine Xld_29 (v := (σ.2.2 29 (x1).toNatClampNeg)) C hA rfl g1 dX4_most_5 ?_
  refine lv_lstore_n (lv' := [(2, .long (σ.2.2 29 (x1).toNatClampNeg)), (0, .ref (g.2.1 7)), (1, .int x1)]) hx hb dX4_most_6 rfl hl (by decide) rfl (fun ls hl => ?_)
  refine lv_aload_n hx hb dX4_most_7 rfl (lv_at hl 1 rfl) ?_
  refine Xg_X4_stock C hA iX4_most_X4 (by decide +kernel) dX4_most_8 ?_
  refine lv_iload_n hx hb dX4_most_11 rfl (lv_at hl 2 rfl) ?_
  refine lv_lconst (v := 0) hx hb dX4_most_12 (by decide) ?_
  refine Xst_29 C hA g1 dX4_most_13 (fun H locs hA => ?_)
  refine lv_iconst (v := 0) hx hb dX4_most_14 (by decide) ?_
  refine lv_istore (lv' := [(4, .int (0 : Int32)), (2, .long (σ.2.2 29 (x1).toNatClampNeg)), (0, .ref (g.2.1 7)), (1, .int x1)]) hx hb dX4_most_15 hl (by decide) rfl (fun ls hl => ?_)
  exact w_X4_most_L17 C h hA (lv_sub hl [2, 3, 1, 0] rfl)
end
set_option maxRecDepth 100000 in
theorem k_X4_most {l : Launch} {g : Gm} {fu : Nat} {σ : SS} {x1 : Int32} {R : Int64 × SS} (hlt : l.stackTraces = false) (h : f_X4_most fu σ x1 = some R) (sz : Nat) : Met l yX4_most wsX4_most rmX4_most (Pw g (wX g σ) [.ref (g.2.1 7), .int x1] sz) (Ql g (va_A (wX g σ) sz) (wX g R.2) R.1) 0 0 (va_A (wX g σ) sz) :=
  ofM (own := RX4) hlt (by decide) rfl rfl (Nat.le_of_ble_eq_true rfl) (fun p e s m below meth c hsz C hA ls hl => w_X4_most_0 C h hA hl)
abbrev rmJ6_bitCount_0f7a4 : Room := { frames := 0, cells := 0, slots := 0, locals := 0 }
theorem nd_J6_bitCount_0f7a4 : yJ6_bitCount_0f7a4.cls ≠ "java/lang/invoke/MethodHandle" ∧ yJ6_bitCount_0f7a4.cls ≠ "java/lang/invoke/VarHandle" ∧ (parseMethodDescriptor yJ6_bitCount_0f7a4.desc).map (fun d => d.parameters.length) = some 1 := by decide +kernel
def f_J6_bitCount_0f7a4 (fu : Nat) (σ : SS) (x0 : Int32) : Option (Int32) :=
  some ((((((((x0 - (((x0).toUInt32 >>> (((1 : Int32)).toUInt32 &&& Int32.toUInt32 31)).toInt32 &&& (1431655765 : Int32))) &&& (858993459 : Int32)) + ((((x0 - (((x0).toUInt32 >>> (((1 : Int32)).toUInt32 &&& Int32.toUInt32 31)).toInt32 &&& (1431655765 : Int32)))).toUInt32 >>> (((2 : Int32)).toUInt32 &&& Int32.toUInt32 31)).toInt32 &&& (858993459 : Int32))) + (((((x0 - (((x0).toUInt32 >>> (((1 : Int32)).toUInt32 &&& Int32.toUInt32 31)).toInt32 &&& (1431655765 : Int32))) &&& (858993459 : Int32)) + ((((x0 - (((x0).toUInt32 >>> (((1 : Int32)).toUInt32 &&& Int32.toUInt32 31)).toInt32 &&& (1431655765 : Int32)))).toUInt32 >>> (((2 : Int32)).toUInt32 &&& Int32.toUInt32 31)).toInt32 &&& (858993459 : Int32)))).toUInt32 >>> (((4 : Int32)).toUInt32 &&& Int32.toUInt32 31)).toInt32) &&& (252645135 : Int32)) + (((((((x0 - (((x0).toUInt32 >>> (((1 : Int32)).toUInt32 &&& Int32.toUInt32 31)).toInt32 &&& (1431655765 : Int32))) &&& (858993459 : Int32)) + ((((x0 - (((x0).toUInt32 >>> (((1 : Int32)).toUInt32 &&& Int32.toUInt32 31)).toInt32 &&& (1431655765 : Int32)))).toUInt32 >>> (((2 : Int32)).toUInt32 &&& Int32.toUInt32 31)).toInt32 &&& (858993459 : Int32))) + (((((x0 - (((x0).toUInt32 >>> (((1 : Int32)).toUInt32 &&& Int32.toUInt32 31)).toInt32 &&& (1431655765 : Int32))) &&& (858993459 : Int32)) + ((((x0 - (((x0).toUInt32 >>> (((1 : Int32)).toUInt32 &&& Int32.toUInt32 31)).toInt32 &&& (1431655765 : Int32)))).toUInt32 >>> (((2 : Int32)).toUInt32 &&& Int32.toUInt32 31)).toInt32 &&& (858993459 : Int32)))).toUInt32 >>> (((4 : Int32)).toUInt32 &&& Int32.toUInt32 31)).toInt32) &&& (252645135 : Int32))).toUInt32 >>> (((8 : Int32)).toUInt32 &&& Int32.toUInt32 31)).toInt32) + ((((((((x0 - (((x0).toUInt32 >>> (((1 : Int32)).toUInt32 &&& Int32.toUInt32 31)).toInt32 &&& (1431655765 : Int32))) &&& (858993459 : Int32)) + ((((x0 - (((x0).toUInt32 >>> (((1 : Int32)).toUInt32 &&& Int32.toUInt32 31)).toInt32 &&& (1431655765 : Int32)))).toUInt32 >>> (((2 : Int32)).toUInt32 &&& Int32.toUInt32 31)).toInt32 &&& (858993459 : Int32))) + (((((x0 - (((x0).toUInt32 >>> (((1 : Int32)).toUInt32 &&& Int32.toUInt32 31)).toInt32 &&& (1431655765 : Int32))) &&& (858993459 : Int32)) + ((((x0 - (((x0).toUInt32 >>> (((1 : Int32)).toUInt32 &&& Int32.toUInt32 31)).toInt32 &&& (1431655765 : Int32)))).toUInt32 >>> (((2 : Int32)).toUInt32 &&& Int32.toUInt32 31)).toInt32 &&& (858993459 : Int32)))).toUInt32 >>> (((4 : Int32)).toUInt32 &&& Int32.toUInt32 31)).toInt32) &&& (252645135 : Int32)) + (((((((x0 - (((x0).toUInt32 >>> (((1 : Int32)).toUInt32 &&& Int32.toUInt32 31)).toInt32 &&& (1431655765 : Int32))) &&& (858993459 : Int32)) + ((((x0 - (((x0).toUInt32 >>> (((1 : Int32)).toUInt32 &&& Int32.toUInt32 31)).toInt32 &&& (1431655765 : Int32)))).toUInt32 >>> (((2 : Int32)).toUInt32 &&& Int32.toUInt32 31)).toInt32 &&& (858993459 : Int32))) + (((((x0 - (((x0).toUInt32 >>> (((1 : Int32)).toUInt32 &&& Int32.toUInt32 31)).toInt32 &&& (1431655765 : Int32))) &&& (858993459 : Int32)) + ((((x0 - (((x0).toUInt32 >>> (((1 : Int32)).toUInt32 &&& Int32.toUInt32 31)).toInt32 &&& (1431655765 : Int32)))).toUInt32 >>> (((2 : Int32)).toUInt32 &&& Int32.toUInt32 31)).toInt32 &&& (858993459 : Int32)))).toUInt32 >>> (((4 : Int32)).toUInt32 &&& Int32.toUInt32 31)).toInt32) &&& (252645135 : Int32))).toUInt32 >>> (((8 : Int32)).toUInt32 &&& Int32.toUInt32 31)).toInt32)).toUInt32 >>> (((16 : Int32)).toUInt32 &&& Int32.toUInt32 31)).toInt32) &&& (63 : Int32))
section
variable {p : Program} {l : Launch} {e : Env} {s : State} {m : MethodId} {args : Array Value} {below : List Frame} {meth : Method} {c : Code} {g : Gm} {A : Nat → Prop} {fu : Nat} {R : Int32}
set_option maxHeartbeats 4000000 in
set_option maxRecDepth 100000 in
theorem w_J6_bitCount_0f7a4_0 {σ : SS} {x0 : Int32} (C : Cx p l s m args meth c cJ6_bitCount_0f7a4 1 wsJ6_bitCount_0f7a4 (some .int) RJ6 g A) (h : f_J6_bitCount_0f7a4 fu σ x0 = some R) {H : Heap} {locs : List Loc} {ls : Array Slot} (hA : Aw g A s.heap (wX g σ) H locs) (hl : lv_has ls 1 [(0, .int x0)]) : W p l e rmJ6_bitCount_0f7a4 s m args below meth c H locs 0 0 (MQ below (Qi g A (wX g σ) R) args s 0 0 A) (F0 m 0 ls []) := by
  have hx := C.1.1
  have hb := C.1.2.1
  unfold f_J6_bitCount_0f7a4 at h
  refine lv_iload_n hx hb dJ6_bitCount_0f7a4_0 rfl (lv_at hl 0 rfl) ?_
  refine lv_iload_n hx hb dJ6_bitCount_0f7a4_1 rfl (lv_at hl 0 rfl) ?_
  refine lv_iconst (v := 1) hx hb dJ6_bitCount_0f7a4_2 (by decide) ?_
  refine lv_iushr (v := ((x0).toUInt32 >>> (((1 : Int32)).toUInt32 &&& Int32.toUInt32 31)).toInt32) hx hb dJ6_bitCount_0f7a4_3 rfl ?_
  refine lv_ldcw (v := 1431655765) hx hb C.1.2.2.2.1 (C.1.2.2.2.2 (.constant RJ6 265 (1431655765)) (by decide +kernel)) dJ6_bitCount_0f7a4_4 ?_
  refine lv_iand hx hb dJ6_bitCount_0f7a4_7 ?_
  refine lv_isub hx hb dJ6_bitCount_0f7a4_8 ?_
  refine lv_istore_n (lv' := [(0, .int (x0 - (((x0).toUInt32 >>> (((1 : Int32)).toUInt32 &&& Int32.toUInt32 31)).toInt32 &&& (1431655765 : Int32))))]) hx hb dJ6_bitCount_0f7a4_9 rfl hl (by decide) rfl (fun ls hl => ?_)
  refine lv_iload_n hx hb dJ6_bitCount_0f7a4_10 rfl (lv_at hl 0 rfl) ?_
  refine lv_ldcw (v := 858993459) hx hb C.1.2.2.2.1 (C.1.2.2.2.2 (.constant RJ6 266 (858993459)) (by decide +kernel)) dJ6_bitCount_0f7a4_11 ?_
  refine lv_iand hx hb dJ6_bitCount_0f7a4_14 ?_
  refine lv_iload_n hx hb dJ6_bitCount_0f7a4_15 rfl (lv_at hl 0 rfl) ?_
  refine lv_iconst (v := 2) hx hb dJ6_bitCount_0f7a4_16 (by decide) ?_
  refine lv_iushr (v := (((x0 - (((x0).toUInt32 >>> (((1 : Int32)).toUInt32 &&& Int32.toUInt32 31)).toInt32 &&& (1431655765 : Int32)))).toUInt32 >>> (((2 : Int32)).toUInt32 &&& Int32.toUInt32 31)).toInt32) hx hb dJ6_bitCount_0f7a4_17 rfl ?_
  refine lv_ldcw (v := 858993459) hx hb C.1.2.2.2.1 (C.1.2.2.2.2 (.constant RJ6 266 (858993459)) (by decide +kernel)) dJ6_bitCount_0f7a4_18 ?_
  refine lv_iand hx hb dJ6_bitCount_0f7a4_21 ?_
  refine lv_iadd hx hb dJ6_bitCount_0f7a4_22 ?_
  refine lv_istore_n (lv' := [(0, .int (((x0 - (((x0).toUInt32 >>> (((1 : Int32)).toUInt32 &&& Int32.toUInt32 31)).toInt32 &&& (1431655765 : Int32))) &&& (858993459 : Int32)) + ((((x0 - (((x0).toUInt32 >>> (((1 : Int32)).toUInt32 &&& Int32.toUInt32 31)).toInt32 &&& (1431655765 : Int32)))).toUInt32 >>> (((2 : Int32)).toUInt32 &&& Int32.toUInt32 31)).toInt32 &&& (858993459 : Int32))))]) hx hb dJ6_bitCount_0f7a4_23 rfl hl (by decide) rfl (fun ls hl => ?_)
  refine lv_iload_n hx hb dJ6_bitCount_0f7a4_24 rfl (lv_at hl 0 rfl) ?_
  refine lv_iload_n hx hb dJ6_bitCount_0f7a4_25 rfl (lv_at hl 0 rfl) ?_
  refine lv_iconst (v := 4) hx hb dJ6_bitCount_0f7a4_26 (by decide) ?_
  refine lv_iushr (v := (((((x0 - (((x0).toUInt32 >>> (((1 : Int32)).toUInt32 &&& Int32.toUInt32 31)).toInt32 &&& (1431655765 : Int32))) &&& (858993459 : Int32)) + ((((x0 - (((x0).toUInt32 >>> (((1 : Int32)).toUInt32 &&& Int32.toUInt32 31)).toInt32 &&& (1431655765 : Int32)))).toUInt32 >>> (((2 : Int32)).toUInt32 &&& Int32.toUInt32 31)).toInt32 &&& (858993459 : Int32)))).toUInt32 >>> (((4 : Int32)).toUInt32 &&& Int32.toUInt32 31)).toInt32) hx hb dJ6_bitCount_0f7a4_27 rfl ?_
  refine lv_iadd hx hb dJ6_bitCount_0f7a4_28 ?_
  refine lv_ldcw (v := 252645135) hx hb C.1.2.2.2.1 (C.1.2.2.2.2 (.constant RJ6 267 (252645135)) (by decide +kernel)) dJ6_bitCount_0f7a4_29 ?_
  refine lv_iand hx hb dJ6_bitCount_0f7a4_32 ?_
  refine lv_istore_n (lv' := [(0, .int (((((x0 - (((x0).toUInt32 >>> (((1 : Int32)).toUInt32 &&& Int32.toUInt32 31)).toInt32 &&& (1431655765 : Int32))) &&& (858993459 : Int32)) + ((((x0 - (((x0).toUInt32 >>> (((1 : Int32)).toUInt32 &&& Int32.toUInt32 31)).toInt32 &&& (1431655765 : Int32)))).toUInt32 >>> (((2 : Int32)).toUInt32 &&& Int32.toUInt32 31)).toInt32 &&& (858993459 : Int32))) + (((((x0 - (((x0).toUInt32 >>> (((1 : Int32)).toUInt32 &&& Int32.toUInt32 31)).toInt32 &&& (1431655765 : Int32))) &&& (858993459 : Int32)) + ((((x0 - (((x0).toUInt32 >>> (((1 : Int32)).toUInt32 &&& Int32.toUInt32 31)).toInt32 &&& (1431655765 : Int32)))).toUInt32 >>> (((2 : Int32)).toUInt32 &&& Int32.toUInt32 31)).toInt32 &&& (858993459 : Int32)))).toUInt32 >>> (((4 : Int32)).toUInt32 &&& Int32.toUInt32 31)).toInt32) &&& (252645135 : Int32)))]) hx hb dJ6_bitCount_0f7a4_33 rfl hl (by decide) rfl (fun ls hl => ?_)
  refine lv_iload_n hx hb dJ6_bitCount_0f7a4_34 rfl (lv_at hl 0 rfl) ?_
  refine lv_iload_n hx hb dJ6_bitCount_0f7a4_35 rfl (lv_at hl 0 rfl) ?_
  refine lv_bipush (v := 8) hx hb dJ6_bitCount_0f7a4_36 (by decide) ?_
  refine lv_iushr (v := (((((((x0 - (((x0).toUInt32 >>> (((1 : Int32)).toUInt32 &&& Int32.toUInt32 31)).toInt32 &&& (1431655765 : Int32))) &&& (858993459 : Int32)) + ((((x0 - (((x0).toUInt32 >>> (((1 : Int32)).toUInt32 &&& Int32.toUInt32 31)).toInt32 &&& (1431655765 : Int32)))).toUInt32 >>> (((2 : Int32)).toUInt32 &&& Int32.toUInt32 31)).toInt32 &&& (858993459 : Int32))) + (((((x0 - (((x0).toUInt32 >>> (((1 : Int32)).toUInt32 &&& Int32.toUInt32 31)).toInt32 &&& (1431655765 : Int32))) &&& (858993459 : Int32)) + ((((x0 - (((x0).toUInt32 >>> (((1 : Int32)).toUInt32 &&& Int32.toUInt32 31)).toInt32 &&& (1431655765 : Int32)))).toUInt32 >>> (((2 : Int32)).toUInt32 &&& Int32.toUInt32 31)).toInt32 &&& (858993459 : Int32)))).toUInt32 >>> (((4 : Int32)).toUInt32 &&& Int32.toUInt32 31)).toInt32) &&& (252645135 : Int32))).toUInt32 >>> (((8 : Int32)).toUInt32 &&& Int32.toUInt32 31)).toInt32) hx hb dJ6_bitCount_0f7a4_38 rfl ?_
  refine lv_iadd hx hb dJ6_bitCount_0f7a4_39 ?_
  refine lv_istore_n (lv' := [(0, .int ((((((x0 - (((x0).toUInt32 >>> (((1 : Int32)).toUInt32 &&& Int32.toUInt32 31)).toInt32 &&& (1431655765 : Int32))) &&& (858993459 : Int32)) + ((((x0 - (((x0).toUInt32 >>> (((1 : Int32)).toUInt32 &&& Int32.toUInt32 31)).toInt32 &&& (1431655765 : Int32)))).toUInt32 >>> (((2 : Int32)).toUInt32 &&& Int32.toUInt32 31)).toInt32 &&& (858993459 : Int32))) + (((((x0 - (((x0).toUInt32 >>> (((1 : Int32)).toUInt32 &&& Int32.toUInt32 31)).toInt32 &&& (1431655765 : Int32))) &&& (858993459 : Int32)) + ((((x0 - (((x0).toUInt32 >>> (((1 : Int32)).toUInt32 &&& Int32.toUInt32 31)).toInt32 &&& (1431655765 : Int32)))).toUInt32 >>> (((2 : Int32)).toUInt32 &&& Int32.toUInt32 31)).toInt32 &&& (858993459 : Int32)))).toUInt32 >>> (((4 : Int32)).toUInt32 &&& Int32.toUInt32 31)).toInt32) &&& (252645135 : Int32)) + (((((((x0 - (((x0).toUInt32 >>> (((1 : Int32)).toUInt32 &&& Int32.toUInt32 31)).toInt32 &&& (1431655765 : Int32))) &&& (858993459 : Int32)) + ((((x0 - (((x0).toUInt32 >>> (((1 : Int32)).toUInt32 &&& Int32.toUInt32 31)).toInt32 &&& (1431655765 : Int32)))).toUInt32 >>> (((2 : Int32)).toUInt32 &&& Int32.toUInt32 31)).toInt32 &&& (858993459 : Int32))) + (((((x0 - (((x0).toUInt32 >>> (((1 : Int32)).toUInt32 &&& Int32.toUInt32 31)).toInt32 &&& (1431655765 : Int32))) &&& (858993459 : Int32)) + ((((x0 - (((x0).toUInt32 >>> (((1 : Int32)).toUInt32 &&& Int32.toUInt32 31)).toInt32 &&& (1431655765 : Int32)))).toUInt32 >>> (((2 : Int32)).toUInt32 &&& Int32.toUInt32 31)).toInt32 &&& (858993459 : Int32)))).toUInt32 >>> (((4 : Int32)).toUInt32 &&& Int32.toUInt32 31)).toInt32) &&& (252645135 : Int32))).toUInt32 >>> (((8 : Int32)).toUInt32 &&& Int32.toUInt32 31)).toInt32))]) hx hb dJ6_bitCount_0f7a4_40 rfl hl (by decide) rfl (fun ls hl => ?_)
  refine lv_iload_n hx hb dJ6_bitCount_0f7a4_41 rfl (lv_at hl 0 rfl) ?_
  refine lv_iload_n hx hb dJ6_bitCount_0f7a4_42 rfl (lv_at hl 0 rfl) ?_
  refine lv_bipush (v := 16) hx hb dJ6_bitCount_0f7a4_43 (by decide) ?_
  refine lv_iushr (v := ((((((((x0 - (((x0).toUInt32 >>> (((1 : Int32)).toUInt32 &&& Int32.toUInt32 31)).toInt32 &&& (1431655765 : Int32))) &&& (858993459 : Int32)) + ((((x0 - (((x0).toUInt32 >>> (((1 : Int32)).toUInt32 &&& Int32.toUInt32 31)).toInt32 &&& (1431655765 : Int32)))).toUInt32 >>> (((2 : Int32)).toUInt32 &&& Int32.toUInt32 31)).toInt32 &&& (858993459 : Int32))) + (((((x0 - (((x0).toUInt32 >>> (((1 : Int32)).toUInt32 &&& Int32.toUInt32 31)).toInt32 &&& (1431655765 : Int32))) &&& (858993459 : Int32)) + ((((x0 - (((x0).toUInt32 >>> (((1 : Int32)).toUInt32 &&& Int32.toUInt32 31)).toInt32 &&& (1431655765 : Int32)))).toUInt32 >>> (((2 : Int32)).toUInt32 &&& Int32.toUInt32 31)).toInt32 &&& (858993459 : Int32)))).toUInt32 >>> (((4 : Int32)).toUInt32 &&& Int32.toUInt32 31)).toInt32) &&& (252645135 : Int32)) + (((((((x0 - (((x0).toUInt32 >>> (((1 : Int32)).toUInt32 &&& Int32.toUInt32 31)).toInt32 &&& (1431655765 : Int32))) &&& (858993459 : Int32)) + ((((x0 - (((x0).toUInt32 >>> (((1 : Int32)).toUInt32 &&& Int32.toUInt32 31)).toInt32 &&& (1431655765 : Int32)))).toUInt32 >>> (((2 : Int32)).toUInt32 &&& Int32.toUInt32 31)).toInt32 &&& (858993459 : Int32))) + (((((x0 - (((x0).toUInt32 >>> (((1 : Int32)).toUInt32 &&& Int32.toUInt32 31)).toInt32 &&& (1431655765 : Int32))) &&& (858993459 : Int32)) + ((((x0 - (((x0).toUInt32 >>> (((1 : Int32)).toUInt32 &&& Int32.toUInt32 31)).toInt32 &&& (1431655765 : Int32)))).toUInt32 >>> (((2 : Int32)).toUInt32 &&& Int32.toUInt32 31)).toInt32 &&& (858993459 : Int32)))).toUInt32 >>> (((4 : Int32)).toUInt32 &&& Int32.toUInt32 31)).toInt32) &&& (252645135 : Int32))).toUInt32 >>> (((8 : Int32)).toUInt32 &&& Int32.toUInt32 31)).toInt32)).toUInt32 >>> (((16 : Int32)).toUInt32 &&& Int32.toUInt32 31)).toInt32) hx hb dJ6_bitCount_0f7a4_45 rfl ?_
  refine lv_iadd hx hb dJ6_bitCount_0f7a4_46 ?_
  refine lv_istore_n (lv' := [(0, .int (((((((x0 - (((x0).toUInt32 >>> (((1 : Int32)).toUInt32 &&& Int32.toUInt32 31)).toInt32 &&& (1431655765 : Int32))) &&& (858993459 : Int32)) + ((((x0 - (((x0).toUInt32 >>> (((1 : Int32)).toUInt32 &&& Int32.toUInt32 31)).toInt32 &&& (1431655765 : Int32)))).toUInt32 >>> (((2 : Int32)).toUInt32 &&& Int32.toUInt32 31)).toInt32 &&& (858993459 : Int32))) + (((((x0 - (((x0).toUInt32 >>> (((1 : Int32)).toUInt32 &&& Int32.toUInt32 31)).toInt32 &&& (1431655765 : Int32))) &&& (858993459 : Int32)) + ((((x0 - (((x0).toUInt32 >>> (((1 : Int32)).toUInt32 &&& Int32.toUInt32 31)).toInt32 &&& (1431655765 : Int32)))).toUInt32 >>> (((2 : Int32)).toUInt32 &&& Int32.toUInt32 31)).toInt32 &&& (858993459 : Int32)))).toUInt32 >>> (((4 : Int32)).toUInt32 &&& Int32.toUInt32 31)).toInt32) &&& (252645135 : Int32)) + (((((((x0 - (((x0).toUInt32 >>> (((1 : Int32)).toUInt32 &&& Int32.toUInt32 31)).toInt32 &&& (1431655765 : Int32))) &&& (858993459 : Int32)) + ((((x0 - (((x0).toUInt32 >>> (((1 : Int32)).toUInt32 &&& Int32.toUInt32 31)).toInt32 &&& (1431655765 : Int32)))).toUInt32 >>> (((2 : Int32)).toUInt32 &&& Int32.toUInt32 31)).toInt32 &&& (858993459 : Int32))) + (((((x0 - (((x0).toUInt32 >>> (((1 : Int32)).toUInt32 &&& Int32.toUInt32 31)).toInt32 &&& (1431655765 : Int32))) &&& (858993459 : Int32)) + ((((x0 - (((x0).toUInt32 >>> (((1 : Int32)).toUInt32 &&& Int32.toUInt32 31)).toInt32 &&& (1431655765 : Int32)))).toUInt32 >>> (((2 : Int32)).toUInt32 &&& Int32.toUInt32 31)).toInt32 &&& (858993459 : Int32)))).toUInt32 >>> (((4 : Int32)).toUInt32 &&& Int32.toUInt32 31)).toInt32) &&& (252645135 : Int32))).toUInt32 >>> (((8 : Int32)).toUInt32 &&& Int32.toUInt32 31)).toInt32) + ((((((((x0 - (((x0).toUInt32 >>> (((1 : Int32)).toUInt32 &&& Int32.toUInt32 31)).toInt32 &&& (1431655765 : Int32))) &&& (858993459 : Int32)) + ((((x0 - (((x0).toUInt32 >>> (((1 : Int32)).toUInt32 &&& Int32.toUInt32 31)).toInt32 &&& (1431655765 : Int32)))).toUInt32 >>> (((2 : Int32)).toUInt32 &&& Int32.toUInt32 31)).toInt32 &&& (858993459 : Int32))) + (((((x0 - (((x0).toUInt32 >>> (((1 : Int32)).toUInt32 &&& Int32.toUInt32 31)).toInt32 &&& (1431655765 : Int32))) &&& (858993459 : Int32)) + ((((x0 - (((x0).toUInt32 >>> (((1 : Int32)).toUInt32 &&& Int32.toUInt32 31)).toInt32 &&& (1431655765 : Int32)))).toUInt32 >>> (((2 : Int32)).toUInt32 &&& Int32.toUInt32 31)).toInt32 &&& (858993459 : Int32)))).toUInt32 >>> (((4 : Int32)).toUInt32 &&& Int32.toUInt32 31)).toInt32) &&& (252645135 : Int32)) + (((((((x0 - (((x0).toUInt32 >>> (((1 : Int32)).toUInt32 &&& Int32.toUInt32 31)).toInt32 &&& (1431655765 : Int32))) &&& (858993459 : Int32)) + ((((x0 - (((x0).toUInt32 >>> (((1 : Int32)).toUInt32 &&& Int32.toUInt32 31)).toInt32 &&& (1431655765 : Int32)))).toUInt32 >>> (((2 : Int32)).toUInt32 &&& Int32.toUInt32 31)).toInt32 &&& (858993459 : Int32))) + (((((x0 - (((x0).toUInt32 >>> (((1 : Int32)).toUInt32 &&& Int32.toUInt32 31)).toInt32 &&& (1431655765 : Int32))) &&& (858993459 : Int32)) + ((((x0 - (((x0).toUInt32 >>> (((1 : Int32)).toUInt32 &&& Int32.toUInt32 31)).toInt32 &&& (1431655765 : Int32)))).toUInt32 >>> (((2 : Int32)).toUInt32 &&& Int32.toUInt32 31)).toInt32 &&& (858993459 : Int32)))).toUInt32 >>> (((4 : Int32)).toUInt32 &&& Int32.toUInt32 31)).toInt32) &&& (252645135 : Int32))).toUInt32 >>> (((8 : Int32)).toUInt32 &&& Int32.toUInt32 31)).toInt32)).toUInt32 >>> (((16 : Int32)).toUInt32 &&& Int32.toUInt32 31)).toInt32))]) hx hb dJ6_bitCount_0f7a4_47 rfl hl (by decide) rfl (fun ls hl => ?_)
  refine lv_iload_n hx hb dJ6_bitCount_0f7a4_48 rfl (lv_at hl 0 rfl) ?_
  refine lv_bipush (v := 63) hx hb dJ6_bitCount_0f7a4_49 (by decide) ?_
  refine lv_iand hx hb dJ6_bitCount_0f7a4_51 ?_
  obtain rfl := Option.some.inj h
  exact r_iret C hA dJ6_bitCount_0f7a4_52
end
set_option maxRecDepth 100000 in
theorem k_J6_bitCount_0f7a4 {l : Launch} {g : Gm} {fu : Nat} {σ : SS} {x0 : Int32} {R : Int32} (hlt : l.stackTraces = false) (h : f_J6_bitCount_0f7a4 fu σ x0 = some R) (sz : Nat) : Met l yJ6_bitCount_0f7a4 wsJ6_bitCount_0f7a4 rmJ6_bitCount_0f7a4 (Pw g (wX g σ) [.int x0] sz) (Qi g (va_A (wX g σ) sz) (wX g σ) R) 0 0 (va_A (wX g σ) sz) :=
  ofM (own := RJ6) hlt (by decide) rfl rfl (Nat.le_of_ble_eq_true rfl) (fun p e s m below meth c hsz C hA ls hl => w_J6_bitCount_0f7a4_0 C h hA hl)

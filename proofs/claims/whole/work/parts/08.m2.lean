abbrev rmX8_isPair : Room := { frames := 1, cells := 0, slots := 0, locals := 22 }
theorem iX8_isPair_X8 : ∀ x ∈ wsX80, x ∈ wsX8_isPair := by decide +kernel
theorem nd_X8_isPair : yX8_isPair.cls = RX8 ∧ yX8_isPair.cls ≠ "java/lang/invoke/MethodHandle" ∧ yX8_isPair.cls ≠ "java/lang/invoke/VarHandle" ∧ (parseMethodDescriptor yX8_isPair.desc).map (fun d => d.parameters.length) = some 3 := by decide +kernel
def f_X8_isPair_76 (fu : Nat) (σ : SS) (y0 : Int32) : Option (Int32 × SS) :=
  bnd (f_X8_bad fu σ y0 (3 : Int32)) (fun r1 t3 => (if r1 = 0 then some ((1 : Int32), t3) else some ((0 : Int32), t3)))
def f_X8_isPair_71 (fu : Nat) (σ : SS) : Option (Int32 × SS) :=
  f_X8_isPair_76 fu σ (1 : Int32)
def f_X8_isPair_45 (fu : Nat) (σ : SS) (x1 : Int32) (x2 : Int32) (y0 : Int32) : Option (Int32 × SS) :=
  bnd (f_X8_bad fu σ y0 (2 : Int32)) (fun r1 t3 => (if r1 = 0 then if inB x1 12 then (if (t3.2.1 3 (x1).toNatClampNeg) = 0 then if inB x2 12 then (if (t3.2.1 3 (x2).toNatClampNeg) = 0 then f_X8_isPair_76 fu t3 (0 : Int32) else f_X8_isPair_71 fu t3) else none else f_X8_isPair_71 fu t3) else none else some ((0 : Int32), t3)))
def f_X8_isPair_40 (fu : Nat) (σ : SS) (x1 : Int32) (x2 : Int32) : Option (Int32 × SS) :=
  f_X8_isPair_45 fu σ x1 x2 (1 : Int32)
def f_X8_isPair_22 (fu : Nat) (σ : SS) (x1 : Int32) (x2 : Int32) (x3 : Int32) (y0 : Int32) : Option (Int32 × SS) :=
  bnd (f_X8_bad fu σ y0 (1 : Int32)) (fun r1 t3 => (if r1 = 0 then (if x1 = x2 then f_X8_isPair_40 fu t3 x1 x2 else (if (1 : Int32) ≤ x3 then f_X8_isPair_45 fu t3 x1 x2 (0 : Int32) else f_X8_isPair_40 fu t3 x1 x2)) else some ((0 : Int32), t3)))
def f_X8_isPair_17 (fu : Nat) (σ : SS) (x1 : Int32) (x2 : Int32) (x3 : Int32) : Option (Int32 × SS) :=
  f_X8_isPair_22 fu σ x1 x2 x3 (1 : Int32)
def f_X8_isPair (fu : Nat) (σ : SS) (x1 : Int32) (x2 : Int32) (x3 : Int32) : Option (Int32 × SS) :=
  bnd1 (f_X8_isChief fu σ x1) (fun r1 => (if r1 = 0 then f_X8_isPair_17 fu σ x1 x2 x3 else bnd1 (f_X8_isChief fu σ x2) (fun r4 => (if r4 = 0 then f_X8_isPair_17 fu σ x1 x2 x3 else f_X8_isPair_22 fu σ x1 x2 x3 (0 : Int32)))))
section
variable {p : Program} {l : Launch} {e : Env} {s : State} {m : MethodId} {args : Array Value} {below : List Frame} {meth : Method} {c : Code} {g : Gm} {A : Nat → Prop} {fu : Nat} {R : Int32 × SS}
set_option maxHeartbeats 4000000 in
set_option maxRecDepth 100000 in
theorem w_X8_isPair_76 {σ : SS} {y0 : Int32} (C : Cx p l s m args meth c cX8_isPair 4 wsX8_isPair (some .boolean) RX8 g A) (h : f_X8_isPair_76 fu σ y0 = some R) {H : Heap} {locs : List Loc} {ls : Array Slot} (hA : Aw g A s.heap (wM g σ) H locs) (hl : lv_has ls 4 []) : W p l e rmX8_isPair s m args below meth c H locs 0 0 (MQ below (Qi g A (wM g R.2) R.1) args s 0 0 A) (F0 m 76 ls [.int y0, .ref (g.2.1 0)]) := by
  have hx := C.1.1
  have hb := C.1.2.1
  unfold f_X8_isPair_76 at h
  refine lv_iconst (v := 3) hx hb dX8_isPair_76 (by decide) ?_
  obtain ⟨r1, t3, hc2, h⟩ := bd h
  refine r_callVi (r := r1) (w1 := wM g t3) (As := [.int y0, .int (3 : Int32)]) (rest := []) C hA hl.1 (k_X8_bad C.2.2.2.2.2.2 hc2) (cwV 2 C.1.2.2.2.2 gX8_isPair_X8_bad rfl rfl rfl nd_X8_bad ⟨Nat.le_of_ble_eq_true rfl, Nat.le_of_ble_eq_true rfl⟩) 0 rfl rfl rfl rfl (Nat.le_of_ble_eq_true rfl) dX8_isPair_77 ⟨Nat.le_of_ble_eq_true rfl, Nat.le_of_ble_eq_true rfl⟩ (fun H locs hA => ?_)
  refine lv_if_ne (tgt := 87) hx hb dX8_isPair_80 (by decide) (fun c4 => ?_) (fun c4 => ?_)
  · replace h := (if_neg c4).symm.trans h
    refine lv_iconst (v := 0) hx hb dX8_isPair_87 (by decide) ?_
    obtain rfl := Option.some.inj h
    exact r_zret (v := (0 : Int32)) C hA (zb (Or.inl rfl)) dX8_isPair_88
  · replace h := (if_pos c4).symm.trans h
    refine lv_iconst (v := 1) hx hb dX8_isPair_83 (by decide) ?_
    refine lv_goto (tgt := 88) hx hb dX8_isPair_84 (by decide) ?_
    obtain rfl := Option.some.inj h
    exact r_zret (v := (1 : Int32)) C hA (zb (Or.inr rfl)) dX8_isPair_88
set_option maxHeartbeats 4000000 in
set_option maxRecDepth 100000 in
theorem w_X8_isPair_71 {σ : SS} (C : Cx p l s m args meth c cX8_isPair 4 wsX8_isPair (some .boolean) RX8 g A) (h : f_X8_isPair_71 fu σ = some R) {H : Heap} {locs : List Loc} {ls : Array Slot} (hA : Aw g A s.heap (wM g σ) H locs) (hl : lv_has ls 4 []) : W p l e rmX8_isPair s m args below meth c H locs 0 0 (MQ below (Qi g A (wM g R.2) R.1) args s 0 0 A) (F0 m 71 ls [.ref (g.2.1 0)]) := by
  have hx := C.1.1
  have hb := C.1.2.1
  unfold f_X8_isPair_71 at h
  refine lv_iconst (v := 1) hx hb dX8_isPair_71 (by decide) ?_
  refine lv_goto (tgt := 76) hx hb dX8_isPair_72 (by decide) ?_
  exact w_X8_isPair_76 C h hA (lv_sub hl [] rfl)
set_option maxHeartbeats 4000000 in
set_option maxRecDepth 100000 in
theorem w_X8_isPair_45 {σ : SS} {x1 : Int32} {x2 : Int32} {y0 : Int32} (C : Cx p l s m args meth c cX8_isPair 4 wsX8_isPair (some .boolean) RX8 g A) (h : f_X8_isPair_45 fu σ x1 x2 y0 = some R) {H : Heap} {locs : List Loc} {ls : Array Slot} (hA : Aw g A s.heap (wM g σ) H locs) (hl : lv_has ls 4 [(0, .ref (g.2.1 0)), (1, .int x1), (2, .int x2)]) : W p l e rmX8_isPair s m args below meth c H locs 0 0 (MQ below (Qi g A (wM g R.2) R.1) args s 0 0 A) (F0 m 45 ls [.int y0, .ref (g.2.1 0)]) := by
  have hx := C.1.1
  have hb := C.1.2.1
  unfold f_X8_isPair_45 at h
  refine lv_iconst (v := 2) hx hb dX8_isPair_45 (by decide) ?_
  obtain ⟨r1, t3, hc2, h⟩ := bd h
  refine r_callVi (r := r1) (w1 := wM g t3) (As := [.int y0, .int (2 : Int32)]) (rest := []) C hA hl.1 (k_X8_bad C.2.2.2.2.2.2 hc2) (cwV 2 C.1.2.2.2.2 gX8_isPair_X8_bad rfl rfl rfl nd_X8_bad ⟨Nat.le_of_ble_eq_true rfl, Nat.le_of_ble_eq_true rfl⟩) 0 rfl rfl rfl rfl (Nat.le_of_ble_eq_true rfl) dX8_isPair_46 ⟨Nat.le_of_ble_eq_true rfl, Nat.le_of_ble_eq_true rfl⟩ (fun H locs hA => ?_)
  refine lv_if_ne (tgt := 87) hx hb dX8_isPair_49 (by decide) (fun c4 => ?_) (fun c4 => ?_)
  · replace h := (if_neg c4).symm.trans h
    refine lv_iconst (v := 0) hx hb dX8_isPair_87 (by decide) ?_
    obtain rfl := Option.some.inj h
    exact r_zret (v := (0 : Int32)) C hA (zb (Or.inl rfl)) dX8_isPair_88
  · replace h := (if_pos c4).symm.trans h
    refine lv_aload_n hx hb dX8_isPair_52 rfl (lv_at hl 0 rfl) ?_
    refine lv_aload_n hx hb dX8_isPair_53 rfl (lv_at hl 0 rfl) ?_
    refine Mg_X8_isDead C hA iX8_isPair_X8 (by decide +kernel) dX8_isPair_54 ?_
    refine lv_iload_n hx hb dX8_isPair_57 rfl (lv_at hl 1 rfl) ?_
    obtain ⟨g5, h⟩ := gd h
    refine Mld_3 (v := (t3.2.1 3 (x1).toNatClampNeg)) C hA rfl g5 dX8_isPair_58 ?_
    refine lv_if_ne (tgt := 71) hx hb dX8_isPair_59 (by decide) (fun c6 => ?_) (fun c6 => ?_)
    · replace h := (if_neg c6).symm.trans h
      exact w_X8_isPair_71 C h hA (lv_sub hl [] rfl)
    · replace h := (if_pos c6).symm.trans h
      refine lv_aload_n hx hb dX8_isPair_62 rfl (lv_at hl 0 rfl) ?_
      refine Mg_X8_isDead C hA iX8_isPair_X8 (by decide +kernel) dX8_isPair_63 ?_
      refine lv_iload_n hx hb dX8_isPair_66 rfl (lv_at hl 2 rfl) ?_
      obtain ⟨g7, h⟩ := gd h
      refine Mld_3 (v := (t3.2.1 3 (x2).toNatClampNeg)) C hA rfl g7 dX8_isPair_67 ?_
      refine lv_if_eq (tgt := 75) hx hb dX8_isPair_68 (by decide) (fun c8 => ?_) (fun c8 => ?_)
      · replace h := (if_pos c8).symm.trans h
        refine lv_iconst (v := 0) hx hb dX8_isPair_75 (by decide) ?_
        exact w_X8_isPair_76 C h hA (lv_sub hl [] rfl)
      · replace h := (if_neg c8).symm.trans h
        exact w_X8_isPair_71 C h hA (lv_sub hl [] rfl)
set_option maxHeartbeats 4000000 in
set_option maxRecDepth 100000 in
theorem w_X8_isPair_40 {σ : SS} {x1 : Int32} {x2 : Int32} (C : Cx p l s m args meth c cX8_isPair 4 wsX8_isPair (some .boolean) RX8 g A) (h : f_X8_isPair_40 fu σ x1 x2 = some R) {H : Heap} {locs : List Loc} {ls : Array Slot} (hA : Aw g A s.heap (wM g σ) H locs) (hl : lv_has ls 4 [(0, .ref (g.2.1 0)), (1, .int x1), (2, .int x2)]) : W p l e rmX8_isPair s m args below meth c H locs 0 0 (MQ below (Qi g A (wM g R.2) R.1) args s 0 0 A) (F0 m 40 ls [.ref (g.2.1 0)]) := by
  have hx := C.1.1
  have hb := C.1.2.1
  unfold f_X8_isPair_40 at h
  refine lv_iconst (v := 1) hx hb dX8_isPair_40 (by decide) ?_
  refine lv_goto (tgt := 45) hx hb dX8_isPair_41 (by decide) ?_
  exact w_X8_isPair_45 C h hA (lv_sub hl [0, 1, 2] rfl)
set_option maxHeartbeats 4000000 in
set_option maxRecDepth 100000 in
theorem w_X8_isPair_22 {σ : SS} {x1 : Int32} {x2 : Int32} {x3 : Int32} {y0 : Int32} (C : Cx p l s m args meth c cX8_isPair 4 wsX8_isPair (some .boolean) RX8 g A) (h : f_X8_isPair_22 fu σ x1 x2 x3 y0 = some R) {H : Heap} {locs : List Loc} {ls : Array Slot} (hA : Aw g A s.heap (wM g σ) H locs) (hl : lv_has ls 4 [(0, .ref (g.2.1 0)), (1, .int x1), (2, .int x2), (3, .int x3)]) : W p l e rmX8_isPair s m args below meth c H locs 0 0 (MQ below (Qi g A (wM g R.2) R.1) args s 0 0 A) (F0 m 22 ls [.int y0, .ref (g.2.1 0)]) := by
  have hx := C.1.1
  have hb := C.1.2.1
  unfold f_X8_isPair_22 at h
  refine lv_iconst (v := 1) hx hb dX8_isPair_22 (by decide) ?_
  obtain ⟨r1, t3, hc2, h⟩ := bd h
  refine r_callVi (r := r1) (w1 := wM g t3) (As := [.int y0, .int (1 : Int32)]) (rest := []) C hA hl.1 (k_X8_bad C.2.2.2.2.2.2 hc2) (cwV 2 C.1.2.2.2.2 gX8_isPair_X8_bad rfl rfl rfl nd_X8_bad ⟨Nat.le_of_ble_eq_true rfl, Nat.le_of_ble_eq_true rfl⟩) 0 rfl rfl rfl rfl (Nat.le_of_ble_eq_true rfl) dX8_isPair_23 ⟨Nat.le_of_ble_eq_true rfl, Nat.le_of_ble_eq_true rfl⟩ (fun H locs hA => ?_)
  refine lv_if_ne (tgt := 87) hx hb dX8_isPair_26 (by decide) (fun c4 => ?_) (fun c4 => ?_)
  · replace h := (if_neg c4).symm.trans h
    refine lv_iconst (v := 0) hx hb dX8_isPair_87 (by decide) ?_
    obtain rfl := Option.some.inj h
    exact r_zret (v := (0 : Int32)) C hA (zb (Or.inl rfl)) dX8_isPair_88
  · replace h := (if_pos c4).symm.trans h
    refine lv_aload_n hx hb dX8_isPair_29 rfl (lv_at hl 0 rfl) ?_
    refine lv_iload_n hx hb dX8_isPair_30 rfl (lv_at hl 1 rfl) ?_
    refine lv_iload_n hx hb dX8_isPair_31 rfl (lv_at hl 2 rfl) ?_
    refine lv_icmp_eq (tgt := 40) hx hb dX8_isPair_32 (by decide) (fun c5 => ?_) (fun c5 => ?_)
    · replace h := (if_pos c5).symm.trans h
      exact w_X8_isPair_40 C h hA (lv_sub hl [0, 1, 2] rfl)
    · replace h := (if_neg c5).symm.trans h
      refine lv_iload_n hx hb dX8_isPair_35 rfl (lv_at hl 3 rfl) ?_
      refine lv_iconst (v := 1) hx hb dX8_isPair_36 (by decide) ?_
      refine lv_icmp_ge (tgt := 44) hx hb dX8_isPair_37 (by decide) (fun c6 => ?_) (fun c6 => ?_)
      · replace h := (if_pos c6).symm.trans h
        refine lv_iconst (v := 0) hx hb dX8_isPair_44 (by decide) ?_
        exact w_X8_isPair_45 C h hA (lv_sub hl [0, 1, 2] rfl)
      · replace h := (if_neg c6).symm.trans h
        exact w_X8_isPair_40 C h hA (lv_sub hl [0, 1, 2] rfl)
set_option maxHeartbeats 4000000 in
set_option maxRecDepth 100000 in
theorem w_X8_isPair_17 {σ : SS} {x1 : Int32} {x2 : Int32} {x3 : Int32} (C : Cx p l s m args meth c cX8_isPair 4 wsX8_isPair (some .boolean) RX8 g A) (h : f_X8_isPair_17 fu σ x1 x2 x3 = some R) {H : Heap} {locs : List Loc} {ls : Array Slot} (hA : Aw g A s.heap (wM g σ) H locs) (hl : lv_has ls 4 [(0, .ref (g.2.1 0)), (1, .int x1), (2, .int x2), (3, .int x3)]) : W p l e rmX8_isPair s m args below meth c H locs 0 0 (MQ below (Qi g A (wM g R.2) R.1) args s 0 0 A) (F0 m 17 ls [.ref (g.2.1 0)]) := by
  have hx := C.1.1
  have hb := C.1.2.1
  unfold f_X8_isPair_17 at h
  refine lv_iconst (v := 1) hx hb dX8_isPair_17 (by decide) ?_
  refine lv_goto (tgt := 22) hx hb dX8_isPair_18 (by decide) ?_
  exact w_X8_isPair_22 C h hA (lv_sub hl [0, 1, 2, 3] rfl)
set_option maxHeartbeats 4000000 in
set_option maxRecDepth 100000 in
theorem w_X8_isPair_0 {σ : SS} {x1 : Int32} {x2 : Int32} {x3 : Int32} (C : Cx p l s m args meth c cX8_isPair 4 wsX8_isPair (some .boolean) RX8 g A) (h : f_X8_isPair fu σ x1 x2 x3 = some R) {H : Heap} {locs : List Loc} {ls : Array Slot} (hA : Aw g A s.heap (wM g σ) H locs) (hl : lv_has ls 4 [(0, .ref (g.2.1 0)), (1, .int x1), (2, .int x2), (3, .int x3)]) : W p l e rmX8_isPair s m args below meth c H locs 0 0 (MQ below (Qi g A (wM g R.2) R.1) args s 0 0 A) (F0 m 0 ls []) := by
  have hx := C.1.1
  have hb := C.1.2.1
  unfold f_X8_isPair at h
  refine lv_aload_n hx hb dX8_isPair_0 rfl (lv_at hl 0 rfl) ?_
  refine lv_aload_n hx hb dX8_isPair_1 rfl (lv_at hl 0 rfl) ?_
  refine lv_iload_n hx hb dX8_isPair_2 rfl (lv_at hl 1 rfl) ?_
  obtain ⟨r1, hc2, h⟩ := bd1 h
  refine r_callVi (r := r1) (w1 := wM g σ) (As := [.int x1]) (rest := [.ref (g.2.1 0)]) C hA hl.1 (k_X8_isChief C.2.2.2.2.2.2 hc2) (cwV 1 C.1.2.2.2.2 gX8_isPair_X8_isChief rfl rfl rfl nd_X8_isChief ⟨Nat.le_of_ble_eq_true rfl, Nat.le_of_ble_eq_true rfl⟩) 0 rfl rfl rfl rfl (Nat.le_of_ble_eq_true rfl) dX8_isPair_3 ⟨Nat.le_of_ble_eq_true rfl, Nat.le_of_ble_eq_true rfl⟩ (fun H locs hA => ?_)
  refine lv_if_eq (tgt := 17) hx hb dX8_isPair_6 (by decide) (fun c3 => ?_) (fun c3 => ?_)
  · replace h := (if_pos c3).symm.trans h
    exact w_X8_isPair_17 C h hA (lv_sub hl [0, 1, 2, 3] rfl)
  · replace h := (if_neg c3).symm.trans h
    refine lv_aload_n hx hb dX8_isPair_9 rfl (lv_at hl 0 rfl) ?_
    refine lv_iload_n hx hb dX8_isPair_10 rfl (lv_at hl 2 rfl) ?_
    obtain ⟨r4, hc5, h⟩ := bd1 h
    refine r_callVi (r := r4) (w1 := wM g σ) (As := [.int x2]) (rest := [.ref (g.2.1 0)]) C hA hl.1 (k_X8_isChief C.2.2.2.2.2.2 hc5) (cwV 1 C.1.2.2.2.2 gX8_isPair_X8_isChief rfl rfl rfl nd_X8_isChief ⟨Nat.le_of_ble_eq_true rfl, Nat.le_of_ble_eq_true rfl⟩) 0 rfl rfl rfl rfl (Nat.le_of_ble_eq_true rfl) dX8_isPair_11 ⟨Nat.le_of_ble_eq_true rfl, Nat.le_of_ble_eq_true rfl⟩ (fun H locs hA => ?_)
    refine lv_if_ne (tgt := 21) hx hb dX8_isPair_14 (by decide) (fun c6 => ?_) (fun c6 => ?_)
    · replace h := (if_neg c6).symm.trans h
      refine lv_iconst (v := 0) hx hb dX8_isPair_21 (by decide) ?_
      exact w_X8_isPair_22 C h hA (lv_sub hl [0, 1, 2, 3] rfl)
    · replace h := (if_pos c6).symm.trans h
      exact w_X8_isPair_17 C h hA (lv_sub hl [0, 1, 2, 3] rfl)
end
set_option maxRecDepth 100000 in
theorem k_X8_isPair {l : Launch} {g : Gm} {fu : Nat} {σ : SS} {x1 : Int32} {x2 : Int32} {x3 : Int32} {R : Int32 × SS} (hlt : l.stackTraces = false) (h : f_X8_isPair fu σ x1 x2 x3 = some R) (sz : Nat) : Met l yX8_isPair wsX8_isPair rmX8_isPair (Pw g (wM g σ) [.ref (g.2.1 0), .int x1, .int x2, .int x3] sz) (Qi g (va_A (wM g σ) sz) (wM g R.2) R.1) 0 0 (va_A (wM g σ) sz) :=
  ofM (own := RX8) hlt (by decide) rfl rfl (Nat.le_of_ble_eq_true rfl) (fun p e s m below meth c hsz C hA ls hl => w_X8_isPair_0 C h hA hl)
abbrev rmX8_give : Room := { frames := 4, cells := 0, slots := 0, locals := 105 }
theorem iX8_give_X8 : ∀ x ∈ wsX80, x ∈ wsX8_give := by decide +kernel
theorem nd_X8_give : yX8_give.cls = RX8 ∧ yX8_give.cls ≠ "java/lang/invoke/MethodHandle" ∧ yX8_give.cls ≠ "java/lang/invoke/VarHandle" ∧ (parseMethodDescriptor yX8_give.desc).map (fun d => d.parameters.length) = some 3 := by decide +kernel
def f_X8_give_55 (fu : Nat) (σ : SS) (x1 : Int32) (x2 : Int32) (x3 : Int32) : Option (Int32 × SS) :=
  if inB x1 12 then if inB x2 12 then bnd (f_X8_gives fu (sA (sA σ 1 (x1).toNatClampNeg ((σ.2.1 1 (x1).toNatClampNeg) - x3)) 1 (x2).toNatClampNeg (((sA σ 1 (x1).toNatClampNeg ((σ.2.1 1 (x1).toNatClampNeg) - x3)).2.1 1 (x2).toNatClampNeg) + x3)) x1 x2 x3) (fun r3 t5 => some (r3, t5)) else none else none
def f_X8_give (fu : Nat) (σ : SS) (x1 : Int32) (x2 : Int32) (x3 : Int32) : Option (Int32 × SS) :=
  bnd (f_X8_isPair fu (sI σ 0 (0 : Int32)) x1 x2 x3) (fun r1 t3 => (if r1 = 0 then some ((0 : Int32), t3) else if inB x1 12 then (if x3 ≤ (t3.2.1 1 (x1).toNatClampNeg) then (if (t3.1 20) = (400 : Int32) then bnd1 (f_X8_madeOf fu t3 x1 x2 (x3).toInt64) (fun r8 => (if (lg_cmp r8 (0 : Int64)) ≤ 0 then f_X8_give_55 fu t3 x1 x2 x3 else some ((-2), t3))) else f_X8_give_55 fu t3 x1 x2 x3) else some ((-1), t3)) else none))
section
variable {p : Program} {l : Launch} {e : Env} {s : State} {m : MethodId} {args : Array Value} {below : List Frame} {meth : Method} {c : Code} {g : Gm} {A : Nat → Prop} {fu : Nat} {R : Int32 × SS}
set_option maxHeartbeats 4000000 in
set_option maxRecDepth 100000 in
theorem w_X8_give_55 {σ : SS} {x1 : Int32} {x2 : Int32} {x3 : Int32} (C : Cx p l s m args meth c cX8_give 4 wsX8_give (some .int) RX8 g A) (h : f_X8_give_55 fu σ x1 x2 x3 = some R) {H : Heap} {locs : List Loc} {ls : Array Slot} (hA : Aw g A s.heap (wM g σ) H locs) (hl : lv_has ls 4 [(0, .ref (g.2.1 0)), (1, .int x1), (2, .int x2), (3, .int x3)]) : W p l e rmX8_give s m args below meth c H locs 0 0 (MQ below (Qi g A (wM g R.2) R.1) args s 0 0 A) (F0 m 55 ls []) := by
  have hx := C.1.1
  have hb := C.1.2.1
  unfold f_X8_give_55 at h
  refine lv_aload_n hx hb dX8_give_55 rfl (lv_at hl 0 rfl) ?_
  refine Mg_X8_blankets C hA iX8_give_X8 (by decide +kernel) dX8_give_56 ?_
  refine lv_iload_n hx hb dX8_give_59 rfl (lv_at hl 1 rfl) ?_
  refine lv_dup2_11 hx hb dX8_give_60 rfl rfl ?_
  obtain ⟨g1, h⟩ := gd h
  refine Mld_1 (v := (σ.2.1 1 (x1).toNatClampNeg)) C hA rfl g1 dX8_give_61 ?_
  refine lv_iload_n hx hb dX8_give_62 rfl (lv_at hl 3 rfl) ?_
  refine lv_isub hx hb dX8_give_63 ?_
  refine Mst_1 C hA g1 dX8_give_64 (fun H locs hA => ?_)
  refine lv_aload_n hx hb dX8_give_65 rfl (lv_at hl 0 rfl) ?_
  refine Mg_X8_blankets C hA iX8_give_X8 (by decide +kernel) dX8_give_66 ?_
  refine lv_iload_n hx hb dX8_give_69 rfl (lv_at hl 2 rfl) ?_
  refine lv_dup2_11 hx hb dX8_give_70 rfl rfl ?_
  obtain ⟨g2, h⟩ := gd h
  refine Mld_1 (v := ((sA σ 1 (x1).toNatClampNeg ((σ.2.1 1 (x1).toNatClampNeg) - x3)).2.1 1 (x2).toNatClampNeg)) C hA rfl g2 dX8_give_71 ?_
  refine lv_iload_n hx hb dX8_give_72 rfl (lv_at hl 3 rfl) ?_
  refine lv_iadd hx hb dX8_give_73 ?_
  refine Mst_1 C hA g2 dX8_give_74 (fun H locs hA => ?_)
  refine lv_aload_n hx hb dX8_give_75 rfl (lv_at hl 0 rfl) ?_
  refine lv_iload_n hx hb dX8_give_76 rfl (lv_at hl 1 rfl) ?_
  refine lv_iload_n hx hb dX8_give_77 rfl (lv_at hl 2 rfl) ?_
  refine lv_iload_n hx hb dX8_give_78 rfl (lv_at hl 3 rfl) ?_
  obtain ⟨r3, t5, hc4, h⟩ := bd h
  refine r_callVi (r := r3) (w1 := wM g t5) (As := [.int x1, .int x2, .int x3]) (rest := []) C hA hl.1 (k_X8_gives C.2.2.2.2.2.2 hc4) (cwV 3 C.1.2.2.2.2 gX8_give_X8_gives rfl rfl rfl nd_X8_gives ⟨Nat.le_of_ble_eq_true rfl, Nat.le_of_ble_eq_true rfl⟩) 0 rfl rfl rfl rfl (Nat.le_of_ble_eq_true rfl) dX8_give_79 ⟨Nat.le_of_ble_eq_true rfl, Nat.le_of_ble_eq_true rfl⟩ (fun H locs hA => ?_)
  obtain rfl := Option.some.inj h
  exact r_iret C hA dX8_give_82
set_option maxHeartbeats 4000000 in
set_option maxRecDepth 100000 in
theorem w_X8_give_0 {σ : SS} {x1 : Int32} {x2 : Int32} {x3 : Int32} (C : Cx p l s m args meth c cX8_give 4 wsX8_give (some .int) RX8 g A) (h : f_X8_give fu σ x1 x2 x3 = some R) {H : Heap} {locs : List Loc} {ls : Array Slot} (hA : Aw g A s.heap (wM g σ) H locs) (hl : lv_has ls 4 [(0, .ref (g.2.1 0)), (1, .int x1), (2, .int x2), (3, .int x3)]) : W p l e rmX8_give s m args below meth c H locs 0 0 (MQ below (Qi g A (wM g R.2) R.1) args s 0 0 A) (F0 m 0 ls []) := by
  have hx := C.1.1
  have hb := C.1.2.1
  unfold f_X8_give at h
  refine lv_aload_n hx hb dX8_give_0 rfl (lv_at hl 0 rfl) ?_
  refine lv_iconst (v := 0) hx hb dX8_give_1 (by decide) ?_
  refine Mp_X8_thrown C hA iX8_give_X8 (by decide +kernel) dX8_give_2 (fun H locs hA => ?_)
  refine lv_aload_n hx hb dX8_give_5 rfl (lv_at hl 0 rfl) ?_
  refine lv_iload_n hx hb dX8_give_6 rfl (lv_at hl 1 rfl) ?_
  refine lv_iload_n hx hb dX8_give_7 rfl (lv_at hl 2 rfl) ?_
  refine lv_iload_n hx hb dX8_give_8 rfl (lv_at hl 3 rfl) ?_
  obtain ⟨r1, t3, hc2, h⟩ := bd h
  refine r_callVi (r := r1) (w1 := wM g t3) (As := [.int x1, .int x2, .int x3]) (rest := []) C hA hl.1 (k_X8_isPair C.2.2.2.2.2.2 hc2) (cwV 3 C.1.2.2.2.2 gX8_give_X8_isPair rfl rfl rfl nd_X8_isPair ⟨Nat.le_of_ble_eq_true rfl, Nat.le_of_ble_eq_true rfl⟩) 0 rfl rfl rfl rfl (Nat.le_of_ble_eq_true rfl) dX8_give_9 ⟨Nat.le_of_ble_eq_true rfl, Nat.le_of_ble_eq_true rfl⟩ (fun H locs hA => ?_)
  refine lv_if_ne (tgt := 17) hx hb dX8_give_12 (by decide) (fun c4 => ?_) (fun c4 => ?_)
  · replace h := (if_neg c4).symm.trans h
    refine lv_aload_n hx hb dX8_give_17 rfl (lv_at hl 0 rfl) ?_
    refine Mg_X8_blankets C hA iX8_give_X8 (by decide +kernel) dX8_give_18 ?_
    refine lv_iload_n hx hb dX8_give_21 rfl (lv_at hl 1 rfl) ?_
    obtain ⟨g5, h⟩ := gd h
    refine Mld_1 (v := (t3.2.1 1 (x1).toNatClampNeg)) C hA rfl g5 dX8_give_22 ?_
    refine lv_iload_n hx hb dX8_give_23 rfl (lv_at hl 3 rfl) ?_
    refine lv_icmp_ge (tgt := 29) hx hb dX8_give_24 (by decide) (fun c6 => ?_) (fun c6 => ?_)
    · replace h := (if_pos c6).symm.trans h
      refine lv_aload_n hx hb dX8_give_29 rfl (lv_at hl 0 rfl) ?_
      refine Mg_X8_debts (v := (t3.1 20)) C hA rfl iX8_give_X8 (by decide +kernel) dX8_give_30 ?_
      refine lv_sipush (v := 400) hx hb dX8_give_33 (by decide) ?_
      refine lv_icmp_ne (tgt := 55) hx hb dX8_give_36 (by decide) (fun c7 => ?_) (fun c7 => ?_)
      · replace h := (if_neg c7).symm.trans h
        exact w_X8_give_55 C h hA (lv_sub hl [0, 1, 2, 3] rfl)
      · replace h := (if_pos c7).symm.trans h
        refine lv_aload_n hx hb dX8_give_39 rfl (lv_at hl 0 rfl) ?_
        refine lv_iload_n hx hb dX8_give_40 rfl (lv_at hl 1 rfl) ?_
        refine lv_iload_n hx hb dX8_give_41 rfl (lv_at hl 2 rfl) ?_
        refine lv_iload_n hx hb dX8_give_42 rfl (lv_at hl 3 rfl) ?_
        refine lv_i2l hx hb dX8_give_43 rfl ?_
        obtain ⟨r8, hc9, h⟩ := bd1 h
        refine r_callVl (r := r8) (w1 := wM g t3) (As := [.int x1, .int x2, .long (x3).toInt64]) (rest := []) C hA hl.1 (k_X8_madeOf C.2.2.2.2.2.2 hc9) (cwV 3 C.1.2.2.2.2 gX8_give_X8_madeOf rfl rfl rfl nd_X8_madeOf ⟨Nat.le_of_ble_eq_true rfl, Nat.le_of_ble_eq_true rfl⟩) 0 rfl rfl rfl rfl (Nat.le_of_ble_eq_true rfl) dX8_give_44 ⟨Nat.le_of_ble_eq_true rfl, Nat.le_of_ble_eq_true rfl⟩ (fun H locs hA => ?_)
        refine lv_lconst (v := 0) hx hb dX8_give_47 (by decide) ?_
        refine W.lcmp hx hb dX8_give_48 ?_
        refine lv_if_le (tgt := 55) hx hb dX8_give_49 (by decide) (fun c10 => ?_) (fun c10 => ?_)
        · replace h := (if_pos c10).symm.trans h
          exact w_X8_give_55 C h hA (lv_sub hl [0, 1, 2, 3] rfl)
        · replace h := (if_neg c10).symm.trans h
          refine lv_bipush (v := (-2)) hx hb dX8_give_52 (by decide) ?_
          obtain rfl := Option.some.inj h
          exact r_iret C hA dX8_give_54
    · replace h := (if_neg c6).symm.trans h
      refine lv_iconst (v := (-1)) hx hb dX8_give_27 (by decide) ?_
      obtain rfl := Option.some.inj h
      exact r_iret C hA dX8_give_28
  · replace h := (if_pos c4).symm.trans h
    refine lv_iconst (v := 0) hx hb dX8_give_15 (by decide) ?_
    obtain rfl := Option.some.inj h
    exact r_iret C hA dX8_give_16
end
set_option maxRecDepth 100000 in
theorem k_X8_give {l : Launch} {g : Gm} {fu : Nat} {σ : SS} {x1 : Int32} {x2 : Int32} {x3 : Int32} {R : Int32 × SS} (hlt : l.stackTraces = false) (h : f_X8_give fu σ x1 x2 x3 = some R) (sz : Nat) : Met l yX8_give wsX8_give rmX8_give (Pw g (wM g σ) [.ref (g.2.1 0), .int x1, .int x2, .int x3] sz) (Qi g (va_A (wM g σ) sz) (wM g R.2) R.1) 0 0 (va_A (wM g σ) sz) :=
  ofM (own := RX8) hlt (by decide) rfl rfl (Nat.le_of_ble_eq_true rfl) (fun p e s m below meth c hsz C hA ls hl => w_X8_give_0 C h hA hl)
abbrev rmX8_lend : Room := { frames := 2, cells := 0, slots := 0, locals := 45 }
theorem iX8_lend_X8 : ∀ x ∈ wsX80, x ∈ wsX8_lend := by decide +kernel
theorem nd_X8_lend : yX8_lend.cls = RX8 ∧ yX8_lend.cls ≠ "java/lang/invoke/MethodHandle" ∧ yX8_lend.cls ≠ "java/lang/invoke/VarHandle" ∧ (parseMethodDescriptor yX8_lend.desc).map (fun d => d.parameters.length) = some 3 := by decide +kernel
def f_X8_lend (fu : Nat) (σ : SS) (x1 : Int32) (x2 : Int32) (x3 : Int32) : Option (Int32 × SS) :=
  bnd (f_X8_isPair fu (sI σ 0 (0 : Int32)) x1 x2 x3) (fun r1 t3 => (if r1 = 0 then some ((0 : Int32), t3) else if inB x1 12 then (if x3 ≤ (t3.2.1 1 (x1).toNatClampNeg) then (if (t3.1 20) = (400 : Int32) then some ((-2), t3) else if inB x2 12 then bnd (f_X8_owe fu (sA (sA t3 1 (x1).toNatClampNeg ((t3.2.1 1 (x1).toNatClampNeg) - x3)) 1 (x2).toNatClampNeg (((sA t3 1 (x1).toNatClampNeg ((t3.2.1 1 (x1).toNatClampNeg) - x3)).2.1 1 (x2).toNatClampNeg) + x3)) x2 x1 (x3).toInt64 (1 : Int32) (-1)) (fun r9 t11 => some (((t11.1 20) - (1 : Int32)), t11)) else none) else some ((-1), t3)) else none))
section
variable {p : Program} {l : Launch} {e : Env} {s : State} {m : MethodId} {args : Array Value} {below : List Frame} {meth : Method} {c : Code} {g : Gm} {A : Nat → Prop} {fu : Nat} {R : Int32 × SS}
set_option maxHeartbeats 4000000 in
set_option maxRecDepth 100000 in
theorem w_X8_lend_0 {σ : SS} {x1 : Int32} {x2 : Int32} {x3 : Int32} (C : Cx p l s m args meth c cX8_lend 4 wsX8_lend (some .int) RX8 g A) (h : f_X8_lend fu σ x1 x2 x3 = some R) {H : Heap} {locs : List Loc} {ls : Array Slot} (hA : Aw g A s.heap (wM g σ) H locs) (hl : lv_has ls 4 [(0, .ref (g.2.1 0)), (1, .int x1), (2, .int x2), (3, .int x3)]) : W p l e rmX8_lend s m args below meth c H locs 0 0 (MQ below (Qi g A (wM g R.2) R.1) args s 0 0 A) (F0 m 0 ls []) := by
  have hx := C.1.1
  have hb := C.1.2.1
  unfold f_X8_lend at h
  refine lv_aload_n hx hb dX8_lend_0 rfl (lv_at hl 0 rfl) ?_
  refine lv_iconst (v := 0) hx hb dX8_lend_1 (by decide) ?_
  refine Mp_X8_thrown C hA iX8_lend_X8 (by decide +kernel) dX8_lend_2 (fun H locs hA => ?_)
  refine lv_aload_n hx hb dX8_lend_5 rfl (lv_at hl 0 rfl) ?_
  refine lv_iload_n hx hb dX8_lend_6 rfl (lv_at hl 1 rfl) ?_
  refine lv_iload_n hx hb dX8_lend_7 rfl (lv_at hl 2 rfl) ?_
  refine lv_iload_n hx hb dX8_lend_8 rfl (lv_at hl 3 rfl) ?_
  obtain ⟨r1, t3, hc2, h⟩ := bd h
  refine r_callVi (r := r1) (w1 := wM g t3) (As := [.int x1, .int x2, .int x3]) (rest := []) C hA hl.1 (k_X8_isPair C.2.2.2.2.2.2 hc2) (cwV 3 C.1.2.2.2.2 gX8_lend_X8_isPair rfl rfl rfl nd_X8_isPair ⟨Nat.le_of_ble_eq_true rfl, Nat.le_of_ble_eq_true rfl⟩) 0 rfl rfl rfl rfl (Nat.le_of_ble_eq_true rfl) dX8_lend_9 ⟨Nat.le_of_ble_eq_true rfl, Nat.le_of_ble_eq_true rfl⟩ (fun H locs hA => ?_)
  refine lv_if_ne (tgt := 17) hx hb dX8_lend_12 (by decide) (fun c4 => ?_) (fun c4 => ?_)
  · replace h := (if_neg c4).symm.trans h
    refine lv_aload_n hx hb dX8_lend_17 rfl (lv_at hl 0 rfl) ?_
    refine Mg_X8_blankets C hA iX8_lend_X8 (by decide +kernel) dX8_lend_18 ?_
    refine lv_iload_n hx hb dX8_lend_21 rfl (lv_at hl 1 rfl) ?_
    obtain ⟨g5, h⟩ := gd h
    refine Mld_1 (v := (t3.2.1 1 (x1).toNatClampNeg)) C hA rfl g5 dX8_lend_22 ?_
    refine lv_iload_n hx hb dX8_lend_23 rfl (lv_at hl 3 rfl) ?_
    refine lv_icmp_ge (tgt := 29) hx hb dX8_lend_24 (by decide) (fun c6 => ?_) (fun c6 => ?_)
    · replace h := (if_pos c6).symm.trans h
      refine lv_aload_n hx hb dX8_lend_29 rfl (lv_at hl 0 rfl) ?_
      refine Mg_X8_debts (v := (t3.1 20)) C hA rfl iX8_lend_X8 (by decide +kernel) dX8_lend_30 ?_
      refine lv_sipush (v := 400) hx hb dX8_lend_33 (by decide) ?_
      refine lv_icmp_ne (tgt := 42) hx hb dX8_lend_36 (by decide) (fun c7 => ?_) (fun c7 => ?_)
      · replace h := (if_neg c7).symm.trans h
        refine lv_aload_n hx hb dX8_lend_42 rfl (lv_at hl 0 rfl) ?_
        refine Mg_X8_blankets C hA iX8_lend_X8 (by decide +kernel) dX8_lend_43 ?_
        refine lv_iload_n hx hb dX8_lend_46 rfl (lv_at hl 1 rfl) ?_
        refine lv_dup2_11 hx hb dX8_lend_47 rfl rfl ?_
        refine Mld_1 (v := (t3.2.1 1 (x1).toNatClampNeg)) C hA rfl g5 dX8_lend_48 ?_
        refine lv_iload_n hx hb dX8_lend_49 rfl (lv_at hl 3 rfl) ?_
        refine lv_isub hx hb dX8_lend_50 ?_
        refine Mst_1 C hA g5 dX8_lend_51 (fun H locs hA => ?_)
        refine lv_aload_n hx hb dX8_lend_52 rfl (lv_at hl 0 rfl) ?_
        refine Mg_X8_blankets C hA iX8_lend_X8 (by decide +kernel) dX8_lend_53 ?_
        refine lv_iload_n hx hb dX8_lend_56 rfl (lv_at hl 2 rfl) ?_
        refine lv_dup2_11 hx hb dX8_lend_57 rfl rfl ?_
        obtain ⟨g8, h⟩ := gd h
        refine Mld_1 (v := ((sA t3 1 (x1).toNatClampNeg ((t3.2.1 1 (x1).toNatClampNeg) - x3)).2.1 1 (x2).toNatClampNeg)) C hA rfl g8 dX8_lend_58 ?_
        refine lv_iload_n hx hb dX8_lend_59 rfl (lv_at hl 3 rfl) ?_
        refine lv_iadd hx hb dX8_lend_60 ?_
        refine Mst_1 C hA g8 dX8_lend_61 (fun H locs hA => ?_)
        refine lv_aload_n hx hb dX8_lend_62 rfl (lv_at hl 0 rfl) ?_
        refine lv_iload_n hx hb dX8_lend_63 rfl (lv_at hl 2 rfl) ?_
        refine lv_iload_n hx hb dX8_lend_64 rfl (lv_at hl 1 rfl) ?_
        refine lv_iload_n hx hb dX8_lend_65 rfl (lv_at hl 3 rfl) ?_
        refine lv_i2l hx hb dX8_lend_66 rfl ?_
        refine lv_iconst (v := 1) hx hb dX8_lend_67 (by decide) ?_
        refine lv_iconst (v := (-1)) hx hb dX8_lend_68 (by decide) ?_
        obtain ⟨r9, t11, hc10, h⟩ := bd h
        refine r_callVv (r := r9) (w1 := wM g t11) (As := [.int x2, .int x1, .long (x3).toInt64, .int (1 : Int32), .int (-1)]) (rest := []) C hA hl.1 (k_X8_owe C.2.2.2.2.2.2 hc10) (cwV 5 C.1.2.2.2.2 gX8_lend_X8_owe rfl rfl rfl nd_X8_owe ⟨Nat.le_of_ble_eq_true rfl, Nat.le_of_ble_eq_true rfl⟩) 0 rfl rfl rfl rfl (Nat.le_of_ble_eq_true rfl) dX8_lend_69 ⟨Nat.le_of_ble_eq_true rfl, Nat.le_of_ble_eq_true rfl⟩ (fun H locs hA => ?_)
        refine lv_aload_n hx hb dX8_lend_72 rfl (lv_at hl 0 rfl) ?_
        refine Mg_X8_debts (v := (t11.1 20)) C hA rfl iX8_lend_X8 (by decide +kernel) dX8_lend_73 ?_
        refine lv_iconst (v := 1) hx hb dX8_lend_76 (by decide) ?_
        refine lv_isub hx hb dX8_lend_77 ?_
        obtain rfl := Option.some.inj h
        exact r_iret C hA dX8_lend_78
      · replace h := (if_pos c7).symm.trans h
        refine lv_bipush (v := (-2)) hx hb dX8_lend_39 (by decide) ?_
        obtain rfl := Option.some.inj h
        exact r_iret C hA dX8_lend_41
    · replace h := (if_neg c6).symm.trans h
      refine lv_iconst (v := (-1)) hx hb dX8_lend_27 (by decide) ?_
      obtain rfl := Option.some.inj h
      exact r_iret C hA dX8_lend_28
  · replace h := (if_pos c4).symm.trans h
    refine lv_iconst (v := 0) hx hb dX8_lend_15 (by decide) ?_
    obtain rfl := Option.some.inj h
    exact r_iret C hA dX8_lend_16
end
set_option maxRecDepth 100000 in
theorem k_X8_lend {l : Launch} {g : Gm} {fu : Nat} {σ : SS} {x1 : Int32} {x2 : Int32} {x3 : Int32} {R : Int32 × SS} (hlt : l.stackTraces = false) (h : f_X8_lend fu σ x1 x2 x3 = some R) (sz : Nat) : Met l yX8_lend wsX8_lend rmX8_lend (Pw g (wM g σ) [.ref (g.2.1 0), .int x1, .int x2, .int x3] sz) (Qi g (va_A (wM g σ) sz) (wM g R.2) R.1) 0 0 (va_A (wM g σ) sz) :=
  ofM (own := RX8) hlt (by decide) rfl rfl (Nat.le_of_ble_eq_true rfl) (fun p e s m below meth c hsz C hA ls hl => w_X8_lend_0 C h hA hl)
abbrev rmX8_copper : Room := { frames := 1, cells := 0, slots := 0, locals := 22 }
theorem iX8_copper_X8 : ∀ x ∈ wsX80, x ∈ wsX8_copper := by decide +kernel
theorem nd_X8_copper : yX8_copper.cls = RX8 ∧ yX8_copper.cls ≠ "java/lang/invoke/MethodHandle" ∧ yX8_copper.cls ≠ "java/lang/invoke/VarHandle" ∧ (parseMethodDescriptor yX8_copper.desc).map (fun d => d.parameters.length) = some 2 := by decide +kernel
def f_X8_copper_74 (fu : Nat) (σ : SS) (x1 : Int32) (x2 : Int32) (y0 : Int32) : Option (Int32 × SS) :=
  bnd (f_X8_bad fu σ y0 (3 : Int32)) (fun r1 t3 => (if r1 = 0 then if inB (t3.1 24) 30 then some ((((t3.1 24) + (1 : Int32)) - (1 : Int32)), (sI (sA (sA (sA t3 21 ((t3.1 24)).toNatClampNeg x1) 22 ((t3.1 24)).toNatClampNeg x2) 23 ((t3.1 24)).toNatClampNeg x2) 24 ((t3.1 24) + (1 : Int32)))) else none else some ((0 : Int32), t3)))
def f_X8_copper_69 (fu : Nat) (σ : SS) (x1 : Int32) (x2 : Int32) : Option (Int32 × SS) :=
  f_X8_copper_74 fu σ x1 x2 (1 : Int32)
def f_X8_copper_43 (fu : Nat) (σ : SS) (x1 : Int32) (x2 : Int32) (y0 : Int32) : Option (Int32 × SS) :=
  bnd (f_X8_bad fu σ y0 (2 : Int32)) (fun r1 t3 => (if r1 = 0 then if inB x1 12 then (if (t3.2.1 3 (x1).toNatClampNeg) = 0 then (if (t3.1 24) = (30 : Int32) then f_X8_copper_69 fu t3 x1 x2 else f_X8_copper_74 fu t3 x1 x2 (0 : Int32)) else f_X8_copper_69 fu t3 x1 x2) else none else some ((0 : Int32), t3)))
def f_X8_copper_38 (fu : Nat) (σ : SS) (x1 : Int32) (x2 : Int32) : Option (Int32 × SS) :=
  f_X8_copper_43 fu σ x1 x2 (1 : Int32)
def f_X8_copper_19 (fu : Nat) (σ : SS) (x1 : Int32) (x2 : Int32) (y0 : Int32) : Option (Int32 × SS) :=
  bnd (f_X8_bad fu σ y0 (1 : Int32)) (fun r1 t3 => (if r1 = 0 then (if x2 < (1 : Int32) then f_X8_copper_38 fu t3 x1 x2 else (if x2 ≤ (1000000 : Int32) then f_X8_copper_43 fu t3 x1 x2 (0 : Int32) else f_X8_copper_38 fu t3 x1 x2)) else some ((0 : Int32), t3)))
def f_X8_copper (fu : Nat) (σ : SS) (x1 : Int32) (x2 : Int32) : Option (Int32 × SS) :=
  bnd1 (f_X8_isChief fu (sI σ 0 (0 : Int32)) x1) (fun r1 => (if r1 = 0 then f_X8_copper_19 fu (sI σ 0 (0 : Int32)) x1 x2 (1 : Int32) else f_X8_copper_19 fu (sI σ 0 (0 : Int32)) x1 x2 (0 : Int32)))
section
variable {p : Program} {l : Launch} {e : Env} {s : State} {m : MethodId} {args : Array Value} {below : List Frame} {meth : Method} {c : Code} {g : Gm} {A : Nat → Prop} {fu : Nat} {R : Int32 × SS}
set_option maxHeartbeats 4000000 in
set_option maxRecDepth 100000 in
theorem w_X8_copper_74 {σ : SS} {x1 : Int32} {x2 : Int32} {y0 : Int32} (C : Cx p l s m args meth c cX8_copper 3 wsX8_copper (some .int) RX8 g A) (h : f_X8_copper_74 fu σ x1 x2 y0 = some R) {H : Heap} {locs : List Loc} {ls : Array Slot} (hA : Aw g A s.heap (wM g σ) H locs) (hl : lv_has ls 3 [(0, .ref (g.2.1 0)), (1, .int x1), (2, .int x2)]) : W p l e rmX8_copper s m args below meth c H locs 0 0 (MQ below (Qi g A (wM g R.2) R.1) args s 0 0 A) (F0 m 74 ls [.int y0, .ref (g.2.1 0)]) := by
  have hx := C.1.1
  have hb := C.1.2.1
  unfold f_X8_copper_74 at h
  refine lv_iconst (v := 3) hx hb dX8_copper_74 (by decide) ?_
  obtain ⟨r1, t3, hc2, h⟩ := bd h
  refine r_callVi (r := r1) (w1 := wM g t3) (As := [.int y0, .int (3 : Int32)]) (rest := []) C hA hl.1 (k_X8_bad C.2.2.2.2.2.2 hc2) (cwV 2 C.1.2.2.2.2 gX8_copper_X8_bad rfl rfl rfl nd_X8_bad ⟨Nat.le_of_ble_eq_true rfl, Nat.le_of_ble_eq_true rfl⟩) 0 rfl rfl rfl rfl (Nat.le_of_ble_eq_true rfl) dX8_copper_75 ⟨Nat.le_of_ble_eq_true rfl, Nat.le_of_ble_eq_true rfl⟩ (fun H locs hA => ?_)
  refine lv_if_eq (tgt := 83) hx hb dX8_copper_78 (by decide) (fun c4 => ?_) (fun c4 => ?_)
  · replace h := (if_pos c4).symm.trans h
    refine lv_aload_n hx hb dX8_copper_83 rfl (lv_at hl 0 rfl) ?_
    refine Mg_X8_owner C hA iX8_copper_X8 (by decide +kernel) dX8_copper_84 ?_
    refine lv_aload_n hx hb dX8_copper_87 rfl (lv_at hl 0 rfl) ?_
    refine Mg_X8_coppers (v := (t3.1 24)) C hA rfl iX8_copper_X8 (by decide +kernel) dX8_copper_88 ?_
    refine lv_iload_n hx hb dX8_copper_91 rfl (lv_at hl 1 rfl) ?_
    obtain ⟨g5, h⟩ := gd h
    refine Mst_21 C hA g5 dX8_copper_92 (fun H locs hA => ?_)
    refine lv_aload_n hx hb dX8_copper_93 rfl (lv_at hl 0 rfl) ?_
    refine Mg_X8_worth C hA iX8_copper_X8 (by decide +kernel) dX8_copper_94 ?_
    refine lv_aload_n hx hb dX8_copper_97 rfl (lv_at hl 0 rfl) ?_
    refine Mg_X8_coppers (v := (t3.1 24)) C hA rfl iX8_copper_X8 (by decide +kernel) dX8_copper_98 ?_
    refine lv_iload_n hx hb dX8_copper_101 rfl (lv_at hl 2 rfl) ?_
    refine Mst_22 C hA g5 dX8_copper_102 (fun H locs hA => ?_)
    refine lv_aload_n hx hb dX8_copper_103 rfl (lv_at hl 0 rfl) ?_
    refine Mg_X8_first C hA iX8_copper_X8 (by decide +kernel) dX8_copper_104 ?_
    refine lv_aload_n hx hb dX8_copper_107 rfl (lv_at hl 0 rfl) ?_
    refine Mg_X8_coppers (v := (t3.1 24)) C hA rfl iX8_copper_X8 (by decide +kernel) dX8_copper_108 ?_
    refine lv_iload_n hx hb dX8_copper_111 rfl (lv_at hl 2 rfl) ?_
    refine Mst_23 C hA g5 dX8_copper_112 (fun H locs hA => ?_)
    refine lv_aload_n hx hb dX8_copper_113 rfl (lv_at hl 0 rfl) ?_
    refine lv_dup hx hb dX8_copper_114 rfl ?_
    refine Mg_X8_coppers (v := (t3.1 24)) C hA rfl iX8_copper_X8 (by decide +kernel) dX8_copper_115 ?_
    refine lv_iconst (v := 1) hx hb dX8_copper_118 (by decide) ?_
    refine lv_iadd hx hb dX8_copper_119 ?_
    refine Mp_X8_coppers C hA iX8_copper_X8 (by decide +kernel) dX8_copper_120 (fun H locs hA => ?_)
    refine lv_aload_n hx hb dX8_copper_123 rfl (lv_at hl 0 rfl) ?_
    refine Mg_X8_coppers (v := ((t3.1 24) + (1 : Int32))) C hA rfl iX8_copper_X8 (by decide +kernel) dX8_copper_124 ?_
    refine lv_iconst (v := 1) hx hb dX8_copper_127 (by decide) ?_
    refine lv_isub hx hb dX8_copper_128 ?_
    obtain rfl := Option.some.inj h
    exact r_iret C hA dX8_copper_129
  · replace h := (if_neg c4).symm.trans h
    refine lv_iconst (v := 0) hx hb dX8_copper_81 (by decide) ?_
    obtain rfl := Option.some.inj h
    exact r_iret C hA dX8_copper_82
set_option maxHeartbeats 4000000 in
set_option maxRecDepth 100000 in
theorem w_X8_copper_69 {σ : SS} {x1 : Int32} {x2 : Int32} (C : Cx p l s m args meth c cX8_copper 3 wsX8_copper (some .int) RX8 g A) (h : f_X8_copper_69 fu σ x1 x2 = some R) {H : Heap} {locs : List Loc} {ls : Array Slot} (hA : Aw g A s.heap (wM g σ) H locs) (hl : lv_has ls 3 [(0, .ref (g.2.1 0)), (1, .int x1), (2, .int x2)]) : W p l e rmX8_copper s m args below meth c H locs 0 0 (MQ below (Qi g A (wM g R.2) R.1) args s 0 0 A) (F0 m 69 ls [.ref (g.2.1 0)]) := by
  have hx := C.1.1
  have hb := C.1.2.1
  unfold f_X8_copper_69 at h
  refine lv_iconst (v := 1) hx hb dX8_copper_69 (by decide) ?_
  refine lv_goto (tgt := 74) hx hb dX8_copper_70 (by decide) ?_
  exact w_X8_copper_74 C h hA (lv_sub hl [0, 1, 2] rfl)
set_option maxHeartbeats 4000000 in
set_option maxRecDepth 100000 in
theorem w_X8_copper_43 {σ : SS} {x1 : Int32} {x2 : Int32} {y0 : Int32} (C : Cx p l s m args meth c cX8_copper 3 wsX8_copper (some .int) RX8 g A) (h : f_X8_copper_43 fu σ x1 x2 y0 = some R) {H : Heap} {locs : List Loc} {ls : Array Slot} (hA : Aw g A s.heap (wM g σ) H locs) (hl : lv_has ls 3 [(0, .ref (g.2.1 0)), (1, .int x1), (2, .int x2)]) : W p l e rmX8_copper s m args below meth c H locs 0 0 (MQ below (Qi g A (wM g R.2) R.1) args s 0 0 A) (F0 m 43 ls [.int y0, .ref (g.2.1 0)]) := by
  have hx := C.1.1
  have hb := C.1.2.1
  unfold f_X8_copper_43 at h
  refine lv_iconst (v := 2) hx hb dX8_copper_43 (by decide) ?_
  obtain ⟨r1, t3, hc2, h⟩ := bd h
  refine r_callVi (r := r1) (w1 := wM g t3) (As := [.int y0, .int (2 : Int32)]) (rest := []) C hA hl.1 (k_X8_bad C.2.2.2.2.2.2 hc2) (cwV 2 C.1.2.2.2.2 gX8_copper_X8_bad rfl rfl rfl nd_X8_bad ⟨Nat.le_of_ble_eq_true rfl, Nat.le_of_ble_eq_true rfl⟩) 0 rfl rfl rfl rfl (Nat.le_of_ble_eq_true rfl) dX8_copper_44 ⟨Nat.le_of_ble_eq_true rfl, Nat.le_of_ble_eq_true rfl⟩ (fun H locs hA => ?_)
  refine lv_if_ne (tgt := 81) hx hb dX8_copper_47 (by decide) (fun c4 => ?_) (fun c4 => ?_)
  · replace h := (if_neg c4).symm.trans h
    refine lv_iconst (v := 0) hx hb dX8_copper_81 (by decide) ?_
    obtain rfl := Option.some.inj h
    exact r_iret C hA dX8_copper_82
  · replace h := (if_pos c4).symm.trans h
    refine lv_aload_n hx hb dX8_copper_50 rfl (lv_at hl 0 rfl) ?_
    refine lv_aload_n hx hb dX8_copper_51 rfl (lv_at hl 0 rfl) ?_
    refine Mg_X8_isDead C hA iX8_copper_X8 (by decide +kernel) dX8_copper_52 ?_
    refine lv_iload_n hx hb dX8_copper_55 rfl (lv_at hl 1 rfl) ?_
    obtain ⟨g5, h⟩ := gd h
    refine Mld_3 (v := (t3.2.1 3 (x1).toNatClampNeg)) C hA rfl g5 dX8_copper_56 ?_
    refine lv_if_ne (tgt := 69) hx hb dX8_copper_57 (by decide) (fun c6 => ?_) (fun c6 => ?_)
    · replace h := (if_neg c6).symm.trans h
      exact w_X8_copper_69 C h hA (lv_sub hl [0, 1, 2] rfl)
    · replace h := (if_pos c6).symm.trans h
      refine lv_aload_n hx hb dX8_copper_60 rfl (lv_at hl 0 rfl) ?_
      refine Mg_X8_coppers (v := (t3.1 24)) C hA rfl iX8_copper_X8 (by decide +kernel) dX8_copper_61 ?_
      refine lv_bipush (v := 30) hx hb dX8_copper_64 (by decide) ?_
      refine lv_icmp_ne (tgt := 73) hx hb dX8_copper_66 (by decide) (fun c7 => ?_) (fun c7 => ?_)
      · replace h := (if_neg c7).symm.trans h
        refine lv_iconst (v := 0) hx hb dX8_copper_73 (by decide) ?_
        exact w_X8_copper_74 C h hA (lv_sub hl [0, 1, 2] rfl)
      · replace h := (if_pos c7).symm.trans h
        exact w_X8_copper_69 C h hA (lv_sub hl [0, 1, 2] rfl)
set_option maxHeartbeats 4000000 in
set_option maxRecDepth 100000 in
theorem w_X8_copper_38 {σ : SS} {x1 : Int32} {x2 : Int32} (C : Cx p l s m args meth c cX8_copper 3 wsX8_copper (some .int) RX8 g A) (h : f_X8_copper_38 fu σ x1 x2 = some R) {H : Heap} {locs : List Loc} {ls : Array Slot} (hA : Aw g A s.heap (wM g σ) H locs) (hl : lv_has ls 3 [(0, .ref (g.2.1 0)), (1, .int x1), (2, .int x2)]) : W p l e rmX8_copper s m args below meth c H locs 0 0 (MQ below (Qi g A (wM g R.2) R.1) args s 0 0 A) (F0 m 38 ls [.ref (g.2.1 0)]) := by
  have hx := C.1.1
  have hb := C.1.2.1
  unfold f_X8_copper_38 at h
  refine lv_iconst (v := 1) hx hb dX8_copper_38 (by decide) ?_
  refine lv_goto (tgt := 43) hx hb dX8_copper_39 (by decide) ?_
  exact w_X8_copper_43 C h hA (lv_sub hl [0, 1, 2] rfl)
set_option maxHeartbeats 4000000 in
set_option maxRecDepth 100000 in
theorem w_X8_copper_19 {σ : SS} {x1 : Int32} {x2 : Int32} {y0 : Int32} (C : Cx p l s m args meth c cX8_copper 3 wsX8_copper (some .int) RX8 g A) (h : f_X8_copper_19 fu σ x1 x2 y0 = some R) {H : Heap} {locs : List Loc} {ls : Array Slot} (hA : Aw g A s.heap (wM g σ) H locs) (hl : lv_has ls 3 [(0, .ref (g.2.1 0)), (1, .int x1), (2, .int x2)]) : W p l e rmX8_copper s m args below meth c H locs 0 0 (MQ below (Qi g A (wM g R.2) R.1) args s 0 0 A) (F0 m 19 ls [.int y0, .ref (g.2.1 0)]) := by
  have hx := C.1.1
  have hb := C.1.2.1
  unfold f_X8_copper_19 at h
  refine lv_iconst (v := 1) hx hb dX8_copper_19 (by decide) ?_
  obtain ⟨r1, t3, hc2, h⟩ := bd h
  refine r_callVi (r := r1) (w1 := wM g t3) (As := [.int y0, .int (1 : Int32)]) (rest := []) C hA hl.1 (k_X8_bad C.2.2.2.2.2.2 hc2) (cwV 2 C.1.2.2.2.2 gX8_copper_X8_bad rfl rfl rfl nd_X8_bad ⟨Nat.le_of_ble_eq_true rfl, Nat.le_of_ble_eq_true rfl⟩) 0 rfl rfl rfl rfl (Nat.le_of_ble_eq_true rfl) dX8_copper_20 ⟨Nat.le_of_ble_eq_true rfl, Nat.le_of_ble_eq_true rfl⟩ (fun H locs hA => ?_)
  refine lv_if_ne (tgt := 81) hx hb dX8_copper_23 (by decide) (fun c4 => ?_) (fun c4 => ?_)
  · replace h := (if_neg c4).symm.trans h
    refine lv_iconst (v := 0) hx hb dX8_copper_81 (by decide) ?_
    obtain rfl := Option.some.inj h
    exact r_iret C hA dX8_copper_82
  · replace h := (if_pos c4).symm.trans h
    refine lv_aload_n hx hb dX8_copper_26 rfl (lv_at hl 0 rfl) ?_
    refine lv_iload_n hx hb dX8_copper_27 rfl (lv_at hl 2 rfl) ?_
    refine lv_iconst (v := 1) hx hb dX8_copper_28 (by decide) ?_
    refine lv_icmp_lt (tgt := 38) hx hb dX8_copper_29 (by decide) (fun c5 => ?_) (fun c5 => ?_)
    · replace h := (if_pos c5).symm.trans h
      exact w_X8_copper_38 C h hA (lv_sub hl [0, 1, 2] rfl)
    · replace h := (if_neg c5).symm.trans h
      refine lv_iload_n hx hb dX8_copper_32 rfl (lv_at hl 2 rfl) ?_
      refine lv_ldc (v := 1000000) hx hb C.1.2.2.2.1 (C.1.2.2.2.2 (.constant RX8 77 (1000000)) (by decide +kernel)) dX8_copper_33 ?_
      refine lv_icmp_le (tgt := 42) hx hb dX8_copper_35 (by decide) (fun c6 => ?_) (fun c6 => ?_)
      · replace h := (if_pos c6).symm.trans h
        refine lv_iconst (v := 0) hx hb dX8_copper_42 (by decide) ?_
        exact w_X8_copper_43 C h hA (lv_sub hl [0, 1, 2] rfl)
      · replace h := (if_neg c6).symm.trans h
        exact w_X8_copper_38 C h hA (lv_sub hl [0, 1, 2] rfl)
set_option maxHeartbeats 4000000 in
set_option maxRecDepth 100000 in
theorem w_X8_copper_0 {σ : SS} {x1 : Int32} {x2 : Int32} (C : Cx p l s m args meth c cX8_copper 3 wsX8_copper (some .int) RX8 g A) (h : f_X8_copper fu σ x1 x2 = some R) {H : Heap} {locs : List Loc} {ls : Array Slot} (hA : Aw g A s.heap (wM g σ) H locs) (hl : lv_has ls 3 [(0, .ref (g.2.1 0)), (1, .int x1), (2, .int x2)]) : W p l e rmX8_copper s m args below meth c H locs 0 0 (MQ below (Qi g A (wM g R.2) R.1) args s 0 0 A) (F0 m 0 ls []) := by
  have hx := C.1.1
  have hb := C.1.2.1
  unfold f_X8_copper at h
  refine lv_aload_n hx hb dX8_copper_0 rfl (lv_at hl 0 rfl) ?_
  refine lv_iconst (v := 0) hx hb dX8_copper_1 (by decide) ?_
  refine Mp_X8_thrown C hA iX8_copper_X8 (by decide +kernel) dX8_copper_2 (fun H locs hA => ?_)
  refine lv_aload_n hx hb dX8_copper_5 rfl (lv_at hl 0 rfl) ?_
  refine lv_aload_n hx hb dX8_copper_6 rfl (lv_at hl 0 rfl) ?_
  refine lv_iload_n hx hb dX8_copper_7 rfl (lv_at hl 1 rfl) ?_
  obtain ⟨r1, hc2, h⟩ := bd1 h
  refine r_callVi (r := r1) (w1 := wM g (sI σ 0 (0 : Int32))) (As := [.int x1]) (rest := [.ref (g.2.1 0)]) C hA hl.1 (k_X8_isChief C.2.2.2.2.2.2 hc2) (cwV 1 C.1.2.2.2.2 gX8_copper_X8_isChief rfl rfl rfl nd_X8_isChief ⟨Nat.le_of_ble_eq_true rfl, Nat.le_of_ble_eq_true rfl⟩) 0 rfl rfl rfl rfl (Nat.le_of_ble_eq_true rfl) dX8_copper_8 ⟨Nat.le_of_ble_eq_true rfl, Nat.le_of_ble_eq_true rfl⟩ (fun H locs hA => ?_)
  refine lv_if_ne (tgt := 18) hx hb dX8_copper_11 (by decide) (fun c3 => ?_) (fun c3 => ?_)
  · replace h := (if_neg c3).symm.trans h
    refine lv_iconst (v := 0) hx hb dX8_copper_18 (by decide) ?_
    exact w_X8_copper_19 C h hA (lv_sub hl [0, 1, 2] rfl)
  · replace h := (if_pos c3).symm.trans h
    refine lv_iconst (v := 1) hx hb dX8_copper_14 (by decide) ?_
    refine lv_goto (tgt := 19) hx hb dX8_copper_15 (by decide) ?_
    exact w_X8_copper_19 C h hA (lv_sub hl [0, 1, 2] rfl)
end
set_option maxRecDepth 100000 in
theorem k_X8_copper {l : Launch} {g : Gm} {fu : Nat} {σ : SS} {x1 : Int32} {x2 : Int32} {R : Int32 × SS} (hlt : l.stackTraces = false) (h : f_X8_copper fu σ x1 x2 = some R) (sz : Nat) : Met l yX8_copper wsX8_copper rmX8_copper (Pw g (wM g σ) [.ref (g.2.1 0), .int x1, .int x2] sz) (Qi g (va_A (wM g σ) sz) (wM g R.2) R.1) 0 0 (va_A (wM g σ) sz) :=
  ofM (own := RX8) hlt (by decide) rfl rfl (Nat.le_of_ble_eq_true rfl) (fun p e s m below meth c hsz C hA ls hl => w_X8_copper_0 C h hA hl)
abbrev rmX8_isCopper : Room := { frames := 0, cells := 0, slots := 0, locals := 0 }
theorem iX8_isCopper_X8 : ∀ x ∈ wsX80, x ∈ wsX8_isCopper := by decide +kernel
theorem nd_X8_isCopper : yX8_isCopper.cls = RX8 ∧ yX8_isCopper.cls ≠ "java/lang/invoke/MethodHandle" ∧ yX8_isCopper.cls ≠ "java/lang/invoke/VarHandle" ∧ (parseMethodDescriptor yX8_isCopper.desc).map (fun d => d.parameters.length) = some 1 := by decide +kernel
def f_X8_isCopper (fu : Nat) (σ : SS) (x1 : Int32) : Option (Int32) :=
  (if x1 < 0 then some (0 : Int32) else (if (σ.1 24) ≤ x1 then some (0 : Int32) else some (1 : Int32)))
section
variable {p : Program} {l : Launch} {e : Env} {s : State} {m : MethodId} {args : Array Value} {below : List Frame} {meth : Method} {c : Code} {g : Gm} {A : Nat → Prop} {fu : Nat} {R : Int32}
set_option maxHeartbeats 4000000 in
set_option maxRecDepth 100000 in
theorem w_X8_isCopper_0 {σ : SS} {x1 : Int32} (C : Cx p l s m args meth c cX8_isCopper 2 wsX8_isCopper (some .boolean) RX8 g A) (h : f_X8_isCopper fu σ x1 = some R) {H : Heap} {locs : List Loc} {ls : Array Slot} (hA : Aw g A s.heap (wM g σ) H locs) (hl : lv_has ls 2 [(0, .ref (g.2.1 0)), (1, .int x1)]) : W p l e rmX8_isCopper s m args below meth c H locs 0 0 (MQ below (Qi g A (wM g σ) R) args s 0 0 A) (F0 m 0 ls []) := by
  have hx := C.1.1
  have hb := C.1.2.1
  unfold f_X8_isCopper at h
  refine lv_iload_n hx hb dX8_isCopper_0 rfl (lv_at hl 1 rfl) ?_
  refine lv_if_lt (tgt := 16) hx hb dX8_isCopper_1 (by decide) (fun c1 => ?_) (fun c1 => ?_)
  · replace h := (if_pos c1).symm.trans h
    refine lv_iconst (v := 0) hx hb dX8_isCopper_16 (by decide) ?_
    obtain rfl := Option.some.inj h
    exact r_zret (v := (0 : Int32)) C hA (zb (Or.inl rfl)) dX8_isCopper_17
  · replace h := (if_neg c1).symm.trans h
    refine lv_iload_n hx hb dX8_isCopper_4 rfl (lv_at hl 1 rfl) ?_
    refine lv_aload_n hx hb dX8_isCopper_5 rfl (lv_at hl 0 rfl) ?_
    refine Mg_X8_coppers (v := (σ.1 24)) C hA rfl iX8_isCopper_X8 (by decide +kernel) dX8_isCopper_6 ?_
    refine lv_icmp_ge (tgt := 16) hx hb dX8_isCopper_9 (by decide) (fun c2 => ?_) (fun c2 => ?_)
    · replace h := (if_pos c2).symm.trans h
      refine lv_iconst (v := 0) hx hb dX8_isCopper_16 (by decide) ?_
      obtain rfl := Option.some.inj h
      exact r_zret (v := (0 : Int32)) C hA (zb (Or.inl rfl)) dX8_isCopper_17
    · replace h := (if_neg c2).symm.trans h
      refine lv_iconst (v := 1) hx hb dX8_isCopper_12 (by decide) ?_
      refine lv_goto (tgt := 17) hx hb dX8_isCopper_13 (by decide) ?_
      obtain rfl := Option.some.inj h
      exact r_zret (v := (1 : Int32)) C hA (zb (Or.inr rfl)) dX8_isCopper_17
end
set_option maxRecDepth 100000 in
theorem k_X8_isCopper {l : Launch} {g : Gm} {fu : Nat} {σ : SS} {x1 : Int32} {R : Int32} (hlt : l.stackTraces = false) (h : f_X8_isCopper fu σ x1 = some R) (sz : Nat) : Met l yX8_isCopper wsX8_isCopper rmX8_isCopper (Pw g (wM g σ) [.ref (g.2.1 0), .int x1] sz) (Qi g (va_A (wM g σ) sz) (wM g σ) R) 0 0 (va_A (wM g σ) sz) :=
  ofM (own := RX8) hlt (by decide) rfl rfl (Nat.le_of_ble_eq_true rfl) (fun p e s m below meth c hsz C hA ls hl => w_X8_isCopper_0 C h hA hl)
abbrev rmX8_pass : Room := { frames := 4, cells := 0, slots := 0, locals := 105 }
theorem iX8_pass_X8 : ∀ x ∈ wsX80, x ∈ wsX8_pass := by decide +kernel
theorem nd_X8_pass : yX8_pass.cls = RX8 ∧ yX8_pass.cls ≠ "java/lang/invoke/MethodHandle" ∧ yX8_pass.cls ≠ "java/lang/invoke/VarHandle" ∧ (parseMethodDescriptor yX8_pass.desc).map (fun d => d.parameters.length) = some 2 := by decide +kernel
def f_X8_pass_120 (fu : Nat) (σ : SS) (x1 : Int32) (x2 : Int32) : Option (Int32 × SS) :=
  if inB x1 30 then bnd (f_X8_gives fu σ (σ.2.1 21 (x1).toNatClampNeg) x2 (σ.2.1 22 (x1).toNatClampNeg)) (fun r2 t4 => if inB x1 30 then some (r2, (sA t4 21 (x1).toNatClampNeg x2)) else none) else none
def f_X8_pass_50 (fu : Nat) (σ : SS) (x1 : Int32) (x2 : Int32) (y0 : Int32) : Option (Int32 × SS) :=
  bnd (f_X8_bad fu σ y0 (2 : Int32)) (fun r1 t3 => (if r1 = 0 then if inB x2 12 then bnd (f_X8_bad fu t3 (t3.2.1 3 (x2).toNatClampNeg) (3 : Int32)) (fun r6 t8 => (if r6 = 0 then if inB x1 30 then (if (t8.2.1 22 (x1).toNatClampNeg) = 0 then some ((-1), t8) else (if (t8.1 20) = (400 : Int32) then bnd1 (f_X8_madeOf fu t8 (t8.2.1 21 (x1).toNatClampNeg) x2 ((t8.2.1 22 (x1).toNatClampNeg)).toInt64) (fun r13 => (if (lg_cmp r13 (0 : Int64)) ≤ 0 then f_X8_pass_120 fu t8 x1 x2 else some ((-2), t8))) else f_X8_pass_120 fu t8 x1 x2)) else none else some ((0 : Int32), t8))) else none else some ((0 : Int32), t3)))
def f_X8_pass_27 (fu : Nat) (σ : SS) (x1 : Int32) (x2 : Int32) (y0 : Int32) : Option (Int32 × SS) :=
  bnd (f_X8_bad fu σ y0 (1 : Int32)) (fun r1 t3 => (if r1 = 0 then if inB x1 30 then (if (t3.2.1 21 (x1).toNatClampNeg) = x2 then f_X8_pass_50 fu t3 x1 x2 (1 : Int32) else f_X8_pass_50 fu t3 x1 x2 (0 : Int32)) else none else some ((0 : Int32), t3)))
def f_X8_pass_22 (fu : Nat) (σ : SS) (x1 : Int32) (x2 : Int32) : Option (Int32 × SS) :=
  f_X8_pass_27 fu σ x1 x2 (1 : Int32)
def f_X8_pass (fu : Nat) (σ : SS) (x1 : Int32) (x2 : Int32) : Option (Int32 × SS) :=
  bnd1 (f_X8_isCopper fu (sI σ 0 (0 : Int32)) x1) (fun r1 => (if r1 = 0 then f_X8_pass_22 fu (sI σ 0 (0 : Int32)) x1 x2 else bnd1 (f_X8_isChief fu (sI σ 0 (0 : Int32)) x2) (fun r4 => (if r4 = 0 then f_X8_pass_22 fu (sI σ 0 (0 : Int32)) x1 x2 else f_X8_pass_27 fu (sI σ 0 (0 : Int32)) x1 x2 (0 : Int32)))))
section
variable {p : Program} {l : Launch} {e : Env} {s : State} {m : MethodId} {args : Array Value} {below : List Frame} {meth : Method} {c : Code} {g : Gm} {A : Nat → Prop} {fu : Nat} {R : Int32 × SS}
set_option maxHeartbeats 4000000 in
set_option maxRecDepth 100000 in
theorem w_X8_pass_120 {σ : SS} {x1 : Int32} {x2 : Int32} (C : Cx p l s m args meth c cX8_pass 4 wsX8_pass (some .int) RX8 g A) (h : f_X8_pass_120 fu σ x1 x2 = some R) {H : Heap} {locs : List Loc} {ls : Array Slot} (hA : Aw g A s.heap (wM g σ) H locs) (hl : lv_has ls 4 [(0, .ref (g.2.1 0)), (1, .int x1), (2, .int x2)]) : W p l e rmX8_pass s m args below meth c H locs 0 0 (MQ below (Qi g A (wM g R.2) R.1) args s 0 0 A) (F0 m 120 ls []) := by
  have hx := C.1.1
  have hb := C.1.2.1
  unfold f_X8_pass_120 at h
  refine lv_aload_n hx hb dX8_pass_120 rfl (lv_at hl 0 rfl) ?_
  refine lv_aload_n hx hb dX8_pass_121 rfl (lv_at hl 0 rfl) ?_
  refine Mg_X8_owner C hA iX8_pass_X8 (by decide +kernel) dX8_pass_122 ?_
  refine lv_iload_n hx hb dX8_pass_125 rfl (lv_at hl 1 rfl) ?_
  obtain ⟨g1, h⟩ := gd h
  refine Mld_21 (v := (σ.2.1 21 (x1).toNatClampNeg)) C hA rfl g1 dX8_pass_126 ?_
  refine lv_iload_n hx hb dX8_pass_127 rfl (lv_at hl 2 rfl) ?_
  refine lv_aload_n hx hb dX8_pass_128 rfl (lv_at hl 0 rfl) ?_
  refine Mg_X8_worth C hA iX8_pass_X8 (by decide +kernel) dX8_pass_129 ?_
  refine lv_iload_n hx hb dX8_pass_132 rfl (lv_at hl 1 rfl) ?_
  refine Mld_22 (v := (σ.2.1 22 (x1).toNatClampNeg)) C hA rfl g1 dX8_pass_133 ?_
  obtain ⟨r2, t4, hc3, h⟩ := bd h
  refine r_callVi (r := r2) (w1 := wM g t4) (As := [.int (σ.2.1 21 (x1).toNatClampNeg), .int x2, .int (σ.2.1 22 (x1).toNatClampNeg)]) (rest := []) C hA hl.1 (k_X8_gives C.2.2.2.2.2.2 hc3) (cwV 3 C.1.2.2.2.2 gX8_pass_X8_gives rfl rfl rfl nd_X8_gives ⟨Nat.le_of_ble_eq_true rfl, Nat.le_of_ble_eq_true rfl⟩) 0 rfl rfl rfl rfl (Nat.le_of_ble_eq_true rfl) dX8_pass_134 ⟨Nat.le_of_ble_eq_true rfl, Nat.le_of_ble_eq_true rfl⟩ (fun H locs hA => ?_)
  refine lv_istore_n (lv' := [(3, .int r2), (0, .ref (g.2.1 0)), (1, .int x1), (2, .int x2)]) hx hb dX8_pass_137 rfl hl (by decide) rfl (fun ls hl => ?_)
  refine lv_aload_n hx hb dX8_pass_138 rfl (lv_at hl 1 rfl) ?_
  refine Mg_X8_owner C hA iX8_pass_X8 (by decide +kernel) dX8_pass_139 ?_
  refine lv_iload_n hx hb dX8_pass_142 rfl (lv_at hl 2 rfl) ?_
  refine lv_iload_n hx hb dX8_pass_143 rfl (lv_at hl 3 rfl) ?_
  obtain ⟨g5, h⟩ := gd h
  refine Mst_21 C hA g5 dX8_pass_144 (fun H locs hA => ?_)
  refine lv_iload_n hx hb dX8_pass_145 rfl (lv_at hl 0 rfl) ?_
  obtain rfl := Option.some.inj h
  exact r_iret C hA dX8_pass_146
set_option maxHeartbeats 4000000 in
set_option maxRecDepth 100000 in
theorem w_X8_pass_50 {σ : SS} {x1 : Int32} {x2 : Int32} {y0 : Int32} (C : Cx p l s m args meth c cX8_pass 4 wsX8_pass (some .int) RX8 g A) (h : f_X8_pass_50 fu σ x1 x2 y0 = some R) {H : Heap} {locs : List Loc} {ls : Array Slot} (hA : Aw g A s.heap (wM g σ) H locs) (hl : lv_has ls 4 [(0, .ref (g.2.1 0)), (1, .int x1), (2, .int x2)]) : W p l e rmX8_pass s m args below meth c H locs 0 0 (MQ below (Qi g A (wM g R.2) R.1) args s 0 0 A) (F0 m 50 ls [.int y0, .ref (g.2.1 0)]) := by
  have hx := C.1.1
  have hb := C.1.2.1
  unfold f_X8_pass_50 at h
  refine lv_iconst (v := 2) hx hb dX8_pass_50 (by decide) ?_
  obtain ⟨r1, t3, hc2, h⟩ := bd h
  refine r_callVi (r := r1) (w1 := wM g t3) (As := [.int y0, .int (2 : Int32)]) (rest := []) C hA hl.1 (k_X8_bad C.2.2.2.2.2.2 hc2) (cwV 2 C.1.2.2.2.2 gX8_pass_X8_bad rfl rfl rfl nd_X8_bad ⟨Nat.le_of_ble_eq_true rfl, Nat.le_of_ble_eq_true rfl⟩) 0 rfl rfl rfl rfl (Nat.le_of_ble_eq_true rfl) dX8_pass_51 ⟨Nat.le_of_ble_eq_true rfl, Nat.le_of_ble_eq_true rfl⟩ (fun H locs hA => ?_)
  refine lv_if_ne (tgt := 71) hx hb dX8_pass_54 (by decide) (fun c4 => ?_) (fun c4 => ?_)
  · replace h := (if_neg c4).symm.trans h
    refine lv_iconst (v := 0) hx hb dX8_pass_71 (by decide) ?_
    obtain rfl := Option.some.inj h
    exact r_iret C hA dX8_pass_72
  · replace h := (if_pos c4).symm.trans h
    refine lv_aload_n hx hb dX8_pass_57 rfl (lv_at hl 0 rfl) ?_
    refine lv_aload_n hx hb dX8_pass_58 rfl (lv_at hl 0 rfl) ?_
    refine Mg_X8_isDead C hA iX8_pass_X8 (by decide +kernel) dX8_pass_59 ?_
    refine lv_iload_n hx hb dX8_pass_62 rfl (lv_at hl 2 rfl) ?_
    obtain ⟨g5, h⟩ := gd h
    refine Mld_3 (v := (t3.2.1 3 (x2).toNatClampNeg)) C hA rfl g5 dX8_pass_63 ?_
    refine lv_iconst (v := 3) hx hb dX8_pass_64 (by decide) ?_
    obtain ⟨r6, t8, hc7, h⟩ := bd h
    refine r_callVi (r := r6) (w1 := wM g t8) (As := [.int (t3.2.1 3 (x2).toNatClampNeg), .int (3 : Int32)]) (rest := []) C hA hl.1 (k_X8_bad C.2.2.2.2.2.2 hc7) (cwV 2 C.1.2.2.2.2 gX8_pass_X8_bad rfl rfl rfl nd_X8_bad ⟨Nat.le_of_ble_eq_true rfl, Nat.le_of_ble_eq_true rfl⟩) 0 rfl rfl rfl rfl (Nat.le_of_ble_eq_true rfl) dX8_pass_65 ⟨Nat.le_of_ble_eq_true rfl, Nat.le_of_ble_eq_true rfl⟩ (fun H locs hA => ?_)
    refine lv_if_eq (tgt := 73) hx hb dX8_pass_68 (by decide) (fun c9 => ?_) (fun c9 => ?_)
    · replace h := (if_pos c9).symm.trans h
      refine lv_aload_n hx hb dX8_pass_73 rfl (lv_at hl 0 rfl) ?_
      refine Mg_X8_worth C hA iX8_pass_X8 (by decide +kernel) dX8_pass_74 ?_
      refine lv_iload_n hx hb dX8_pass_77 rfl (lv_at hl 1 rfl) ?_
      obtain ⟨g10, h⟩ := gd h
      refine Mld_22 (v := (t8.2.1 22 (x1).toNatClampNeg)) C hA rfl g10 dX8_pass_78 ?_
      refine lv_if_ne (tgt := 84) hx hb dX8_pass_79 (by decide) (fun c11 => ?_) (fun c11 => ?_)
      · replace h := (if_neg c11).symm.trans h
        refine lv_aload_n hx hb dX8_pass_84 rfl (lv_at hl 0 rfl) ?_
        refine Mg_X8_debts (v := (t8.1 20)) C hA rfl iX8_pass_X8 (by decide +kernel) dX8_pass_85 ?_
        refine lv_sipush (v := 400) hx hb dX8_pass_88 (by decide) ?_
        refine lv_icmp_ne (tgt := 120) hx hb dX8_pass_91 (by decide) (fun c12 => ?_) (fun c12 => ?_)
        · replace h := (if_neg c12).symm.trans h
          exact w_X8_pass_120 C h hA (lv_sub hl [0, 1, 2] rfl)
        · replace h := (if_pos c12).symm.trans h
          refine lv_aload_n hx hb dX8_pass_94 rfl (lv_at hl 0 rfl) ?_
          refine lv_aload_n hx hb dX8_pass_95 rfl (lv_at hl 0 rfl) ?_
          refine Mg_X8_owner C hA iX8_pass_X8 (by decide +kernel) dX8_pass_96 ?_
          refine lv_iload_n hx hb dX8_pass_99 rfl (lv_at hl 1 rfl) ?_
          refine Mld_21 (v := (t8.2.1 21 (x1).toNatClampNeg)) C hA rfl g10 dX8_pass_100 ?_
          refine lv_iload_n hx hb dX8_pass_101 rfl (lv_at hl 2 rfl) ?_
          refine lv_aload_n hx hb dX8_pass_102 rfl (lv_at hl 0 rfl) ?_
          refine Mg_X8_worth C hA iX8_pass_X8 (by decide +kernel) dX8_pass_103 ?_
          refine lv_iload_n hx hb dX8_pass_106 rfl (lv_at hl 1 rfl) ?_
          refine Mld_22 (v := (t8.2.1 22 (x1).toNatClampNeg)) C hA rfl g10 dX8_pass_107 ?_
          refine lv_i2l hx hb dX8_pass_108 rfl ?_
          obtain ⟨r13, hc14, h⟩ := bd1 h
          refine r_callVl (r := r13) (w1 := wM g t8) (As := [.int (t8.2.1 21 (x1).toNatClampNeg), .int x2, .long ((t8.2.1 22 (x1).toNatClampNeg)).toInt64]) (rest := []) C hA hl.1 (k_X8_madeOf C.2.2.2.2.2.2 hc14) (cwV 3 C.1.2.2.2.2 gX8_pass_X8_madeOf rfl rfl rfl nd_X8_madeOf ⟨Nat.le_of_ble_eq_true rfl, Nat.le_of_ble_eq_true rfl⟩) 0 rfl rfl rfl rfl (Nat.le_of_ble_eq_true rfl) dX8_pass_109 ⟨Nat.le_of_ble_eq_true rfl, Nat.le_of_ble_eq_true rfl⟩ (fun H locs hA => ?_)
          refine lv_lconst (v := 0) hx hb dX8_pass_112 (by decide) ?_
          refine W.lcmp hx hb dX8_pass_113 ?_
          refine lv_if_le (tgt := 120) hx hb dX8_pass_114 (by decide) (fun c15 => ?_) (fun c15 => ?_)
          · replace h := (if_pos c15).symm.trans h
            exact w_X8_pass_120 C h hA (lv_sub hl [0, 1, 2] rfl)
          · replace h := (if_neg c15).symm.trans h
            refine lv_bipush (v := (-2)) hx hb dX8_pass_117 (by decide) ?_
            obtain rfl := Option.some.inj h
            exact r_iret C hA dX8_pass_119
      · replace h := (if_pos c11).symm.trans h
        refine lv_iconst (v := (-1)) hx hb dX8_pass_82 (by decide) ?_
        obtain rfl := Option.some.inj h
        exact r_iret C hA dX8_pass_83
    · replace h := (if_neg c9).symm.trans h
      refine lv_iconst (v := 0) hx hb dX8_pass_71 (by decide) ?_
      obtain rfl := Option.some.inj h
      exact r_iret C hA dX8_pass_72
set_option maxHeartbeats 4000000 in
set_option maxRecDepth 100000 in
theorem w_X8_pass_27 {σ : SS} {x1 : Int32} {x2 : Int32} {y0 : Int32} (C : Cx p l s m args meth c cX8_pass 4 wsX8_pass (some .int) RX8 g A) (h : f_X8_pass_27 fu σ x1 x2 y0 = some R) {H : Heap} {locs : List Loc} {ls : Array Slot} (hA : Aw g A s.heap (wM g σ) H locs) (hl : lv_has ls 4 [(0, .ref (g.2.1 0)), (1, .int x1), (2, .int x2)]) : W p l e rmX8_pass s m args below meth c H locs 0 0 (MQ below (Qi g A (wM g R.2) R.1) args s 0 0 A) (F0 m 27 ls [.int y0, .ref (g.2.1 0)]) := by
  have hx := C.1.1
  have hb := C.1.2.1
  unfold f_X8_pass_27 at h
  refine lv_iconst (v := 1) hx hb dX8_pass_27 (by decide) ?_
  obtain ⟨r1, t3, hc2, h⟩ := bd h
  refine r_callVi (r := r1) (w1 := wM g t3) (As := [.int y0, .int (1 : Int32)]) (rest := []) C hA hl.1 (k_X8_bad C.2.2.2.2.2.2 hc2) (cwV 2 C.1.2.2.2.2 gX8_pass_X8_bad rfl rfl rfl nd_X8_bad ⟨Nat.le_of_ble_eq_true rfl, Nat.le_of_ble_eq_true rfl⟩) 0 rfl rfl rfl rfl (Nat.le_of_ble_eq_true rfl) dX8_pass_28 ⟨Nat.le_of_ble_eq_true rfl, Nat.le_of_ble_eq_true rfl⟩ (fun H locs hA => ?_)
  refine lv_if_ne (tgt := 71) hx hb dX8_pass_31 (by decide) (fun c4 => ?_) (fun c4 => ?_)
  · replace h := (if_neg c4).symm.trans h
    refine lv_iconst (v := 0) hx hb dX8_pass_71 (by decide) ?_
    obtain rfl := Option.some.inj h
    exact r_iret C hA dX8_pass_72
  · replace h := (if_pos c4).symm.trans h
    refine lv_aload_n hx hb dX8_pass_34 rfl (lv_at hl 0 rfl) ?_
    refine lv_aload_n hx hb dX8_pass_35 rfl (lv_at hl 0 rfl) ?_
    refine Mg_X8_owner C hA iX8_pass_X8 (by decide +kernel) dX8_pass_36 ?_
    refine lv_iload_n hx hb dX8_pass_39 rfl (lv_at hl 1 rfl) ?_
    obtain ⟨g5, h⟩ := gd h
    refine Mld_21 (v := (t3.2.1 21 (x1).toNatClampNeg)) C hA rfl g5 dX8_pass_40 ?_
    refine lv_iload_n hx hb dX8_pass_41 rfl (lv_at hl 2 rfl) ?_
    refine lv_icmp_ne (tgt := 49) hx hb dX8_pass_42 (by decide) (fun c6 => ?_) (fun c6 => ?_)
    · replace h := (if_neg c6).symm.trans h
      refine lv_iconst (v := 0) hx hb dX8_pass_49 (by decide) ?_
      exact w_X8_pass_50 C h hA (lv_sub hl [0, 1, 2] rfl)
    · replace h := (if_pos c6).symm.trans h
      refine lv_iconst (v := 1) hx hb dX8_pass_45 (by decide) ?_
      refine lv_goto (tgt := 50) hx hb dX8_pass_46 (by decide) ?_
      exact w_X8_pass_50 C h hA (lv_sub hl [0, 1, 2] rfl)
set_option maxHeartbeats 4000000 in
set_option maxRecDepth 100000 in
theorem w_X8_pass_22 {σ : SS} {x1 : Int32} {x2 : Int32} (C : Cx p l s m args meth c cX8_pass 4 wsX8_pass (some .int) RX8 g A) (h : f_X8_pass_22 fu σ x1 x2 = some R) {H : Heap} {locs : List Loc} {ls : Array Slot} (hA : Aw g A s.heap (wM g σ) H locs) (hl : lv_has ls 4 [(0, .ref (g.2.1 0)), (1, .int x1), (2, .int x2)]) : W p l e rmX8_pass s m args below meth c H locs 0 0 (MQ below (Qi g A (wM g R.2) R.1) args s 0 0 A) (F0 m 22 ls [.ref (g.2.1 0)]) := by
  have hx := C.1.1
  have hb := C.1.2.1
  unfold f_X8_pass_22 at h
  refine lv_iconst (v := 1) hx hb dX8_pass_22 (by decide) ?_
  refine lv_goto (tgt := 27) hx hb dX8_pass_23 (by decide) ?_
  exact w_X8_pass_27 C h hA (lv_sub hl [0, 1, 2] rfl)
set_option maxHeartbeats 4000000 in
set_option maxRecDepth 100000 in
theorem w_X8_pass_0 {σ : SS} {x1 : Int32} {x2 : Int32} (C : Cx p l s m args meth c cX8_pass 4 wsX8_pass (some .int) RX8 g A) (h : f_X8_pass fu σ x1 x2 = some R) {H : Heap} {locs : List Loc} {ls : Array Slot} (hA : Aw g A s.heap (wM g σ) H locs) (hl : lv_has ls 4 [(0, .ref (g.2.1 0)), (1, .int x1), (2, .int x2)]) : W p l e rmX8_pass s m args below meth c H locs 0 0 (MQ below (Qi g A (wM g R.2) R.1) args s 0 0 A) (F0 m 0 ls []) := by
  have hx := C.1.1
  have hb := C.1.2.1
  unfold f_X8_pass at h
  refine lv_aload_n hx hb dX8_pass_0 rfl (lv_at hl 0 rfl) ?_
  refine lv_iconst (v := 0) hx hb dX8_pass_1 (by decide) ?_
  refine Mp_X8_thrown C hA iX8_pass_X8 (by decide +kernel) dX8_pass_2 (fun H locs hA => ?_)
  refine lv_aload_n hx hb dX8_pass_5 rfl (lv_at hl 0 rfl) ?_
  refine lv_aload_n hx hb dX8_pass_6 rfl (lv_at hl 0 rfl) ?_
  refine lv_iload_n hx hb dX8_pass_7 rfl (lv_at hl 1 rfl) ?_
  obtain ⟨r1, hc2, h⟩ := bd1 h
  refine r_callVi (r := r1) (w1 := wM g (sI σ 0 (0 : Int32))) (As := [.int x1]) (rest := [.ref (g.2.1 0)]) C hA hl.1 (k_X8_isCopper C.2.2.2.2.2.2 hc2) (cwV 1 C.1.2.2.2.2 gX8_pass_X8_isCopper rfl rfl rfl nd_X8_isCopper ⟨Nat.le_of_ble_eq_true rfl, Nat.le_of_ble_eq_true rfl⟩) 0 rfl rfl rfl rfl (Nat.le_of_ble_eq_true rfl) dX8_pass_8 ⟨Nat.le_of_ble_eq_true rfl, Nat.le_of_ble_eq_true rfl⟩ (fun H locs hA => ?_)
  refine lv_if_eq (tgt := 22) hx hb dX8_pass_11 (by decide) (fun c3 => ?_) (fun c3 => ?_)
  · replace h := (if_pos c3).symm.trans h
    exact w_X8_pass_22 C h hA (lv_sub hl [0, 1, 2] rfl)
  · replace h := (if_neg c3).symm.trans h
    refine lv_aload_n hx hb dX8_pass_14 rfl (lv_at hl 0 rfl) ?_
    refine lv_iload_n hx hb dX8_pass_15 rfl (lv_at hl 2 rfl) ?_
    obtain ⟨r4, hc5, h⟩ := bd1 h
    refine r_callVi (r := r4) (w1 := wM g (sI σ 0 (0 : Int32))) (As := [.int x2]) (rest := [.ref (g.2.1 0)]) C hA hl.1 (k_X8_isChief C.2.2.2.2.2.2 hc5) (cwV 1 C.1.2.2.2.2 gX8_pass_X8_isChief rfl rfl rfl nd_X8_isChief ⟨Nat.le_of_ble_eq_true rfl, Nat.le_of_ble_eq_true rfl⟩) 0 rfl rfl rfl rfl (Nat.le_of_ble_eq_true rfl) dX8_pass_16 ⟨Nat.le_of_ble_eq_true rfl, Nat.le_of_ble_eq_true rfl⟩ (fun H locs hA => ?_)
    refine lv_if_ne (tgt := 26) hx hb dX8_pass_19 (by decide) (fun c6 => ?_) (fun c6 => ?_)
    · replace h := (if_neg c6).symm.trans h
      refine lv_iconst (v := 0) hx hb dX8_pass_26 (by decide) ?_
      exact w_X8_pass_27 C h hA (lv_sub hl [0, 1, 2] rfl)
    · replace h := (if_pos c6).symm.trans h
      exact w_X8_pass_22 C h hA (lv_sub hl [0, 1, 2] rfl)
end
set_option maxRecDepth 100000 in
theorem k_X8_pass {l : Launch} {g : Gm} {fu : Nat} {σ : SS} {x1 : Int32} {x2 : Int32} {R : Int32 × SS} (hlt : l.stackTraces = false) (h : f_X8_pass fu σ x1 x2 = some R) (sz : Nat) : Met l yX8_pass wsX8_pass rmX8_pass (Pw g (wM g σ) [.ref (g.2.1 0), .int x1, .int x2] sz) (Qi g (va_A (wM g σ) sz) (wM g R.2) R.1) 0 0 (va_A (wM g σ) sz) :=
  ofM (own := RX8) hlt (by decide) rfl rfl (Nat.le_of_ble_eq_true rfl) (fun p e s m below meth c hsz C hA ls hl => w_X8_pass_0 C h hA hl)
abbrev rmX8_breaks : Room := { frames := 1, cells := 0, slots := 0, locals := 22 }
theorem iX8_breaks_X8 : ∀ x ∈ wsX80, x ∈ wsX8_breaks := by decide +kernel
theorem nd_X8_breaks : yX8_breaks.cls = RX8 ∧ yX8_breaks.cls ≠ "java/lang/invoke/MethodHandle" ∧ yX8_breaks.cls ≠ "java/lang/invoke/VarHandle" ∧ (parseMethodDescriptor yX8_breaks.desc).map (fun d => d.parameters.length) = some 1 := by decide +kernel
def f_X8_breaks_92 (fu : Nat) (σ : SS) (x1 : Int32) (y0 : Int32) (y1 : Int32) : Option (Int32 × SS) :=
  if inB y1 30 then if inB x1 30 then some (((sA σ 22 (y1).toNatClampNeg y0).2.1 22 (x1).toNatClampNeg), (sA σ 22 (y1).toNatClampNeg y0)) else none else none
def f_X8_breaks_64 (fu : Nat) (σ : SS) (x1 : Int32) (y0 : Int32) : Option (Int32 × SS) :=
  if inB x1 30 then (if y0 ≤ (σ.2.1 22 (x1).toNatClampNeg) then f_X8_breaks_92 fu σ x1 ((σ.2.1 22 (x1).toNatClampNeg) - y0) x1 else f_X8_breaks_92 fu σ x1 (0 : Int32) x1) else none
def f_X8_breaks_19 (fu : Nat) (σ : SS) (x1 : Int32) (y0 : Int32) : Option (Int32 × SS) :=
  bnd (f_X8_bad fu σ y0 (1 : Int32)) (fun r1 t3 => (if r1 = 0 then if inB x1 30 then (if (t3.2.1 22 (x1).toNatClampNeg) = 0 then some ((-1), t3) else (if ((t3.2.1 23 (x1).toNatClampNeg) / (8 : Int32)) = 0 then f_X8_breaks_64 fu t3 x1 (1 : Int32) else f_X8_breaks_64 fu t3 x1 ((t3.2.1 23 (x1).toNatClampNeg) / (8 : Int32)))) else none else some ((0 : Int32), t3)))
def f_X8_breaks (fu : Nat) (σ : SS) (x1 : Int32) : Option (Int32 × SS) :=
  bnd1 (f_X8_isCopper fu (sI σ 0 (0 : Int32)) x1) (fun r1 => (if r1 = 0 then f_X8_breaks_19 fu (sI σ 0 (0 : Int32)) x1 (1 : Int32) else f_X8_breaks_19 fu (sI σ 0 (0 : Int32)) x1 (0 : Int32)))
section
variable {p : Program} {l : Launch} {e : Env} {s : State} {m : MethodId} {args : Array Value} {below : List Frame} {meth : Method} {c : Code} {g : Gm} {A : Nat → Prop} {fu : Nat} {R : Int32 × SS}
set_option maxHeartbeats 4000000 in
set_option maxRecDepth 100000 in
theorem w_X8_breaks_92 {σ : SS} {x1 : Int32} {y0 : Int32} {y1 : Int32} (C : Cx p l s m args meth c cX8_breaks 3 wsX8_breaks (some .int) RX8 g A) (h : f_X8_breaks_92 fu σ x1 y0 y1 = some R) {H : Heap} {locs : List Loc} {ls : Array Slot} (hA : Aw g A s.heap (wM g σ) H locs) (hl : lv_has ls 3 [(0, .ref (g.2.1 0)), (1, .int x1)]) : W p l e rmX8_breaks s m args below meth c H locs 0 0 (MQ below (Qi g A (wM g R.2) R.1) args s 0 0 A) (F0 m 92 ls [.int y0, .int y1, .ref (g.2.1 22)]) := by
  have hx := C.1.1
  have hb := C.1.2.1
  unfold f_X8_breaks_92 at h
  obtain ⟨g1, h⟩ := gd h
  refine Mst_22 C hA g1 dX8_breaks_92 (fun H locs hA => ?_)
  refine lv_aload_n hx hb dX8_breaks_93 rfl (lv_at hl 0 rfl) ?_
  refine Mg_X8_worth C hA iX8_breaks_X8 (by decide +kernel) dX8_breaks_94 ?_
  refine lv_iload_n hx hb dX8_breaks_97 rfl (lv_at hl 1 rfl) ?_
  obtain ⟨g2, h⟩ := gd h
  refine Mld_22 (v := ((sA σ 22 (y1).toNatClampNeg y0).2.1 22 (x1).toNatClampNeg)) C hA rfl g2 dX8_breaks_98 ?_
  obtain rfl := Option.some.inj h
  exact r_iret C hA dX8_breaks_99
set_option maxHeartbeats 4000000 in
set_option maxRecDepth 100000 in
theorem w_X8_breaks_64 {σ : SS} {x1 : Int32} {y0 : Int32} (C : Cx p l s m args meth c cX8_breaks 3 wsX8_breaks (some .int) RX8 g A) (h : f_X8_breaks_64 fu σ x1 y0 = some R) {H : Heap} {locs : List Loc} {ls : Array Slot} (hA : Aw g A s.heap (wM g σ) H locs) (hl : lv_has ls 3 [(0, .ref (g.2.1 0)), (1, .int x1)]) : W p l e rmX8_breaks s m args below meth c H locs 0 0 (MQ below (Qi g A (wM g R.2) R.1) args s 0 0 A) (F0 m 64 ls [.int y0]) := by
  have hx := C.1.1
  have hb := C.1.2.1
  unfold f_X8_breaks_64 at h
  refine lv_istore_n (lv' := [(2, .int y0), (0, .ref (g.2.1 0)), (1, .int x1)]) hx hb dX8_breaks_64 rfl hl (by decide) rfl (fun ls hl => ?_)
  refine lv_aload_n hx hb dX8_breaks_65 rfl (lv_at hl 1 rfl) ?_
  refine Mg_X8_worth C hA iX8_breaks_X8 (by decide +kernel) dX8_breaks_66 ?_
  refine lv_iload_n hx hb dX8_breaks_69 rfl (lv_at hl 2 rfl) ?_
  refine lv_aload_n hx hb dX8_breaks_70 rfl (lv_at hl 1 rfl) ?_
  refine Mg_X8_worth C hA iX8_breaks_X8 (by decide +kernel) dX8_breaks_71 ?_
  refine lv_iload_n hx hb dX8_breaks_74 rfl (lv_at hl 2 rfl) ?_
  obtain ⟨g1, h⟩ := gd h
  refine Mld_22 (v := (σ.2.1 22 (x1).toNatClampNeg)) C hA rfl g1 dX8_breaks_75 ?_
  refine lv_iload_n hx hb dX8_breaks_76 rfl (lv_at hl 0 rfl) ?_
  refine lv_icmp_ge (tgt := 84) hx hb dX8_breaks_77 (by decide) (fun c2 => ?_) (fun c2 => ?_)
  · replace h := (if_pos c2).symm.trans h
    refine lv_aload_n hx hb dX8_breaks_84 rfl (lv_at hl 1 rfl) ?_
    refine Mg_X8_worth C hA iX8_breaks_X8 (by decide +kernel) dX8_breaks_85 ?_
    refine lv_iload_n hx hb dX8_breaks_88 rfl (lv_at hl 2 rfl) ?_
    refine Mld_22 (v := (σ.2.1 22 (x1).toNatClampNeg)) C hA rfl g1 dX8_breaks_89 ?_
    refine lv_iload_n hx hb dX8_breaks_90 rfl (lv_at hl 0 rfl) ?_
    refine lv_isub hx hb dX8_breaks_91 ?_
    exact w_X8_breaks_92 C h hA (lv_sub hl [1, 2] rfl)
  · replace h := (if_neg c2).symm.trans h
    refine lv_iconst (v := 0) hx hb dX8_breaks_80 (by decide) ?_
    refine lv_goto (tgt := 92) hx hb dX8_breaks_81 (by decide) ?_
    exact w_X8_breaks_92 C h hA (lv_sub hl [1, 2] rfl)
set_option maxHeartbeats 4000000 in
set_option maxRecDepth 100000 in
theorem w_X8_breaks_19 {σ : SS} {x1 : Int32} {y0 : Int32} (C : Cx p l s m args meth c cX8_breaks 3 wsX8_breaks (some .int) RX8 g A) (h : f_X8_breaks_19 fu σ x1 y0 = some R) {H : Heap} {locs : List Loc} {ls : Array Slot} (hA : Aw g A s.heap (wM g σ) H locs) (hl : lv_has ls 3 [(0, .ref (g.2.1 0)), (1, .int x1)]) : W p l e rmX8_breaks s m args below meth c H locs 0 0 (MQ below (Qi g A (wM g R.2) R.1) args s 0 0 A) (F0 m 19 ls [.int y0, .ref (g.2.1 0)]) := by
  have hx := C.1.1
  have hb := C.1.2.1
  unfold f_X8_breaks_19 at h
  refine lv_iconst (v := 1) hx hb dX8_breaks_19 (by decide) ?_
  obtain ⟨r1, t3, hc2, h⟩ := bd h
  refine r_callVi (r := r1) (w1 := wM g t3) (As := [.int y0, .int (1 : Int32)]) (rest := []) C hA hl.1 (k_X8_bad C.2.2.2.2.2.2 hc2) (cwV 2 C.1.2.2.2.2 gX8_breaks_X8_bad rfl rfl rfl nd_X8_bad ⟨Nat.le_of_ble_eq_true rfl, Nat.le_of_ble_eq_true rfl⟩) 0 rfl rfl rfl rfl (Nat.le_of_ble_eq_true rfl) dX8_breaks_20 ⟨Nat.le_of_ble_eq_true rfl, Nat.le_of_ble_eq_true rfl⟩ (fun H locs hA => ?_)
  refine lv_if_eq (tgt := 28) hx hb dX8_breaks_23 (by decide) (fun c4 => ?_) (fun c4 => ?_)
  · replace h := (if_pos c4).symm.trans h
    refine lv_aload_n hx hb dX8_breaks_28 rfl (lv_at hl 0 rfl) ?_
    refine Mg_X8_worth C hA iX8_breaks_X8 (by decide +kernel) dX8_breaks_29 ?_
    refine lv_iload_n hx hb dX8_breaks_32 rfl (lv_at hl 1 rfl) ?_
    obtain ⟨g5, h⟩ := gd h
    refine Mld_22 (v := (t3.2.1 22 (x1).toNatClampNeg)) C hA rfl g5 dX8_breaks_33 ?_
    refine lv_if_ne (tgt := 39) hx hb dX8_breaks_34 (by decide) (fun c6 => ?_) (fun c6 => ?_)
    · replace h := (if_neg c6).symm.trans h
      refine lv_aload_n hx hb dX8_breaks_39 rfl (lv_at hl 0 rfl) ?_
      refine Mg_X8_first C hA iX8_breaks_X8 (by decide +kernel) dX8_breaks_40 ?_
      refine lv_iload_n hx hb dX8_breaks_43 rfl (lv_at hl 1 rfl) ?_
      refine Mld_23 (v := (t3.2.1 23 (x1).toNatClampNeg)) C hA rfl g5 dX8_breaks_44 ?_
      refine lv_bipush (v := 8) hx hb dX8_breaks_45 (by decide) ?_
      refine lv_idiv hx hb dX8_breaks_47 (by decide) ?_
      refine lv_if_ne (tgt := 55) hx hb dX8_breaks_48 (by decide) (fun c7 => ?_) (fun c7 => ?_)
      · replace h := (if_neg c7).symm.trans h
        refine lv_aload_n hx hb dX8_breaks_55 rfl (lv_at hl 0 rfl) ?_
        refine Mg_X8_first C hA iX8_breaks_X8 (by decide +kernel) dX8_breaks_56 ?_
        refine lv_iload_n hx hb dX8_breaks_59 rfl (lv_at hl 1 rfl) ?_
        refine Mld_23 (v := (t3.2.1 23 (x1).toNatClampNeg)) C hA rfl g5 dX8_breaks_60 ?_
        refine lv_bipush (v := 8) hx hb dX8_breaks_61 (by decide) ?_
        refine lv_idiv hx hb dX8_breaks_63 (by decide) ?_
        exact w_X8_breaks_64 C h hA (lv_sub hl [0, 1] rfl)
      · replace h := (if_pos c7).symm.trans h
        refine lv_iconst (v := 1) hx hb dX8_breaks_51 (by decide) ?_
        refine lv_goto (tgt := 64) hx hb dX8_breaks_52 (by decide) ?_
        exact w_X8_breaks_64 C h hA (lv_sub hl [0, 1] rfl)
    · replace h := (if_pos c6).symm.trans h
      refine lv_iconst (v := (-1)) hx hb dX8_breaks_37 (by decide) ?_
      obtain rfl := Option.some.inj h
      exact r_iret C hA dX8_breaks_38
  · replace h := (if_neg c4).symm.trans h
    refine lv_iconst (v := 0) hx hb dX8_breaks_26 (by decide) ?_
    obtain rfl := Option.some.inj h
    exact r_iret C hA dX8_breaks_27
set_option maxHeartbeats 4000000 in
set_option maxRecDepth 100000 in
theorem w_X8_breaks_0 {σ : SS} {x1 : Int32} (C : Cx p l s m args meth c cX8_breaks 3 wsX8_breaks (some .int) RX8 g A) (h : f_X8_breaks fu σ x1 = some R) {H : Heap} {locs : List Loc} {ls : Array Slot} (hA : Aw g A s.heap (wM g σ) H locs) (hl : lv_has ls 3 [(0, .ref (g.2.1 0)), (1, .int x1)]) : W p l e rmX8_breaks s m args below meth c H locs 0 0 (MQ below (Qi g A (wM g R.2) R.1) args s 0 0 A) (F0 m 0 ls []) := by
  have hx := C.1.1
  have hb := C.1.2.1
  unfold f_X8_breaks at h
  refine lv_aload_n hx hb dX8_breaks_0 rfl (lv_at hl 0 rfl) ?_
  refine lv_iconst (v := 0) hx hb dX8_breaks_1 (by decide) ?_
  refine Mp_X8_thrown C hA iX8_breaks_X8 (by decide +kernel) dX8_breaks_2 (fun H locs hA => ?_)
  refine lv_aload_n hx hb dX8_breaks_5 rfl (lv_at hl 0 rfl) ?_
  refine lv_aload_n hx hb dX8_breaks_6 rfl (lv_at hl 0 rfl) ?_
  refine lv_iload_n hx hb dX8_breaks_7 rfl (lv_at hl 1 rfl) ?_
  obtain ⟨r1, hc2, h⟩ := bd1 h
  refine r_callVi (r := r1) (w1 := wM g (sI σ 0 (0 : Int32))) (As := [.int x1]) (rest := [.ref (g.2.1 0)]) C hA hl.1 (k_X8_isCopper C.2.2.2.2.2.2 hc2) (cwV 1 C.1.2.2.2.2 gX8_breaks_X8_isCopper rfl rfl rfl nd_X8_isCopper ⟨Nat.le_of_ble_eq_true rfl, Nat.le_of_ble_eq_true rfl⟩) 0 rfl rfl rfl rfl (Nat.le_of_ble_eq_true rfl) dX8_breaks_8 ⟨Nat.le_of_ble_eq_true rfl, Nat.le_of_ble_eq_true rfl⟩ (fun H locs hA => ?_)
  refine lv_if_ne (tgt := 18) hx hb dX8_breaks_11 (by decide) (fun c3 => ?_) (fun c3 => ?_)
  · replace h := (if_neg c3).symm.trans h
    refine lv_iconst (v := 0) hx hb dX8_breaks_18 (by decide) ?_
    exact w_X8_breaks_19 C h hA (lv_sub hl [0, 1] rfl)
  · replace h := (if_pos c3).symm.trans h
    refine lv_iconst (v := 1) hx hb dX8_breaks_14 (by decide) ?_
    refine lv_goto (tgt := 19) hx hb dX8_breaks_15 (by decide) ?_
    exact w_X8_breaks_19 C h hA (lv_sub hl [0, 1] rfl)
end
set_option maxRecDepth 100000 in
theorem k_X8_breaks {l : Launch} {g : Gm} {fu : Nat} {σ : SS} {x1 : Int32} {R : Int32 × SS} (hlt : l.stackTraces = false) (h : f_X8_breaks fu σ x1 = some R) (sz : Nat) : Met l yX8_breaks wsX8_breaks rmX8_breaks (Pw g (wM g σ) [.ref (g.2.1 0), .int x1] sz) (Qi g (va_A (wM g σ) sz) (wM g R.2) R.1) 0 0 (va_A (wM g σ) sz) :=
  ofM (own := RX8) hlt (by decide) rfl rfl (Nat.le_of_ble_eq_true rfl) (fun p e s m below meth c hsz C hA ls hl => w_X8_breaks_0 C h hA hl)
abbrev rmX8_copperTold : Room := { frames := 1, cells := 0, slots := 0, locals := 22 }
theorem iX8_copperTold_X8 : ∀ x ∈ wsX80, x ∈ wsX8_copperTold := by decide +kernel
theorem nd_X8_copperTold : yX8_copperTold.cls = RX8 ∧ yX8_copperTold.cls ≠ "java/lang/invoke/MethodHandle" ∧ yX8_copperTold.cls ≠ "java/lang/invoke/VarHandle" ∧ (parseMethodDescriptor yX8_copperTold.desc).map (fun d => d.parameters.length) = some 2 := by decide +kernel
def f_X8_copperTold_41 (fu : Nat) (σ : SS) (x1 : Int32) (x2 : Int32) (y0 : Int32) : Option (Int32 × SS) :=
  bnd (f_X8_bad fu σ y0 (2 : Int32)) (fun r1 t3 => (if r1 = 0 then (if x2 = 0 then if inB x1 30 then some ((t3.2.1 21 (x1).toNatClampNeg), t3) else none else if inB x1 30 then some ((t3.2.1 22 (x1).toNatClampNeg), t3) else none) else some ((0 : Int32), t3)))
def f_X8_copperTold_36 (fu : Nat) (σ : SS) (x1 : Int32) (x2 : Int32) : Option (Int32 × SS) :=
  f_X8_copperTold_41 fu σ x1 x2 (1 : Int32)
def f_X8_copperTold_19 (fu : Nat) (σ : SS) (x1 : Int32) (x2 : Int32) (y0 : Int32) : Option (Int32 × SS) :=
  bnd (f_X8_bad fu σ y0 (1 : Int32)) (fun r1 t3 => (if r1 = 0 then (if x2 < 0 then f_X8_copperTold_36 fu t3 x1 x2 else (if x2 ≤ (1 : Int32) then f_X8_copperTold_41 fu t3 x1 x2 (0 : Int32) else f_X8_copperTold_36 fu t3 x1 x2)) else some ((0 : Int32), t3)))
def f_X8_copperTold (fu : Nat) (σ : SS) (x1 : Int32) (x2 : Int32) : Option (Int32 × SS) :=
  bnd1 (f_X8_isCopper fu (sI σ 0 (0 : Int32)) x1) (fun r1 => (if r1 = 0 then f_X8_copperTold_19 fu (sI σ 0 (0 : Int32)) x1 x2 (1 : Int32) else f_X8_copperTold_19 fu (sI σ 0 (0 : Int32)) x1 x2 (0 : Int32)))
section
variable {p : Program} {l : Launch} {e : Env} {s : State} {m : MethodId} {args : Array Value} {below : List Frame} {meth : Method} {c : Code} {g : Gm} {A : Nat → Prop} {fu : Nat} {R : Int32 × SS}
set_option maxHeartbeats 4000000 in
set_option maxRecDepth 100000 in
theorem w_X8_copperTold_41 {σ : SS} {x1 : Int32} {x2 : Int32} {y0 : Int32} (C : Cx p l s m args meth c cX8_copperTold 3 wsX8_copperTold (some .int) RX8 g A) (h : f_X8_copperTold_41 fu σ x1 x2 y0 = some R) {H : Heap} {locs : List Loc} {ls : Array Slot} (hA : Aw g A s.heap (wM g σ) H locs) (hl : lv_has ls 3 [(0, .ref (g.2.1 0)), (1, .int x1), (2, .int x2)]) : W p l e rmX8_copperTold s m args below meth c H locs 0 0 (MQ below (Qi g A (wM g R.2) R.1) args s 0 0 A) (F0 m 41 ls [.int y0, .ref (g.2.1 0)]) := by
  have hx := C.1.1
  have hb := C.1.2.1
  unfold f_X8_copperTold_41 at h
  refine lv_iconst (v := 2) hx hb dX8_copperTold_41 (by decide) ?_
  obtain ⟨r1, t3, hc2, h⟩ := bd h
  refine r_callVi (r := r1) (w1 := wM g t3) (As := [.int y0, .int (2 : Int32)]) (rest := []) C hA hl.1 (k_X8_bad C.2.2.2.2.2.2 hc2) (cwV 2 C.1.2.2.2.2 gX8_copperTold_X8_bad rfl rfl rfl nd_X8_bad ⟨Nat.le_of_ble_eq_true rfl, Nat.le_of_ble_eq_true rfl⟩) 0 rfl rfl rfl rfl (Nat.le_of_ble_eq_true rfl) dX8_copperTold_42 ⟨Nat.le_of_ble_eq_true rfl, Nat.le_of_ble_eq_true rfl⟩ (fun H locs hA => ?_)
  refine lv_if_eq (tgt := 50) hx hb dX8_copperTold_45 (by decide) (fun c4 => ?_) (fun c4 => ?_)
  · replace h := (if_pos c4).symm.trans h
    refine lv_iload_n hx hb dX8_copperTold_50 rfl (lv_at hl 2 rfl) ?_
    refine lv_if_ne (tgt := 63) hx hb dX8_copperTold_51 (by decide) (fun c5 => ?_) (fun c5 => ?_)
    · replace h := (if_neg c5).symm.trans h
      refine lv_aload_n hx hb dX8_copperTold_63 rfl (lv_at hl 0 rfl) ?_
      refine Mg_X8_worth C hA iX8_copperTold_X8 (by decide +kernel) dX8_copperTold_64 ?_
      refine lv_iload_n hx hb dX8_copperTold_67 rfl (lv_at hl 1 rfl) ?_
      obtain ⟨g6, h⟩ := gd h
      refine Mld_22 (v := (t3.2.1 22 (x1).toNatClampNeg)) C hA rfl g6 dX8_copperTold_68 ?_
      obtain rfl := Option.some.inj h
      exact r_iret C hA dX8_copperTold_69
    · replace h := (if_pos c5).symm.trans h
      refine lv_aload_n hx hb dX8_copperTold_54 rfl (lv_at hl 0 rfl) ?_
      refine Mg_X8_owner C hA iX8_copperTold_X8 (by decide +kernel) dX8_copperTold_55 ?_
      refine lv_iload_n hx hb dX8_copperTold_58 rfl (lv_at hl 1 rfl) ?_
      obtain ⟨g7, h⟩ := gd h
      refine Mld_21 (v := (t3.2.1 21 (x1).toNatClampNeg)) C hA rfl g7 dX8_copperTold_59 ?_
      refine lv_goto (tgt := 69) hx hb dX8_copperTold_60 (by decide) ?_
      obtain rfl := Option.some.inj h
      exact r_iret C hA dX8_copperTold_69
  · replace h := (if_neg c4).symm.trans h
    refine lv_iconst (v := 0) hx hb dX8_copperTold_48 (by decide) ?_
    obtain rfl := Option.some.inj h
    exact r_iret C hA dX8_copperTold_49
set_option maxHeartbeats 4000000 in
set_option maxRecDepth 100000 in
theorem w_X8_copperTold_36 {σ : SS} {x1 : Int32} {x2 : Int32} (C : Cx p l s m args meth c cX8_copperTold 3 wsX8_copperTold (some .int) RX8 g A) (h : f_X8_copperTold_36 fu σ x1 x2 = some R) {H : Heap} {locs : List Loc} {ls : Array Slot} (hA : Aw g A s.heap (wM g σ) H locs) (hl : lv_has ls 3 [(0, .ref (g.2.1 0)), (1, .int x1), (2, .int x2)]) : W p l e rmX8_copperTold s m args below meth c H locs 0 0 (MQ below (Qi g A (wM g R.2) R.1) args s 0 0 A) (F0 m 36 ls [.ref (g.2.1 0)]) := by
  have hx := C.1.1
  have hb := C.1.2.1
  unfold f_X8_copperTold_36 at h
  refine lv_iconst (v := 1) hx hb dX8_copperTold_36 (by decide) ?_
  refine lv_goto (tgt := 41) hx hb dX8_copperTold_37 (by decide) ?_
  exact w_X8_copperTold_41 C h hA (lv_sub hl [0, 1, 2] rfl)
set_option maxHeartbeats 4000000 in
set_option maxRecDepth 100000 in
theorem w_X8_copperTold_19 {σ : SS} {x1 : Int32} {x2 : Int32} {y0 : Int32} (C : Cx p l s m args meth c cX8_copperTold 3 wsX8_copperTold (some .int) RX8 g A) (h : f_X8_copperTold_19 fu σ x1 x2 y0 = some R) {H : Heap} {locs : List Loc} {ls : Array Slot} (hA : Aw g A s.heap (wM g σ) H locs) (hl : lv_has ls 3 [(0, .ref (g.2.1 0)), (1, .int x1), (2, .int x2)]) : W p l e rmX8_copperTold s m args below meth c H locs 0 0 (MQ below (Qi g A (wM g R.2) R.1) args s 0 0 A) (F0 m 19 ls [.int y0, .ref (g.2.1 0)]) := by
  have hx := C.1.1
  have hb := C.1.2.1
  unfold f_X8_copperTold_19 at h
  refine lv_iconst (v := 1) hx hb dX8_copperTold_19 (by decide) ?_
  obtain ⟨r1, t3, hc2, h⟩ := bd h
  refine r_callVi (r := r1) (w1 := wM g t3) (As := [.int y0, .int (1 : Int32)]) (rest := []) C hA hl.1 (k_X8_bad C.2.2.2.2.2.2 hc2) (cwV 2 C.1.2.2.2.2 gX8_copperTold_X8_bad rfl rfl rfl nd_X8_bad ⟨Nat.le_of_ble_eq_true rfl, Nat.le_of_ble_eq_true rfl⟩) 0 rfl rfl rfl rfl (Nat.le_of_ble_eq_true rfl) dX8_copperTold_20 ⟨Nat.le_of_ble_eq_true rfl, Nat.le_of_ble_eq_true rfl⟩ (fun H locs hA => ?_)
  refine lv_if_ne (tgt := 48) hx hb dX8_copperTold_23 (by decide) (fun c4 => ?_) (fun c4 => ?_)
  · replace h := (if_neg c4).symm.trans h
    refine lv_iconst (v := 0) hx hb dX8_copperTold_48 (by decide) ?_
    obtain rfl := Option.some.inj h
    exact r_iret C hA dX8_copperTold_49
  · replace h := (if_pos c4).symm.trans h
    refine lv_aload_n hx hb dX8_copperTold_26 rfl (lv_at hl 0 rfl) ?_
    refine lv_iload_n hx hb dX8_copperTold_27 rfl (lv_at hl 2 rfl) ?_
    refine lv_if_lt (tgt := 36) hx hb dX8_copperTold_28 (by decide) (fun c5 => ?_) (fun c5 => ?_)
    · replace h := (if_pos c5).symm.trans h
      exact w_X8_copperTold_36 C h hA (lv_sub hl [0, 1, 2] rfl)
    · replace h := (if_neg c5).symm.trans h
      refine lv_iload_n hx hb dX8_copperTold_31 rfl (lv_at hl 2 rfl) ?_
      refine lv_iconst (v := 1) hx hb dX8_copperTold_32 (by decide) ?_
      refine lv_icmp_le (tgt := 40) hx hb dX8_copperTold_33 (by decide) (fun c6 => ?_) (fun c6 => ?_)
      · replace h := (if_pos c6).symm.trans h
        refine lv_iconst (v := 0) hx hb dX8_copperTold_40 (by decide) ?_
        exact w_X8_copperTold_41 C h hA (lv_sub hl [0, 1, 2] rfl)
      · replace h := (if_neg c6).symm.trans h
        exact w_X8_copperTold_36 C h hA (lv_sub hl [0, 1, 2] rfl)
set_option maxHeartbeats 4000000 in
set_option maxRecDepth 100000 in
theorem w_X8_copperTold_0 {σ : SS} {x1 : Int32} {x2 : Int32} (C : Cx p l s m args meth c cX8_copperTold 3 wsX8_copperTold (some .int) RX8 g A) (h : f_X8_copperTold fu σ x1 x2 = some R) {H : Heap} {locs : List Loc} {ls : Array Slot} (hA : Aw g A s.heap (wM g σ) H locs) (hl : lv_has ls 3 [(0, .ref (g.2.1 0)), (1, .int x1), (2, .int x2)]) : W p l e rmX8_copperTold s m args below meth c H locs 0 0 (MQ below (Qi g A (wM g R.2) R.1) args s 0 0 A) (F0 m 0 ls []) := by
  have hx := C.1.1
  have hb := C.1.2.1
  unfold f_X8_copperTold at h
  refine lv_aload_n hx hb dX8_copperTold_0 rfl (lv_at hl 0 rfl) ?_
  refine lv_iconst (v := 0) hx hb dX8_copperTold_1 (by decide) ?_
  refine Mp_X8_thrown C hA iX8_copperTold_X8 (by decide +kernel) dX8_copperTold_2 (fun H locs hA => ?_)
  refine lv_aload_n hx hb dX8_copperTold_5 rfl (lv_at hl 0 rfl) ?_
  refine lv_aload_n hx hb dX8_copperTold_6 rfl (lv_at hl 0 rfl) ?_
  refine lv_iload_n hx hb dX8_copperTold_7 rfl (lv_at hl 1 rfl) ?_
  obtain ⟨r1, hc2, h⟩ := bd1 h
  refine r_callVi (r := r1) (w1 := wM g (sI σ 0 (0 : Int32))) (As := [.int x1]) (rest := [.ref (g.2.1 0)]) C hA hl.1 (k_X8_isCopper C.2.2.2.2.2.2 hc2) (cwV 1 C.1.2.2.2.2 gX8_copperTold_X8_isCopper rfl rfl rfl nd_X8_isCopper ⟨Nat.le_of_ble_eq_true rfl, Nat.le_of_ble_eq_true rfl⟩) 0 rfl rfl rfl rfl (Nat.le_of_ble_eq_true rfl) dX8_copperTold_8 ⟨Nat.le_of_ble_eq_true rfl, Nat.le_of_ble_eq_true rfl⟩ (fun H locs hA => ?_)
  refine lv_if_ne (tgt := 18) hx hb dX8_copperTold_11 (by decide) (fun c3 => ?_) (fun c3 => ?_)
  · replace h := (if_neg c3).symm.trans h
    refine lv_iconst (v := 0) hx hb dX8_copperTold_18 (by decide) ?_
    exact w_X8_copperTold_19 C h hA (lv_sub hl [0, 1, 2] rfl)
  · replace h := (if_pos c3).symm.trans h
    refine lv_iconst (v := 1) hx hb dX8_copperTold_14 (by decide) ?_
    refine lv_goto (tgt := 19) hx hb dX8_copperTold_15 (by decide) ?_
    exact w_X8_copperTold_19 C h hA (lv_sub hl [0, 1, 2] rfl)
end
set_option maxRecDepth 100000 in
theorem k_X8_copperTold {l : Launch} {g : Gm} {fu : Nat} {σ : SS} {x1 : Int32} {x2 : Int32} {R : Int32 × SS} (hlt : l.stackTraces = false) (h : f_X8_copperTold fu σ x1 x2 = some R) (sz : Nat) : Met l yX8_copperTold wsX8_copperTold rmX8_copperTold (Pw g (wM g σ) [.ref (g.2.1 0), .int x1, .int x2] sz) (Qi g (va_A (wM g σ) sz) (wM g R.2) R.1) 0 0 (va_A (wM g σ) sz) :=
  ofM (own := RX8) hlt (by decide) rfl rfl (Nat.le_of_ble_eq_true rfl) (fun p e s m below meth c hsz C hA ls hl => w_X8_copperTold_0 C h hA hl)
abbrev rmX8_isIn : Room := { frames := 0, cells := 0, slots := 0, locals := 0 }
theorem nd_X8_isIn : yX8_isIn.cls ≠ "java/lang/invoke/MethodHandle" ∧ yX8_isIn.cls ≠ "java/lang/invoke/VarHandle" ∧ (parseMethodDescriptor yX8_isIn.desc).map (fun d => d.parameters.length) = some 2 := by decide +kernel
def f_X8_isIn (fu : Nat) (σ : SS) (x0 : Int32) (x1 : Int32) : Option (Int32) :=
  (if ((x0 >>> (x1 &&& 31)) &&& (1 : Int32)) = (1 : Int32) then some (1 : Int32) else some (0 : Int32))
section
variable {p : Program} {l : Launch} {e : Env} {s : State} {m : MethodId} {args : Array Value} {below : List Frame} {meth : Method} {c : Code} {g : Gm} {A : Nat → Prop} {fu : Nat} {R : Int32}
set_option maxHeartbeats 4000000 in
set_option maxRecDepth 100000 in
theorem w_X8_isIn_0 {σ : SS} {x0 : Int32} {x1 : Int32} (C : Cx p l s m args meth c cX8_isIn 2 wsX8_isIn (some .boolean) RX8 g A) (h : f_X8_isIn fu σ x0 x1 = some R) {H : Heap} {locs : List Loc} {ls : Array Slot} (hA : Aw g A s.heap (wM g σ) H locs) (hl : lv_has ls 2 [(0, .int x0), (1, .int x1)]) : W p l e rmX8_isIn s m args below meth c H locs 0 0 (MQ below (Qi g A (wM g σ) R) args s 0 0 A) (F0 m 0 ls []) := by
  have hx := C.1.1
  have hb := C.1.2.1
  unfold f_X8_isIn at h
  refine lv_iload_n hx hb dX8_isIn_0 rfl (lv_at hl 0 rfl) ?_
  refine lv_iload_n hx hb dX8_isIn_1 rfl (lv_at hl 1 rfl) ?_
  refine lv_ishr hx hb dX8_isIn_2 ?_
  refine lv_iconst (v := 1) hx hb dX8_isIn_3 (by decide) ?_
  refine lv_iand hx hb dX8_isIn_4 ?_
  refine lv_iconst (v := 1) hx hb dX8_isIn_5 (by decide) ?_
  refine lv_icmp_ne (tgt := 13) hx hb dX8_isIn_6 (by decide) (fun c1 => ?_) (fun c1 => ?_)
  · replace h := (if_neg c1).symm.trans h
    refine lv_iconst (v := 0) hx hb dX8_isIn_13 (by decide) ?_
    obtain rfl := Option.some.inj h
    exact r_zret (v := (0 : Int32)) C hA (zb (Or.inl rfl)) dX8_isIn_14
  · replace h := (if_pos c1).symm.trans h
    refine lv_iconst (v := 1) hx hb dX8_isIn_9 (by decide) ?_
    refine lv_goto (tgt := 14) hx hb dX8_isIn_10 (by decide) ?_
    obtain rfl := Option.some.inj h
    exact r_zret (v := (1 : Int32)) C hA (zb (Or.inr rfl)) dX8_isIn_14
end
set_option maxRecDepth 100000 in
theorem k_X8_isIn {l : Launch} {g : Gm} {fu : Nat} {σ : SS} {x0 : Int32} {x1 : Int32} {R : Int32} (hlt : l.stackTraces = false) (h : f_X8_isIn fu σ x0 x1 = some R) (sz : Nat) : Met l yX8_isIn wsX8_isIn rmX8_isIn (Pw g (wM g σ) [.int x0, .int x1] sz) (Qi g (va_A (wM g σ) sz) (wM g σ) R) 0 0 (va_A (wM g σ) sz) :=
  ofM (own := RX8) hlt (by decide) rfl rfl (Nat.le_of_ble_eq_true rfl) (fun p e s m below meth c hsz C hA ls hl => w_X8_isIn_0 C h hA hl)
abbrev rmX8_feast : Room := { frames := 4, cells := 0, slots := 0, locals := 105 }
theorem iX8_feast_X8 : ∀ x ∈ wsX80, x ∈ wsX8_feast := by decide +kernel
theorem nd_X8_feast : yX8_feast.cls = RX8 ∧ yX8_feast.cls ≠ "java/lang/invoke/MethodHandle" ∧ yX8_feast.cls ≠ "java/lang/invoke/VarHandle" ∧ (parseMethodDescriptor yX8_feast.desc).map (fun d => d.parameters.length) = some 4 := by decide +kernel
def f_X8_feast_359 (fu : Nat) (k293 : SS → (Int32 × Int32 × Int32 × Int32 × Int64 × Int32) → Option (Int32 × SS)) (σ : SS) (x1 : Int32) (x2 : Int32) (x3 : Int32) (x4 : Int32) (x8 : Int64) (x11 : Int32) : Option (Int32 × SS) :=
  k293 σ (x1, x2, x3, x4, x8, (x11 + 1))
def f_X8_feast_293 (fu : Nat) (k293 : SS → (Int32 × Int32 × Int32 × Int32 × Int64 × Int32) → Option (Int32 × SS)) (σ : SS) (x1 : Int32) (x2 : Int32) (x3 : Int32) (x4 : Int32) (x8 : Int64) (x11 : Int32) : Option (Int32 × SS) :=
  (if (σ.1 4) ≤ x11 then some ((x8).toInt32, σ) else bnd1 (f_X8_isIn fu σ x2 x11) (fun r2 => (if r2 = 0 then bnd1 (f_X8_isIn fu σ x4 x11) (fun r5 => (if r5 = 0 then f_X8_feast_359 fu k293 σ x1 x2 x3 x4 x8 x11 else if inB x11 12 then bnd1 (f_X8_term fu σ (5 : Int32)) (fun r9 => f_X8_feast_359 fu k293 (sA σ 1 (x11).toNatClampNeg ((σ.2.1 1 (x11).toNatClampNeg) + r9)) x1 x2 x3 x4 x8 x11) else none)) else if inB x11 12 then bnd (f_X8_gives fu (sA σ 1 (x11).toNatClampNeg ((σ.2.1 1 (x11).toNatClampNeg) + x3)) x1 x11 x3) (fun r12 t14 => f_X8_feast_359 fu k293 t14 x1 x2 x3 x4 x8 x11) else none)))
def f_X8_feast_L293 (fu : Nat) : SS → (Int32 × Int32 × Int32 × Int32 × Int64 × Int32) → Option (Int32 × SS) := loopN (fun k293 σ x => f_X8_feast_293 fu k293 σ x.1 x.2.1 x.2.2.1 x.2.2.2.1 x.2.2.2.2.1 x.2.2.2.2.2) fu
def f_X8_feast_229 (fu : Nat) (k125 : SS → (Int32 × Int32 × Int32 × Int32 × Int32 × Int64 × Int32 × Int32) → Option (Int32 × SS)) (σ : SS) (x1 : Int32) (x2 : Int32) (x3 : Int32) (x4 : Int32) (x7 : Int32) (x8 : Int64) (x10 : Int32) (x11 : Int32) : Option (Int32 × SS) :=
  k125 σ (x1, x2, x3, x4, x7, x8, x10, (x11 + 1))
def f_X8_feast_226 (fu : Nat) (k125 : SS → (Int32 × Int32 × Int32 × Int32 × Int32 × Int64 × Int32 × Int32) → Option (Int32 × SS)) (σ : SS) (x1 : Int32) (x2 : Int32) (x3 : Int32) (x4 : Int32) (x7 : Int32) (x8 : Int64) (x11 : Int32) (y0 : Int32) (y1 : Int32) : Option (Int32 × SS) :=
  f_X8_feast_229 fu k125 σ x1 x2 x3 x4 x7 x8 (y1 + y0) x11
def f_X8_feast_225 (fu : Nat) (k125 : SS → (Int32 × Int32 × Int32 × Int32 × Int32 × Int64 × Int32 × Int32) → Option (Int32 × SS)) (σ : SS) (x1 : Int32) (x2 : Int32) (x3 : Int32) (x4 : Int32) (x7 : Int32) (x8 : Int64) (x11 : Int32) (y0 : Int32) : Option (Int32 × SS) :=
  f_X8_feast_226 fu k125 σ x1 x2 x3 x4 x7 x8 x11 (0 : Int32) y0
def f_X8_feast_193 (fu : Nat) (k125 : SS → (Int32 × Int32 × Int32 × Int32 × Int32 × Int64 × Int32 × Int32) → Option (Int32 × SS)) (σ : SS) (x1 : Int32) (x2 : Int32) (x3 : Int32) (x4 : Int32) (x7 : Int32) (x10 : Int32) (x11 : Int32) (y0 : Int64) (y1 : Int64) : Option (Int32 × SS) :=
  bnd1 (f_X8_isIn fu σ x2 x11) (fun r1 => (if r1 = 0 then f_X8_feast_225 fu k125 σ x1 x2 x3 x4 x7 (y1 + y0) x11 x10 else bnd1 (f_X8_madeOf fu σ x1 x11 (x3).toInt64) (fun r4 => (if (lg_cmp r4 (0 : Int64)) ≤ 0 then f_X8_feast_225 fu k125 σ x1 x2 x3 x4 x7 (y1 + y0) x11 x10 else f_X8_feast_226 fu k125 σ x1 x2 x3 x4 x7 (y1 + y0) x11 (1 : Int32) x10))))
def f_X8_feast_169 (fu : Nat) (k125 : SS → (Int32 × Int32 × Int32 × Int32 × Int32 × Int64 × Int32 × Int32) → Option (Int32 × SS)) (σ : SS) (x1 : Int32) (x2 : Int32) (x3 : Int32) (x4 : Int32) (x8 : Int64) (x10 : Int32) (x11 : Int32) (y0 : Int32) : Option (Int32 × SS) :=
  bnd1 (f_X8_isIn fu σ x2 x11) (fun r1 => (if r1 = 0 then bnd1 (f_X8_term fu σ (5 : Int32)) (fun r4 => f_X8_feast_193 fu k125 σ x1 x2 x3 x4 y0 x10 x11 (r4).toInt64 x8) else f_X8_feast_193 fu k125 σ x1 x2 x3 x4 y0 x10 x11 (x3).toInt64 x8))
def f_X8_feast_164 (fu : Nat) (k125 : SS → (Int32 × Int32 × Int32 × Int32 × Int32 × Int64 × Int32 × Int32) → Option (Int32 × SS)) (σ : SS) (x1 : Int32) (x2 : Int32) (x3 : Int32) (x4 : Int32) (x8 : Int64) (x10 : Int32) (x11 : Int32) : Option (Int32 × SS) :=
  f_X8_feast_169 fu k125 σ x1 x2 x3 x4 x8 x10 x11 (1 : Int32)
def f_X8_feast_125 (fu : Nat) (k125 : SS → (Int32 × Int32 × Int32 × Int32 × Int32 × Int64 × Int32 × Int32) → Option (Int32 × SS)) (σ : SS) (x1 : Int32) (x2 : Int32) (x3 : Int32) (x4 : Int32) (x7 : Int32) (x8 : Int64) (x10 : Int32) (x11 : Int32) : Option (Int32 × SS) :=
  (if (σ.1 4) ≤ x11 then bnd (f_X8_bad fu σ x7 (3 : Int32)) (fun r2 t4 => (if r2 = 0 then if inB x1 12 then (if (lg_cmp x8 ((t4.2.1 1 (x1).toNatClampNeg)).toInt64) ≤ 0 then (if ((t4.1 20) + x10) ≤ (400 : Int32) then f_X8_feast_L293 fu (sA t4 1 (x1).toNatClampNeg ((t4.2.1 1 (x1).toNatClampNeg) - (x8).toInt32)) (x1, x2, x3, x4, x8, (0 : Int32)) else some ((-2), t4)) else some ((-1), t4)) else none else some ((0 : Int32), t4))) else bnd1 (f_X8_isIn fu σ (x2 ||| x4) x11) (fun r9 => (if r9 = 0 then f_X8_feast_229 fu k125 σ x1 x2 x3 x4 x7 x8 x10 x11 else (if x7 = 0 then if inB x11 12 then (if (σ.2.1 3 (x11).toNatClampNeg) = 0 then f_X8_feast_169 fu k125 σ x1 x2 x3 x4 x8 x10 x11 (0 : Int32) else f_X8_feast_164 fu k125 σ x1 x2 x3 x4 x8 x10 x11) else none else f_X8_feast_164 fu k125 σ x1 x2 x3 x4 x8 x10 x11))))
def f_X8_feast_L125 (fu : Nat) : SS → (Int32 × Int32 × Int32 × Int32 × Int32 × Int64 × Int32 × Int32) → Option (Int32 × SS) := loopN (fun k125 σ x => f_X8_feast_125 fu k125 σ x.1 x.2.1 x.2.2.1 x.2.2.2.1 x.2.2.2.2.1 x.2.2.2.2.2.1 x.2.2.2.2.2.2.1 x.2.2.2.2.2.2.2) fu
def f_X8_feast_94 (fu : Nat) (σ : SS) (x1 : Int32) (x2 : Int32) (x3 : Int32) (x4 : Int32) (y0 : Int32) : Option (Int32 × SS) :=
  bnd (f_X8_bad fu σ y0 (2 : Int32)) (fun r1 t3 => (if r1 = 0 then if inB x1 12 then f_X8_feast_L125 fu t3 (x1, x2, x3, x4, (t3.2.1 3 (x1).toNatClampNeg), (0 : Int64), (0 : Int32), (0 : Int32)) else none else some ((0 : Int32), t3)))
def f_X8_feast_89 (fu : Nat) (σ : SS) (x1 : Int32) (x2 : Int32) (x3 : Int32) (x4 : Int32) : Option (Int32 × SS) :=
  f_X8_feast_94 fu σ x1 x2 x3 x4 (1 : Int32)
def f_X8_feast_19 (fu : Nat) (σ : SS) (x1 : Int32) (x2 : Int32) (x3 : Int32) (x4 : Int32) (y0 : Int32) : Option (Int32 × SS) :=
  bnd (f_X8_bad fu σ y0 (1 : Int32)) (fun r1 t3 => (if r1 = 0 then (if x2 < 0 then f_X8_feast_89 fu t3 x1 x2 x3 x4 else (if x4 < 0 then f_X8_feast_89 fu t3 x1 x2 x3 x4 else (if (((1 : Int32) <<< ((t3.1 4) &&& 31)) - (1 : Int32)) < x2 then f_X8_feast_89 fu t3 x1 x2 x3 x4 else (if (((1 : Int32) <<< ((t3.1 4) &&& 31)) - (1 : Int32)) < x4 then f_X8_feast_89 fu t3 x1 x2 x3 x4 else bnd1 (f_X8_isIn fu t3 (x2 ||| x4) x1) (fun r9 => (if r9 = 0 then (if (x2 &&& x4) = 0 then (if x3 < (1 : Int32) then f_X8_feast_89 fu t3 x1 x2 x3 x4 else (if x3 ≤ (100000 : Int32) then f_X8_feast_94 fu t3 x1 x2 x3 x4 (0 : Int32) else f_X8_feast_89 fu t3 x1 x2 x3 x4)) else f_X8_feast_89 fu t3 x1 x2 x3 x4) else f_X8_feast_89 fu t3 x1 x2 x3 x4)))))) else some ((0 : Int32), t3)))
def f_X8_feast (fu : Nat) (σ : SS) (x1 : Int32) (x2 : Int32) (x3 : Int32) (x4 : Int32) : Option (Int32 × SS) :=
  bnd1 (f_X8_isChief fu (sI σ 0 (0 : Int32)) x1) (fun r1 => (if r1 = 0 then f_X8_feast_19 fu (sI σ 0 (0 : Int32)) x1 x2 x3 x4 (1 : Int32) else f_X8_feast_19 fu (sI σ 0 (0 : Int32)) x1 x2 x3 x4 (0 : Int32)))
section
variable {p : Program} {l : Launch} {e : Env} {s : State} {m : MethodId} {args : Array Value} {below : List Frame} {meth : Method} {c : Code} {g : Gm} {A : Nat → Prop} {fu : Nat} {R : Int32 × SS}
set_option maxHeartbeats 4000000 in
set_option maxRecDepth 100000 in
theorem w_X8_feast_359 {σ : SS} {x1 : Int32} {x2 : Int32} {x3 : Int32} {x4 : Int32} {x8 : Int64} {x11 : Int32} (C : Cx p l s m args meth c cX8_feast 12 wsX8_feast (some .int) RX8 g A) {k293 : SS → (Int32 × Int32 × Int32 × Int32 × Int64 × Int32) → Option (Int32 × SS)} (hk293 : ∀ (σ : SS) (x : Int32 × Int32 × Int32 × Int32 × Int64 × Int32), k293 σ x = some R → ∀ (H : Heap) (locs : List Loc) (ls : Array Slot), Aw g A s.heap (wM g σ) H locs → lv_has ls 12 [(0, .ref (g.2.1 0)), (1, .int x.1), (2, .int x.2.1), (3, .int x.2.2.1), (4, .int x.2.2.2.1), (8, .long x.2.2.2.2.1), (11, .int x.2.2.2.2.2)] → W p l e rmX8_feast s m args below meth c H locs 0 0 (MQ below (Qi g A (wM g R.2) R.1) args s 0 0 A) (F0 m 293 ls [])) (h : f_X8_feast_359 fu k293 σ x1 x2 x3 x4 x8 x11 = some R) {H : Heap} {locs : List Loc} {ls : Array Slot} (hA : Aw g A s.heap (wM g σ) H locs) (hl : lv_has ls 12 [(0, .ref (g.2.1 0)), (1, .int x1), (2, .int x2), (3, .int x3), (4, .int x4), (8, .long x8), (11, .int x11)]) : W p l e rmX8_feast s m args below meth c H locs 0 0 (MQ below (Qi g A (wM g R.2) R.1) args s 0 0 A) (F0 m 359 ls []) := by
  have hx := C.1.1
  have hb := C.1.2.1
  unfold f_X8_feast_359 at h
  refine lv_iinc (v := (x11 + 1)) (lv' := [(11, .int (x11 + 1)), (0, .ref (g.2.1 0)), (1, .int x1), (2, .int x2), (3, .int x3), (4, .int x4), (8, .long x8)]) hx hb dX8_feast_359 hl (k := 6) rfl rfl (by decide) rfl (fun ls hl => ?_)
  refine lv_goto (tgt := 293) hx hb dX8_feast_362 (by decide) ?_
  exact hk293 _ _ h _ _ _ hA (lv_sub hl [1, 2, 3, 4, 5, 6, 0] rfl)
set_option maxHeartbeats 4000000 in
set_option maxRecDepth 100000 in
theorem w_X8_feast_293 {σ : SS} {x1 : Int32} {x2 : Int32} {x3 : Int32} {x4 : Int32} {x8 : Int64} {x11 : Int32} (C : Cx p l s m args meth c cX8_feast 12 wsX8_feast (some .int) RX8 g A) {k293 : SS → (Int32 × Int32 × Int32 × Int32 × Int64 × Int32) → Option (Int32 × SS)} (hk293 : ∀ (σ : SS) (x : Int32 × Int32 × Int32 × Int32 × Int64 × Int32), k293 σ x = some R → ∀ (H : Heap) (locs : List Loc) (ls : Array Slot), Aw g A s.heap (wM g σ) H locs → lv_has ls 12 [(0, .ref (g.2.1 0)), (1, .int x.1), (2, .int x.2.1), (3, .int x.2.2.1), (4, .int x.2.2.2.1), (8, .long x.2.2.2.2.1), (11, .int x.2.2.2.2.2)] → W p l e rmX8_feast s m args below meth c H locs 0 0 (MQ below (Qi g A (wM g R.2) R.1) args s 0 0 A) (F0 m 293 ls [])) (h : f_X8_feast_293 fu k293 σ x1 x2 x3 x4 x8 x11 = some R) {H : Heap} {locs : List Loc} {ls : Array Slot} (hA : Aw g A s.heap (wM g σ) H locs) (hl : lv_has ls 12 [(0, .ref (g.2.1 0)), (1, .int x1), (2, .int x2), (3, .int x3), (4, .int x4), (8, .long x8), (11, .int x11)]) : W p l e rmX8_feast s m args below meth c H locs 0 0 (MQ below (Qi g A (wM g R.2) R.1) args s 0 0 A) (F0 m 293 ls []) := by
  have hx := C.1.1
  have hb := C.1.2.1
  unfold f_X8_feast_293 at h
  refine lv_iload hx hb dX8_feast_293 (lv_at hl 6 rfl) ?_
  refine lv_aload_n hx hb dX8_feast_295 rfl (lv_at hl 0 rfl) ?_
  refine Mg_X8_chiefs (v := (σ.1 4)) C hA rfl iX8_feast_X8 (by decide +kernel) dX8_feast_296 ?_
  refine lv_icmp_ge (tgt := 365) hx hb dX8_feast_299 (by decide) (fun c1 => ?_) (fun c1 => ?_)
  · replace h := (if_pos c1).symm.trans h
    refine lv_lload hx hb dX8_feast_365 (lv_at hl 5 rfl) ?_
    refine lv_l2i hx hb dX8_feast_367 rfl ?_
    obtain rfl := Option.some.inj h
    exact r_iret C hA dX8_feast_368
  · replace h := (if_neg c1).symm.trans h
    refine lv_iload_n hx hb dX8_feast_302 rfl (lv_at hl 2 rfl) ?_
    refine lv_iload hx hb dX8_feast_303 (lv_at hl 6 rfl) ?_
    obtain ⟨r2, hc3, h⟩ := bd1 h
    refine r_callSi (r := r2) (w1 := wM g σ) (As := [.int x2, .int x11]) (rest := []) C hA hl.1 (k_X8_isIn (g := g) C.2.2.2.2.2.2 hc3) (va_cwS 2 C.1.2.2.2.2 gX8_feast_X8_isIn rfl rfl rfl nd_X8_isIn ⟨Nat.le_of_ble_eq_true rfl, Nat.le_of_ble_eq_true rfl⟩) rfl rfl (Nat.le_of_ble_eq_true rfl) dX8_feast_305 ⟨Nat.le_of_ble_eq_true rfl, Nat.le_of_ble_eq_true rfl⟩ (fun H locs hA => ?_)
    refine lv_if_eq (tgt := 334) hx hb dX8_feast_308 (by decide) (fun c4 => ?_) (fun c4 => ?_)
    · replace h := (if_pos c4).symm.trans h
      refine lv_iload hx hb dX8_feast_334 (lv_at hl 4 rfl) ?_
      refine lv_iload hx hb dX8_feast_336 (lv_at hl 6 rfl) ?_
      obtain ⟨r5, hc6, h⟩ := bd1 h
      refine r_callSi (r := r5) (w1 := wM g σ) (As := [.int x4, .int x11]) (rest := []) C hA hl.1 (k_X8_isIn (g := g) C.2.2.2.2.2.2 hc6) (va_cwS 2 C.1.2.2.2.2 gX8_feast_X8_isIn rfl rfl rfl nd_X8_isIn ⟨Nat.le_of_ble_eq_true rfl, Nat.le_of_ble_eq_true rfl⟩) rfl rfl (Nat.le_of_ble_eq_true rfl) dX8_feast_338 ⟨Nat.le_of_ble_eq_true rfl, Nat.le_of_ble_eq_true rfl⟩ (fun H locs hA => ?_)
      refine lv_if_eq (tgt := 359) hx hb dX8_feast_341 (by decide) (fun c7 => ?_) (fun c7 => ?_)
      · replace h := (if_pos c7).symm.trans h
        exact w_X8_feast_359 C hk293 h hA (lv_sub hl [0, 1, 2, 3, 4, 5, 6] rfl)
      · replace h := (if_neg c7).symm.trans h
        refine lv_aload_n hx hb dX8_feast_344 rfl (lv_at hl 0 rfl) ?_
        refine Mg_X8_blankets C hA iX8_feast_X8 (by decide +kernel) dX8_feast_345 ?_
        refine lv_iload hx hb dX8_feast_348 (lv_at hl 6 rfl) ?_
        refine lv_dup2_11 hx hb dX8_feast_350 rfl rfl ?_
        obtain ⟨g8, h⟩ := gd h
        refine Mld_1 (v := (σ.2.1 1 (x11).toNatClampNeg)) C hA rfl g8 dX8_feast_351 ?_
        refine lv_aload_n hx hb dX8_feast_352 rfl (lv_at hl 0 rfl) ?_
        refine lv_iconst (v := 5) hx hb dX8_feast_353 (by decide) ?_
        obtain ⟨r9, hc10, h⟩ := bd1 h
        refine r_callVi (r := r9) (w1 := wM g σ) (As := [.int (5 : Int32)]) (rest := [.int (σ.2.1 1 (x11).toNatClampNeg), .int x11, .ref (g.2.1 1)]) C hA hl.1 (k_X8_term C.2.2.2.2.2.2 hc10) (cwV 1 C.1.2.2.2.2 gX8_feast_X8_term rfl rfl rfl nd_X8_term ⟨Nat.le_of_ble_eq_true rfl, Nat.le_of_ble_eq_true rfl⟩) 0 rfl rfl rfl rfl (Nat.le_of_ble_eq_true rfl) dX8_feast_354 ⟨Nat.le_of_ble_eq_true rfl, Nat.le_of_ble_eq_true rfl⟩ (fun H locs hA => ?_)
        refine lv_iadd hx hb dX8_feast_357 ?_
        refine Mst_1 C hA g8 dX8_feast_358 (fun H locs hA => ?_)
        exact w_X8_feast_359 C hk293 h hA (lv_sub hl [0, 1, 2, 3, 4, 5, 6] rfl)
    · replace h := (if_neg c4).symm.trans h
      refine lv_aload_n hx hb dX8_feast_311 rfl (lv_at hl 0 rfl) ?_
      refine Mg_X8_blankets C hA iX8_feast_X8 (by decide +kernel) dX8_feast_312 ?_
      refine lv_iload hx hb dX8_feast_315 (lv_at hl 6 rfl) ?_
      refine lv_dup2_11 hx hb dX8_feast_317 rfl rfl ?_
      obtain ⟨g11, h⟩ := gd h
      refine Mld_1 (v := (σ.2.1 1 (x11).toNatClampNeg)) C hA rfl g11 dX8_feast_318 ?_
      refine lv_iload_n hx hb dX8_feast_319 rfl (lv_at hl 3 rfl) ?_
      refine lv_iadd hx hb dX8_feast_320 ?_
      refine Mst_1 C hA g11 dX8_feast_321 (fun H locs hA => ?_)
      refine lv_aload_n hx hb dX8_feast_322 rfl (lv_at hl 0 rfl) ?_
      refine lv_iload_n hx hb dX8_feast_323 rfl (lv_at hl 1 rfl) ?_
      refine lv_iload hx hb dX8_feast_324 (lv_at hl 6 rfl) ?_
      refine lv_iload_n hx hb dX8_feast_326 rfl (lv_at hl 3 rfl) ?_
      obtain ⟨r12, t14, hc13, h⟩ := bd h
      refine r_callVi (r := r12) (w1 := wM g t14) (As := [.int x1, .int x11, .int x3]) (rest := []) C hA hl.1 (k_X8_gives C.2.2.2.2.2.2 hc13) (cwV 3 C.1.2.2.2.2 gX8_feast_X8_gives rfl rfl rfl nd_X8_gives ⟨Nat.le_of_ble_eq_true rfl, Nat.le_of_ble_eq_true rfl⟩) 0 rfl rfl rfl rfl (Nat.le_of_ble_eq_true rfl) dX8_feast_327 ⟨Nat.le_of_ble_eq_true rfl, Nat.le_of_ble_eq_true rfl⟩ (fun H locs hA => ?_)
      refine lv_pop hx hb dX8_feast_330 rfl ?_
      refine lv_goto (tgt := 359) hx hb dX8_feast_331 (by decide) ?_
      exact w_X8_feast_359 C hk293 h hA (lv_sub hl [0, 1, 2, 3, 4, 5, 6] rfl)
set_option maxHeartbeats 4000000 in
theorem w_X8_feast_L293 {σ : SS} {x : Int32 × Int32 × Int32 × Int32 × Int64 × Int32} (C : Cx p l s m args meth c cX8_feast 12 wsX8_feast (some .int) RX8 g A) (h : f_X8_feast_L293 fu σ x = some R) {H : Heap} {locs : List Loc} {ls : Array Slot} (hA : Aw g A s.heap (wM g σ) H locs) (hl : lv_has ls 12 [(0, .ref (g.2.1 0)), (1, .int x.1), (2, .int x.2.1), (3, .int x.2.2.1), (4, .int x.2.2.2.1), (8, .long x.2.2.2.2.1), (11, .int x.2.2.2.2.2)]) : W p l e rmX8_feast s m args below meth c H locs 0 0 (MQ below (Qi g A (wM g R.2) R.1) args s 0 0 A) (F0 m 293 ls []) := by
  refine loopW (P := fun σ x => ∀ (H : Heap) (locs : List Loc) (ls : Array Slot), Aw g A s.heap (wM g σ) H locs → lv_has ls 12 [(0, .ref (g.2.1 0)), (1, .int x.1), (2, .int x.2.1), (3, .int x.2.2.1), (4, .int x.2.2.2.1), (8, .long x.2.2.2.2.1), (11, .int x.2.2.2.2.2)] → W p l e rmX8_feast s m args below meth c H locs 0 0 (MQ below (Qi g A (wM g R.2) R.1) args s 0 0 A) (F0 m 293 ls [])) (fun k hk σ x h9 H locs ls hA9 hl9 => ?_) fu σ x h H locs ls hA hl
  exact w_X8_feast_293 C hk h9 hA9 hl9
set_option maxHeartbeats 4000000 in
set_option maxRecDepth 100000 in
theorem w_X8_feast_229 {σ : SS} {x1 : Int32} {x2 : Int32} {x3 : Int32} {x4 : Int32} {x7 : Int32} {x8 : Int64} {x10 : Int32} {x11 : Int32} (C : Cx p l s m args meth c cX8_feast 12 wsX8_feast (some .int) RX8 g A) {k125 : SS → (Int32 × Int32 × Int32 × Int32 × Int32 × Int64 × Int32 × Int32) → Option (Int32 × SS)} (hk125 : ∀ (σ : SS) (x : Int32 × Int32 × Int32 × Int32 × Int32 × Int64 × Int32 × Int32), k125 σ x = some R → ∀ (H : Heap) (locs : List Loc) (ls : Array Slot), Aw g A s.heap (wM g σ) H locs → lv_has ls 12 [(0, .ref (g.2.1 0)), (1, .int x.1), (2, .int x.2.1), (3, .int x.2.2.1), (4, .int x.2.2.2.1), (7, .int x.2.2.2.2.1), (8, .long x.2.2.2.2.2.1), (10, .int x.2.2.2.2.2.2.1), (11, .int x.2.2.2.2.2.2.2)] → W p l e rmX8_feast s m args below meth c H locs 0 0 (MQ below (Qi g A (wM g R.2) R.1) args s 0 0 A) (F0 m 125 ls [])) (h : f_X8_feast_229 fu k125 σ x1 x2 x3 x4 x7 x8 x10 x11 = some R) {H : Heap} {locs : List Loc} {ls : Array Slot} (hA : Aw g A s.heap (wM g σ) H locs) (hl : lv_has ls 12 [(0, .ref (g.2.1 0)), (1, .int x1), (2, .int x2), (3, .int x3), (4, .int x4), (7, .int x7), (8, .long x8), (10, .int x10), (11, .int x11)]) : W p l e rmX8_feast s m args below meth c H locs 0 0 (MQ below (Qi g A (wM g R.2) R.1) args s 0 0 A) (F0 m 229 ls []) := by
  have hx := C.1.1
  have hb := C.1.2.1
  unfold f_X8_feast_229 at h
  refine lv_iinc (v := (x11 + 1)) (lv' := [(11, .int (x11 + 1)), (0, .ref (g.2.1 0)), (1, .int x1), (2, .int x2), (3, .int x3), (4, .int x4), (7, .int x7), (8, .long x8), (10, .int x10)]) hx hb dX8_feast_229 hl (k := 8) rfl rfl (by decide) rfl (fun ls hl => ?_)
  refine lv_goto (tgt := 125) hx hb dX8_feast_232 (by decide) ?_
  exact hk125 _ _ h _ _ _ hA (lv_sub hl [1, 2, 3, 4, 5, 6, 7, 8, 0] rfl)
set_option maxHeartbeats 4000000 in
set_option maxRecDepth 100000 in
theorem w_X8_feast_226 {σ : SS} {x1 : Int32} {x2 : Int32} {x3 : Int32} {x4 : Int32} {x7 : Int32} {x8 : Int64} {x11 : Int32} {y0 : Int32} {y1 : Int32} (C : Cx p l s m args meth c cX8_feast 12 wsX8_feast (some .int) RX8 g A) {k125 : SS → (Int32 × Int32 × Int32 × Int32 × Int32 × Int64 × Int32 × Int32) → Option (Int32 × SS)} (hk125 : ∀ (σ : SS) (x : Int32 × Int32 × Int32 × Int32 × Int32 × Int64 × Int32 × Int32), k125 σ x = some R → ∀ (H : Heap) (locs : List Loc) (ls : Array Slot), Aw g A s.heap (wM g σ) H locs → lv_has ls 12 [(0, .ref (g.2.1 0)), (1, .int x.1), (2, .int x.2.1), (3, .int x.2.2.1), (4, .int x.2.2.2.1), (7, .int x.2.2.2.2.1), (8, .long x.2.2.2.2.2.1), (10, .int x.2.2.2.2.2.2.1), (11, .int x.2.2.2.2.2.2.2)] → W p l e rmX8_feast s m args below meth c H locs 0 0 (MQ below (Qi g A (wM g R.2) R.1) args s 0 0 A) (F0 m 125 ls [])) (h : f_X8_feast_226 fu k125 σ x1 x2 x3 x4 x7 x8 x11 y0 y1 = some R) {H : Heap} {locs : List Loc} {ls : Array Slot} (hA : Aw g A s.heap (wM g σ) H locs) (hl : lv_has ls 12 [(0, .ref (g.2.1 0)), (1, .int x1), (2, .int x2), (3, .int x3), (4, .int x4), (7, .int x7), (8, .long x8), (11, .int x11)]) : W p l e rmX8_feast s m args below meth c H locs 0 0 (MQ below (Qi g A (wM g R.2) R.1) args s 0 0 A) (F0 m 226 ls [.int y0, .int y1]) := by
  have hx := C.1.1
  have hb := C.1.2.1
  unfold f_X8_feast_226 at h
  refine lv_iadd hx hb dX8_feast_226 ?_
  refine lv_istore (lv' := [(10, .int (y1 + y0)), (0, .ref (g.2.1 0)), (1, .int x1), (2, .int x2), (3, .int x3), (4, .int x4), (7, .int x7), (8, .long x8), (11, .int x11)]) hx hb dX8_feast_227 hl (by decide) rfl (fun ls hl => ?_)
  exact w_X8_feast_229 C hk125 h hA (lv_sub hl [1, 2, 3, 4, 5, 6, 7, 0, 8] rfl)
set_option maxHeartbeats 4000000 in
set_option maxRecDepth 100000 in
theorem w_X8_feast_225 {σ : SS} {x1 : Int32} {x2 : Int32} {x3 : Int32} {x4 : Int32} {x7 : Int32} {x8 : Int64} {x11 : Int32} {y0 : Int32} (C : Cx p l s m args meth c cX8_feast 12 wsX8_feast (some .int) RX8 g A) {k125 : SS → (Int32 × Int32 × Int32 × Int32 × Int32 × Int64 × Int32 × Int32) → Option (Int32 × SS)} (hk125 : ∀ (σ : SS) (x : Int32 × Int32 × Int32 × Int32 × Int32 × Int64 × Int32 × Int32), k125 σ x = some R → ∀ (H : Heap) (locs : List Loc) (ls : Array Slot), Aw g A s.heap (wM g σ) H locs → lv_has ls 12 [(0, .ref (g.2.1 0)), (1, .int x.1), (2, .int x.2.1), (3, .int x.2.2.1), (4, .int x.2.2.2.1), (7, .int x.2.2.2.2.1), (8, .long x.2.2.2.2.2.1), (10, .int x.2.2.2.2.2.2.1), (11, .int x.2.2.2.2.2.2.2)] → W p l e rmX8_feast s m args below meth c H locs 0 0 (MQ below (Qi g A (wM g R.2) R.1) args s 0 0 A) (F0 m 125 ls [])) (h : f_X8_feast_225 fu k125 σ x1 x2 x3 x4 x7 x8 x11 y0 = some R) {H : Heap} {locs : List Loc} {ls : Array Slot} (hA : Aw g A s.heap (wM g σ) H locs) (hl : lv_has ls 12 [(0, .ref (g.2.1 0)), (1, .int x1), (2, .int x2), (3, .int x3), (4, .int x4), (7, .int x7), (8, .long x8), (11, .int x11)]) : W p l e rmX8_feast s m args below meth c H locs 0 0 (MQ below (Qi g A (wM g R.2) R.1) args s 0 0 A) (F0 m 225 ls [.int y0]) := by
  have hx := C.1.1
  have hb := C.1.2.1
  unfold f_X8_feast_225 at h
  refine lv_iconst (v := 0) hx hb dX8_feast_225 (by decide) ?_
  exact w_X8_feast_226 C hk125 h hA (lv_sub hl [0, 1, 2, 3, 4, 5, 6, 7] rfl)
set_option maxHeartbeats 4000000 in
set_option maxRecDepth 100000 in
theorem w_X8_feast_193 {σ : SS} {x1 : Int32} {x2 : Int32} {x3 : Int32} {x4 : Int32} {x7 : Int32} {x10 : Int32} {x11 : Int32} {y0 : Int64} {y1 : Int64} (C : Cx p l s m args meth c cX8_feast 12 wsX8_feast (some .int) RX8 g A) {k125 : SS → (Int32 × Int32 × Int32 × Int32 × Int32 × Int64 × Int32 × Int32) → Option (Int32 × SS)} (hk125 : ∀ (σ : SS) (x : Int32 × Int32 × Int32 × Int32 × Int32 × Int64 × Int32 × Int32), k125 σ x = some R → ∀ (H : Heap) (locs : List Loc) (ls : Array Slot), Aw g A s.heap (wM g σ) H locs → lv_has ls 12 [(0, .ref (g.2.1 0)), (1, .int x.1), (2, .int x.2.1), (3, .int x.2.2.1), (4, .int x.2.2.2.1), (7, .int x.2.2.2.2.1), (8, .long x.2.2.2.2.2.1), (10, .int x.2.2.2.2.2.2.1), (11, .int x.2.2.2.2.2.2.2)] → W p l e rmX8_feast s m args below meth c H locs 0 0 (MQ below (Qi g A (wM g R.2) R.1) args s 0 0 A) (F0 m 125 ls [])) (h : f_X8_feast_193 fu k125 σ x1 x2 x3 x4 x7 x10 x11 y0 y1 = some R) {H : Heap} {locs : List Loc} {ls : Array Slot} (hA : Aw g A s.heap (wM g σ) H locs) (hl : lv_has ls 12 [(0, .ref (g.2.1 0)), (1, .int x1), (2, .int x2), (3, .int x3), (4, .int x4), (7, .int x7), (10, .int x10), (11, .int x11)]) : W p l e rmX8_feast s m args below meth c H locs 0 0 (MQ below (Qi g A (wM g R.2) R.1) args s 0 0 A) (F0 m 193 ls [.long y0, .long y1]) := by
  have hx := C.1.1
  have hb := C.1.2.1
  unfold f_X8_feast_193 at h
  refine lv_ladd hx hb dX8_feast_193 ?_
  refine lv_lstore (lv' := [(8, .long (y1 + y0)), (0, .ref (g.2.1 0)), (1, .int x1), (2, .int x2), (3, .int x3), (4, .int x4), (7, .int x7), (10, .int x10), (11, .int x11)]) hx hb dX8_feast_194 hl (by decide) rfl (fun ls hl => ?_)
  refine lv_iload hx hb dX8_feast_196 (lv_at hl 7 rfl) ?_
  refine lv_iload_n hx hb dX8_feast_198 rfl (lv_at hl 3 rfl) ?_
  refine lv_iload hx hb dX8_feast_199 (lv_at hl 8 rfl) ?_
  obtain ⟨r1, hc2, h⟩ := bd1 h
  refine r_callSi (r := r1) (w1 := wM g σ) (As := [.int x2, .int x11]) (rest := [.int x10]) C hA hl.1 (k_X8_isIn (g := g) C.2.2.2.2.2.2 hc2) (va_cwS 2 C.1.2.2.2.2 gX8_feast_X8_isIn rfl rfl rfl nd_X8_isIn ⟨Nat.le_of_ble_eq_true rfl, Nat.le_of_ble_eq_true rfl⟩) rfl rfl (Nat.le_of_ble_eq_true rfl) dX8_feast_201 ⟨Nat.le_of_ble_eq_true rfl, Nat.le_of_ble_eq_true rfl⟩ (fun H locs hA => ?_)
  refine lv_if_eq (tgt := 225) hx hb dX8_feast_204 (by decide) (fun c3 => ?_) (fun c3 => ?_)
  · replace h := (if_pos c3).symm.trans h
    exact w_X8_feast_225 C hk125 h hA (lv_sub hl [1, 2, 3, 4, 5, 6, 0, 8] rfl)
  · replace h := (if_neg c3).symm.trans h
    refine lv_aload_n hx hb dX8_feast_207 rfl (lv_at hl 1 rfl) ?_
    refine lv_iload_n hx hb dX8_feast_208 rfl (lv_at hl 2 rfl) ?_
    refine lv_iload hx hb dX8_feast_209 (lv_at hl 8 rfl) ?_
    refine lv_iload_n hx hb dX8_feast_211 rfl (lv_at hl 4 rfl) ?_
    refine lv_i2l hx hb dX8_feast_212 rfl ?_
    obtain ⟨r4, hc5, h⟩ := bd1 h
    refine r_callVl (r := r4) (w1 := wM g σ) (As := [.int x1, .int x11, .long (x3).toInt64]) (rest := [.int x10]) C hA hl.1 (k_X8_madeOf C.2.2.2.2.2.2 hc5) (cwV 3 C.1.2.2.2.2 gX8_feast_X8_madeOf rfl rfl rfl nd_X8_madeOf ⟨Nat.le_of_ble_eq_true rfl, Nat.le_of_ble_eq_true rfl⟩) 0 rfl rfl rfl rfl (Nat.le_of_ble_eq_true rfl) dX8_feast_213 ⟨Nat.le_of_ble_eq_true rfl, Nat.le_of_ble_eq_true rfl⟩ (fun H locs hA => ?_)
    refine lv_lconst (v := 0) hx hb dX8_feast_216 (by decide) ?_
    refine W.lcmp hx hb dX8_feast_217 ?_
    refine lv_if_le (tgt := 225) hx hb dX8_feast_218 (by decide) (fun c6 => ?_) (fun c6 => ?_)
    · replace h := (if_pos c6).symm.trans h
      exact w_X8_feast_225 C hk125 h hA (lv_sub hl [1, 2, 3, 4, 5, 6, 0, 8] rfl)
    · replace h := (if_neg c6).symm.trans h
      refine lv_iconst (v := 1) hx hb dX8_feast_221 (by decide) ?_
      refine lv_goto (tgt := 226) hx hb dX8_feast_222 (by decide) ?_
      exact w_X8_feast_226 C hk125 h hA (lv_sub hl [1, 2, 3, 4, 5, 6, 0, 8] rfl)
set_option maxHeartbeats 4000000 in
set_option maxRecDepth 100000 in
theorem w_X8_feast_169 {σ : SS} {x1 : Int32} {x2 : Int32} {x3 : Int32} {x4 : Int32} {x8 : Int64} {x10 : Int32} {x11 : Int32} {y0 : Int32} (C : Cx p l s m args meth c cX8_feast 12 wsX8_feast (some .int) RX8 g A) {k125 : SS → (Int32 × Int32 × Int32 × Int32 × Int32 × Int64 × Int32 × Int32) → Option (Int32 × SS)} (hk125 : ∀ (σ : SS) (x : Int32 × Int32 × Int32 × Int32 × Int32 × Int64 × Int32 × Int32), k125 σ x = some R → ∀ (H : Heap) (locs : List Loc) (ls : Array Slot), Aw g A s.heap (wM g σ) H locs → lv_has ls 12 [(0, .ref (g.2.1 0)), (1, .int x.1), (2, .int x.2.1), (3, .int x.2.2.1), (4, .int x.2.2.2.1), (7, .int x.2.2.2.2.1), (8, .long x.2.2.2.2.2.1), (10, .int x.2.2.2.2.2.2.1), (11, .int x.2.2.2.2.2.2.2)] → W p l e rmX8_feast s m args below meth c H locs 0 0 (MQ below (Qi g A (wM g R.2) R.1) args s 0 0 A) (F0 m 125 ls [])) (h : f_X8_feast_169 fu k125 σ x1 x2 x3 x4 x8 x10 x11 y0 = some R) {H : Heap} {locs : List Loc} {ls : Array Slot} (hA : Aw g A s.heap (wM g σ) H locs) (hl : lv_has ls 12 [(0, .ref (g.2.1 0)), (1, .int x1), (2, .int x2), (3, .int x3), (4, .int x4), (8, .long x8), (10, .int x10), (11, .int x11)]) : W p l e rmX8_feast s m args below meth c H locs 0 0 (MQ below (Qi g A (wM g R.2) R.1) args s 0 0 A) (F0 m 169 ls [.int y0]) := by
  have hx := C.1.1
  have hb := C.1.2.1
  unfold f_X8_feast_169 at h
  refine lv_istore (lv' := [(7, .int y0), (0, .ref (g.2.1 0)), (1, .int x1), (2, .int x2), (3, .int x3), (4, .int x4), (8, .long x8), (10, .int x10), (11, .int x11)]) hx hb dX8_feast_169 hl (by decide) rfl (fun ls hl => ?_)
  refine lv_lload hx hb dX8_feast_171 (lv_at hl 6 rfl) ?_
  refine lv_iload_n hx hb dX8_feast_173 rfl (lv_at hl 3 rfl) ?_
  refine lv_iload hx hb dX8_feast_174 (lv_at hl 8 rfl) ?_
  obtain ⟨r1, hc2, h⟩ := bd1 h
  refine r_callSi (r := r1) (w1 := wM g σ) (As := [.int x2, .int x11]) (rest := [.long x8]) C hA hl.1 (k_X8_isIn (g := g) C.2.2.2.2.2.2 hc2) (va_cwS 2 C.1.2.2.2.2 gX8_feast_X8_isIn rfl rfl rfl nd_X8_isIn ⟨Nat.le_of_ble_eq_true rfl, Nat.le_of_ble_eq_true rfl⟩) rfl rfl (Nat.le_of_ble_eq_true rfl) dX8_feast_176 ⟨Nat.le_of_ble_eq_true rfl, Nat.le_of_ble_eq_true rfl⟩ (fun H locs hA => ?_)
  refine lv_if_eq (tgt := 187) hx hb dX8_feast_179 (by decide) (fun c3 => ?_) (fun c3 => ?_)
  · replace h := (if_pos c3).symm.trans h
    refine lv_aload_n hx hb dX8_feast_187 rfl (lv_at hl 1 rfl) ?_
    refine lv_iconst (v := 5) hx hb dX8_feast_188 (by decide) ?_
    obtain ⟨r4, hc5, h⟩ := bd1 h
    refine r_callVi (r := r4) (w1 := wM g σ) (As := [.int (5 : Int32)]) (rest := [.long x8]) C hA hl.1 (k_X8_term C.2.2.2.2.2.2 hc5) (cwV 1 C.1.2.2.2.2 gX8_feast_X8_term rfl rfl rfl nd_X8_term ⟨Nat.le_of_ble_eq_true rfl, Nat.le_of_ble_eq_true rfl⟩) 0 rfl rfl rfl rfl (Nat.le_of_ble_eq_true rfl) dX8_feast_189 ⟨Nat.le_of_ble_eq_true rfl, Nat.le_of_ble_eq_true rfl⟩ (fun H locs hA => ?_)
    refine lv_i2l hx hb dX8_feast_192 rfl ?_
    exact w_X8_feast_193 C hk125 h hA (lv_sub hl [1, 2, 3, 4, 5, 0, 7, 8] rfl)
  · replace h := (if_neg c3).symm.trans h
    refine lv_iload_n hx hb dX8_feast_182 rfl (lv_at hl 4 rfl) ?_
    refine lv_i2l hx hb dX8_feast_183 rfl ?_
    refine lv_goto (tgt := 193) hx hb dX8_feast_184 (by decide) ?_
    exact w_X8_feast_193 C hk125 h hA (lv_sub hl [1, 2, 3, 4, 5, 0, 7, 8] rfl)
set_option maxHeartbeats 4000000 in
set_option maxRecDepth 100000 in
theorem w_X8_feast_164 {σ : SS} {x1 : Int32} {x2 : Int32} {x3 : Int32} {x4 : Int32} {x8 : Int64} {x10 : Int32} {x11 : Int32} (C : Cx p l s m args meth c cX8_feast 12 wsX8_feast (some .int) RX8 g A) {k125 : SS → (Int32 × Int32 × Int32 × Int32 × Int32 × Int64 × Int32 × Int32) → Option (Int32 × SS)} (hk125 : ∀ (σ : SS) (x : Int32 × Int32 × Int32 × Int32 × Int32 × Int64 × Int32 × Int32), k125 σ x = some R → ∀ (H : Heap) (locs : List Loc) (ls : Array Slot), Aw g A s.heap (wM g σ) H locs → lv_has ls 12 [(0, .ref (g.2.1 0)), (1, .int x.1), (2, .int x.2.1), (3, .int x.2.2.1), (4, .int x.2.2.2.1), (7, .int x.2.2.2.2.1), (8, .long x.2.2.2.2.2.1), (10, .int x.2.2.2.2.2.2.1), (11, .int x.2.2.2.2.2.2.2)] → W p l e rmX8_feast s m args below meth c H locs 0 0 (MQ below (Qi g A (wM g R.2) R.1) args s 0 0 A) (F0 m 125 ls [])) (h : f_X8_feast_164 fu k125 σ x1 x2 x3 x4 x8 x10 x11 = some R) {H : Heap} {locs : List Loc} {ls : Array Slot} (hA : Aw g A s.heap (wM g σ) H locs) (hl : lv_has ls 12 [(0, .ref (g.2.1 0)), (1, .int x1), (2, .int x2), (3, .int x3), (4, .int x4), (8, .long x8), (10, .int x10), (11, .int x11)]) : W p l e rmX8_feast s m args below meth c H locs 0 0 (MQ below (Qi g A (wM g R.2) R.1) args s 0 0 A) (F0 m 164 ls []) := by
  have hx := C.1.1
  have hb := C.1.2.1
  unfold f_X8_feast_164 at h
  refine lv_iconst (v := 1) hx hb dX8_feast_164 (by decide) ?_
  refine lv_goto (tgt := 169) hx hb dX8_feast_165 (by decide) ?_
  exact w_X8_feast_169 C hk125 h hA (lv_sub hl [0, 1, 2, 3, 4, 5, 6, 7] rfl)
set_option maxHeartbeats 4000000 in
set_option maxRecDepth 100000 in
theorem w_X8_feast_125 {σ : SS} {x1 : Int32} {x2 : Int32} {x3 : Int32} {x4 : Int32} {x7 : Int32} {x8 : Int64} {x10 : Int32} {x11 : Int32} (C : Cx p l s m args meth c cX8_feast 12 wsX8_feast (some .int) RX8 g A) {k125 : SS → (Int32 × Int32 × Int32 × Int32 × Int32 × Int64 × Int32 × Int32) → Option (Int32 × SS)} (hk125 : ∀ (σ : SS) (x : Int32 × Int32 × Int32 × Int32 × Int32 × Int64 × Int32 × Int32), k125 σ x = some R → ∀ (H : Heap) (locs : List Loc) (ls : Array Slot), Aw g A s.heap (wM g σ) H locs → lv_has ls 12 [(0, .ref (g.2.1 0)), (1, .int x.1), (2, .int x.2.1), (3, .int x.2.2.1), (4, .int x.2.2.2.1), (7, .int x.2.2.2.2.1), (8, .long x.2.2.2.2.2.1), (10, .int x.2.2.2.2.2.2.1), (11, .int x.2.2.2.2.2.2.2)] → W p l e rmX8_feast s m args below meth c H locs 0 0 (MQ below (Qi g A (wM g R.2) R.1) args s 0 0 A) (F0 m 125 ls [])) (h : f_X8_feast_125 fu k125 σ x1 x2 x3 x4 x7 x8 x10 x11 = some R) {H : Heap} {locs : List Loc} {ls : Array Slot} (hA : Aw g A s.heap (wM g σ) H locs) (hl : lv_has ls 12 [(0, .ref (g.2.1 0)), (1, .int x1), (2, .int x2), (3, .int x3), (4, .int x4), (7, .int x7), (8, .long x8), (10, .int x10), (11, .int x11)]) : W p l e rmX8_feast s m args below meth c H locs 0 0 (MQ below (Qi g A (wM g R.2) R.1) args s 0 0 A) (F0 m 125 ls []) := by
  have hx := C.1.1
  have hb := C.1.2.1
  unfold f_X8_feast_125 at h
  refine lv_iload hx hb dX8_feast_125 (lv_at hl 8 rfl) ?_
  refine lv_aload_n hx hb dX8_feast_127 rfl (lv_at hl 0 rfl) ?_
  refine Mg_X8_chiefs (v := (σ.1 4)) C hA rfl iX8_feast_X8 (by decide +kernel) dX8_feast_128 ?_
  refine lv_icmp_ge (tgt := 235) hx hb dX8_feast_131 (by decide) (fun c1 => ?_) (fun c1 => ?_)
  · replace h := (if_pos c1).symm.trans h
    refine lv_aload_n hx hb dX8_feast_235 rfl (lv_at hl 0 rfl) ?_
    refine lv_iload hx hb dX8_feast_236 (lv_at hl 5 rfl) ?_
    refine lv_iconst (v := 3) hx hb dX8_feast_238 (by decide) ?_
    obtain ⟨r2, t4, hc3, h⟩ := bd h
    refine r_callVi (r := r2) (w1 := wM g t4) (As := [.int x7, .int (3 : Int32)]) (rest := []) C hA hl.1 (k_X8_bad C.2.2.2.2.2.2 hc3) (cwV 2 C.1.2.2.2.2 gX8_feast_X8_bad rfl rfl rfl nd_X8_bad ⟨Nat.le_of_ble_eq_true rfl, Nat.le_of_ble_eq_true rfl⟩) 0 rfl rfl rfl rfl (Nat.le_of_ble_eq_true rfl) dX8_feast_239 ⟨Nat.le_of_ble_eq_true rfl, Nat.le_of_ble_eq_true rfl⟩ (fun H locs hA => ?_)
    refine lv_if_eq (tgt := 247) hx hb dX8_feast_242 (by decide) (fun c5 => ?_) (fun c5 => ?_)
    · replace h := (if_pos c5).symm.trans h
      refine lv_lload hx hb dX8_feast_247 (lv_at hl 6 rfl) ?_
      refine lv_aload_n hx hb dX8_feast_249 rfl (lv_at hl 0 rfl) ?_
      refine Mg_X8_blankets C hA iX8_feast_X8 (by decide +kernel) dX8_feast_250 ?_
      refine lv_iload_n hx hb dX8_feast_253 rfl (lv_at hl 1 rfl) ?_
      obtain ⟨g6, h⟩ := gd h
      refine Mld_1 (v := (t4.2.1 1 (x1).toNatClampNeg)) C hA rfl g6 dX8_feast_254 ?_
      refine lv_i2l hx hb dX8_feast_255 rfl ?_
      refine W.lcmp hx hb dX8_feast_256 ?_
      refine lv_if_le (tgt := 262) hx hb dX8_feast_257 (by decide) (fun c7 => ?_) (fun c7 => ?_)
      · replace h := (if_pos c7).symm.trans h
        refine lv_aload_n hx hb dX8_feast_262 rfl (lv_at hl 0 rfl) ?_
        refine Mg_X8_debts (v := (t4.1 20)) C hA rfl iX8_feast_X8 (by decide +kernel) dX8_feast_263 ?_
        refine lv_iload hx hb dX8_feast_266 (lv_at hl 7 rfl) ?_
        refine lv_iadd hx hb dX8_feast_268 ?_
        refine lv_sipush (v := 400) hx hb dX8_feast_269 (by decide) ?_
        refine lv_icmp_le (tgt := 278) hx hb dX8_feast_272 (by decide) (fun c8 => ?_) (fun c8 => ?_)
        · replace h := (if_pos c8).symm.trans h
          refine lv_aload_n hx hb dX8_feast_278 rfl (lv_at hl 0 rfl) ?_
          refine Mg_X8_blankets C hA iX8_feast_X8 (by decide +kernel) dX8_feast_279 ?_
          refine lv_iload_n hx hb dX8_feast_282 rfl (lv_at hl 1 rfl) ?_
          refine lv_dup2_11 hx hb dX8_feast_283 rfl rfl ?_
          refine Mld_1 (v := (t4.2.1 1 (x1).toNatClampNeg)) C hA rfl g6 dX8_feast_284 ?_
          refine lv_lload hx hb dX8_feast_285 (lv_at hl 6 rfl) ?_
          refine lv_l2i hx hb dX8_feast_287 rfl ?_
          refine lv_isub hx hb dX8_feast_288 ?_
          refine Mst_1 C hA g6 dX8_feast_289 (fun H locs hA => ?_)
          refine lv_iconst (v := 0) hx hb dX8_feast_290 (by decide) ?_
          refine lv_istore (lv' := [(11, .int (0 : Int32)), (0, .ref (g.2.1 0)), (1, .int x1), (2, .int x2), (3, .int x3), (4, .int x4), (7, .int x7), (8, .long x8), (10, .int x10)]) hx hb dX8_feast_291 hl (by decide) rfl (fun ls hl => ?_)
          exact w_X8_feast_L293 C h hA (lv_sub hl [1, 2, 3, 4, 5, 7, 0] rfl)
        · replace h := (if_neg c8).symm.trans h
          refine lv_bipush (v := (-2)) hx hb dX8_feast_275 (by decide) ?_
          obtain rfl := Option.some.inj h
          exact r_iret C hA dX8_feast_277
      · replace h := (if_neg c7).symm.trans h
        refine lv_iconst (v := (-1)) hx hb dX8_feast_260 (by decide) ?_
        obtain rfl := Option.some.inj h
        exact r_iret C hA dX8_feast_261
    · replace h := (if_neg c5).symm.trans h
      refine lv_iconst (v := 0) hx hb dX8_feast_245 (by decide) ?_
      obtain rfl := Option.some.inj h
      exact r_iret C hA dX8_feast_246
  · replace h := (if_neg c1).symm.trans h
    refine lv_iload_n hx hb dX8_feast_134 rfl (lv_at hl 2 rfl) ?_
    refine lv_iload hx hb dX8_feast_135 (lv_at hl 4 rfl) ?_
    refine lv_ior hx hb dX8_feast_137 ?_
    refine lv_iload hx hb dX8_feast_138 (lv_at hl 8 rfl) ?_
    obtain ⟨r9, hc10, h⟩ := bd1 h
    refine r_callSi (r := r9) (w1 := wM g σ) (As := [.int (x2 ||| x4), .int x11]) (rest := []) C hA hl.1 (k_X8_isIn (g := g) C.2.2.2.2.2.2 hc10) (va_cwS 2 C.1.2.2.2.2 gX8_feast_X8_isIn rfl rfl rfl nd_X8_isIn ⟨Nat.le_of_ble_eq_true rfl, Nat.le_of_ble_eq_true rfl⟩) rfl rfl (Nat.le_of_ble_eq_true rfl) dX8_feast_140 ⟨Nat.le_of_ble_eq_true rfl, Nat.le_of_ble_eq_true rfl⟩ (fun H locs hA => ?_)
    refine lv_if_ne (tgt := 149) hx hb dX8_feast_143 (by decide) (fun c11 => ?_) (fun c11 => ?_)
    · replace h := (if_neg c11).symm.trans h
      refine lv_iload hx hb dX8_feast_149 (lv_at hl 5 rfl) ?_
      refine lv_if_ne (tgt := 164) hx hb dX8_feast_151 (by decide) (fun c12 => ?_) (fun c12 => ?_)
      · replace h := (if_neg c12).symm.trans h
        exact w_X8_feast_164 C hk125 h hA (lv_sub hl [0, 1, 2, 3, 4, 6, 7, 8] rfl)
      · replace h := (if_pos c12).symm.trans h
        refine lv_aload_n hx hb dX8_feast_154 rfl (lv_at hl 0 rfl) ?_
        refine Mg_X8_isDead C hA iX8_feast_X8 (by decide +kernel) dX8_feast_155 ?_
        refine lv_iload hx hb dX8_feast_158 (lv_at hl 8 rfl) ?_
        obtain ⟨g13, h⟩ := gd h
        refine Mld_3 (v := (σ.2.1 3 (x11).toNatClampNeg)) C hA rfl g13 dX8_feast_160 ?_
        refine lv_if_eq (tgt := 168) hx hb dX8_feast_161 (by decide) (fun c14 => ?_) (fun c14 => ?_)
        · replace h := (if_pos c14).symm.trans h
          refine lv_iconst (v := 0) hx hb dX8_feast_168 (by decide) ?_
          exact w_X8_feast_169 C hk125 h hA (lv_sub hl [0, 1, 2, 3, 4, 6, 7, 8] rfl)
        · replace h := (if_neg c14).symm.trans h
          exact w_X8_feast_164 C hk125 h hA (lv_sub hl [0, 1, 2, 3, 4, 6, 7, 8] rfl)
    · replace h := (if_pos c11).symm.trans h
      refine lv_goto (tgt := 229) hx hb dX8_feast_146 (by decide) ?_
      exact w_X8_feast_229 C hk125 h hA (lv_sub hl [0, 1, 2, 3, 4, 5, 6, 7, 8] rfl)
set_option maxHeartbeats 4000000 in
theorem w_X8_feast_L125 {σ : SS} {x : Int32 × Int32 × Int32 × Int32 × Int32 × Int64 × Int32 × Int32} (C : Cx p l s m args meth c cX8_feast 12 wsX8_feast (some .int) RX8 g A) (h : f_X8_feast_L125 fu σ x = some R) {H : Heap} {locs : List Loc} {ls : Array Slot} (hA : Aw g A s.heap (wM g σ) H locs) (hl : lv_has ls 12 [(0, .ref (g.2.1 0)), (1, .int x.1), (2, .int x.2.1), (3, .int x.2.2.1), (4, .int x.2.2.2.1), (7, .int x.2.2.2.2.1), (8, .long x.2.2.2.2.2.1), (10, .int x.2.2.2.2.2.2.1), (11, .int x.2.2.2.2.2.2.2)]) : W p l e rmX8_feast s m args below meth c H locs 0 0 (MQ below (Qi g A (wM g R.2) R.1) args s 0 0 A) (F0 m 125 ls []) := by
  refine loopW (P := fun σ x => ∀ (H : Heap) (locs : List Loc) (ls : Array Slot), Aw g A s.heap (wM g σ) H locs → lv_has ls 12 [(0, .ref (g.2.1 0)), (1, .int x.1), (2, .int x.2.1), (3, .int x.2.2.1), (4, .int x.2.2.2.1), (7, .int x.2.2.2.2.1), (8, .long x.2.2.2.2.2.1), (10, .int x.2.2.2.2.2.2.1), (11, .int x.2.2.2.2.2.2.2)] → W p l e rmX8_feast s m args below meth c H locs 0 0 (MQ below (Qi g A (wM g R.2) R.1) args s 0 0 A) (F0 m 125 ls [])) (fun k hk σ x h9 H locs ls hA9 hl9 => ?_) fu σ x h H locs ls hA hl
  exact w_X8_feast_125 C hk h9 hA9 hl9
set_option maxHeartbeats 4000000 in
set_option maxRecDepth 100000 in
theorem w_X8_feast_94 {σ : SS} {x1 : Int32} {x2 : Int32} {x3 : Int32} {x4 : Int32} {y0 : Int32} (C : Cx p l s m args meth c cX8_feast 12 wsX8_feast (some .int) RX8 g A) (h : f_X8_feast_94 fu σ x1 x2 x3 x4 y0 = some R) {H : Heap} {locs : List Loc} {ls : Array Slot} (hA : Aw g A s.heap (wM g σ) H locs) (hl : lv_has ls 12 [(0, .ref (g.2.1 0)), (1, .int x1), (2, .int x2), (3, .int x3), (4, .int x4)]) : W p l e rmX8_feast s m args below meth c H locs 0 0 (MQ below (Qi g A (wM g R.2) R.1) args s 0 0 A) (F0 m 94 ls [.int y0]) := by
  have hx := C.1.1
  have hb := C.1.2.1
  unfold f_X8_feast_94 at h
  refine lv_istore (lv' := [(6, .int y0), (0, .ref (g.2.1 0)), (1, .int x1), (2, .int x2), (3, .int x3), (4, .int x4)]) hx hb dX8_feast_94 hl (by decide) rfl (fun ls hl => ?_)
  refine lv_aload_n hx hb dX8_feast_96 rfl (lv_at hl 1 rfl) ?_
  refine lv_iload hx hb dX8_feast_97 (lv_at hl 0 rfl) ?_
  refine lv_iconst (v := 2) hx hb dX8_feast_99 (by decide) ?_
  obtain ⟨r1, t3, hc2, h⟩ := bd h
  refine r_callVi (r := r1) (w1 := wM g t3) (As := [.int y0, .int (2 : Int32)]) (rest := []) C hA hl.1 (k_X8_bad C.2.2.2.2.2.2 hc2) (cwV 2 C.1.2.2.2.2 gX8_feast_X8_bad rfl rfl rfl nd_X8_bad ⟨Nat.le_of_ble_eq_true rfl, Nat.le_of_ble_eq_true rfl⟩) 0 rfl rfl rfl rfl (Nat.le_of_ble_eq_true rfl) dX8_feast_100 ⟨Nat.le_of_ble_eq_true rfl, Nat.le_of_ble_eq_true rfl⟩ (fun H locs hA => ?_)
  refine lv_if_eq (tgt := 108) hx hb dX8_feast_103 (by decide) (fun c4 => ?_) (fun c4 => ?_)
  · replace h := (if_pos c4).symm.trans h
    refine lv_aload_n hx hb dX8_feast_108 rfl (lv_at hl 1 rfl) ?_
    refine Mg_X8_isDead C hA iX8_feast_X8 (by decide +kernel) dX8_feast_109 ?_
    refine lv_iload_n hx hb dX8_feast_112 rfl (lv_at hl 2 rfl) ?_
    obtain ⟨g5, h⟩ := gd h
    refine Mld_3 (v := (t3.2.1 3 (x1).toNatClampNeg)) C hA rfl g5 dX8_feast_113 ?_
    refine lv_istore (lv' := [(7, .int (t3.2.1 3 (x1).toNatClampNeg)), (6, .int y0), (0, .ref (g.2.1 0)), (1, .int x1), (2, .int x2), (3, .int x3), (4, .int x4)]) hx hb dX8_feast_114 hl (by decide) rfl (fun ls hl => ?_)
    refine lv_lconst (v := 0) hx hb dX8_feast_116 (by decide) ?_
    refine lv_lstore (lv' := [(8, .long (0 : Int64)), (7, .int (t3.2.1 3 (x1).toNatClampNeg)), (6, .int y0), (0, .ref (g.2.1 0)), (1, .int x1), (2, .int x2), (3, .int x3), (4, .int x4)]) hx hb dX8_feast_117 hl (by decide) rfl (fun ls hl => ?_)
    refine lv_iconst (v := 0) hx hb dX8_feast_119 (by decide) ?_
    refine lv_istore (lv' := [(10, .int (0 : Int32)), (8, .long (0 : Int64)), (7, .int (t3.2.1 3 (x1).toNatClampNeg)), (6, .int y0), (0, .ref (g.2.1 0)), (1, .int x1), (2, .int x2), (3, .int x3), (4, .int x4)]) hx hb dX8_feast_120 hl (by decide) rfl (fun ls hl => ?_)
    refine lv_iconst (v := 0) hx hb dX8_feast_122 (by decide) ?_
    refine lv_istore (lv' := [(11, .int (0 : Int32)), (10, .int (0 : Int32)), (8, .long (0 : Int64)), (7, .int (t3.2.1 3 (x1).toNatClampNeg)), (6, .int y0), (0, .ref (g.2.1 0)), (1, .int x1), (2, .int x2), (3, .int x3), (4, .int x4)]) hx hb dX8_feast_123 hl (by decide) rfl (fun ls hl => ?_)
    exact w_X8_feast_L125 C h hA (lv_sub hl [5, 6, 7, 8, 9, 3, 2, 1, 0] rfl)
  · replace h := (if_neg c4).symm.trans h
    refine lv_iconst (v := 0) hx hb dX8_feast_106 (by decide) ?_
    obtain rfl := Option.some.inj h
    exact r_iret C hA dX8_feast_107
set_option maxHeartbeats 4000000 in
set_option maxRecDepth 100000 in
theorem w_X8_feast_89 {σ : SS} {x1 : Int32} {x2 : Int32} {x3 : Int32} {x4 : Int32} (C : Cx p l s m args meth c cX8_feast 12 wsX8_feast (some .int) RX8 g A) (h : f_X8_feast_89 fu σ x1 x2 x3 x4 = some R) {H : Heap} {locs : List Loc} {ls : Array Slot} (hA : Aw g A s.heap (wM g σ) H locs) (hl : lv_has ls 12 [(0, .ref (g.2.1 0)), (1, .int x1), (2, .int x2), (3, .int x3), (4, .int x4)]) : W p l e rmX8_feast s m args below meth c H locs 0 0 (MQ below (Qi g A (wM g R.2) R.1) args s 0 0 A) (F0 m 89 ls []) := by
  have hx := C.1.1
  have hb := C.1.2.1
  unfold f_X8_feast_89 at h
  refine lv_iconst (v := 1) hx hb dX8_feast_89 (by decide) ?_
  refine lv_goto (tgt := 94) hx hb dX8_feast_90 (by decide) ?_
  exact w_X8_feast_94 C h hA (lv_sub hl [0, 1, 2, 3, 4] rfl)
set_option maxHeartbeats 4000000 in
set_option maxRecDepth 100000 in
theorem w_X8_feast_19 {σ : SS} {x1 : Int32} {x2 : Int32} {x3 : Int32} {x4 : Int32} {y0 : Int32} (C : Cx p l s m args meth c cX8_feast 12 wsX8_feast (some .int) RX8 g A) (h : f_X8_feast_19 fu σ x1 x2 x3 x4 y0 = some R) {H : Heap} {locs : List Loc} {ls : Array Slot} (hA : Aw g A s.heap (wM g σ) H locs) (hl : lv_has ls 12 [(0, .ref (g.2.1 0)), (1, .int x1), (2, .int x2), (3, .int x3), (4, .int x4)]) : W p l e rmX8_feast s m args below meth c H locs 0 0 (MQ below (Qi g A (wM g R.2) R.1) args s 0 0 A) (F0 m 19 ls [.int y0, .ref (g.2.1 0)]) := by
  have hx := C.1.1
  have hb := C.1.2.1
  unfold f_X8_feast_19 at h
  refine lv_iconst (v := 1) hx hb dX8_feast_19 (by decide) ?_
  obtain ⟨r1, t3, hc2, h⟩ := bd h
  refine r_callVi (r := r1) (w1 := wM g t3) (As := [.int y0, .int (1 : Int32)]) (rest := []) C hA hl.1 (k_X8_bad C.2.2.2.2.2.2 hc2) (cwV 2 C.1.2.2.2.2 gX8_feast_X8_bad rfl rfl rfl nd_X8_bad ⟨Nat.le_of_ble_eq_true rfl, Nat.le_of_ble_eq_true rfl⟩) 0 rfl rfl rfl rfl (Nat.le_of_ble_eq_true rfl) dX8_feast_20 ⟨Nat.le_of_ble_eq_true rfl, Nat.le_of_ble_eq_true rfl⟩ (fun H locs hA => ?_)
  refine lv_if_eq (tgt := 28) hx hb dX8_feast_23 (by decide) (fun c4 => ?_) (fun c4 => ?_)
  · replace h := (if_pos c4).symm.trans h
    refine lv_iconst (v := 1) hx hb dX8_feast_28 (by decide) ?_
    refine lv_aload_n hx hb dX8_feast_29 rfl (lv_at hl 0 rfl) ?_
    refine Mg_X8_chiefs (v := (t3.1 4)) C hA rfl iX8_feast_X8 (by decide +kernel) dX8_feast_30 ?_
    refine lv_ishl hx hb dX8_feast_33 ?_
    refine lv_iconst (v := 1) hx hb dX8_feast_34 (by decide) ?_
    refine lv_isub hx hb dX8_feast_35 ?_
    refine lv_istore (lv' := [(5, .int (((1 : Int32) <<< ((t3.1 4) &&& 31)) - (1 : Int32))), (0, .ref (g.2.1 0)), (1, .int x1), (2, .int x2), (3, .int x3), (4, .int x4)]) hx hb dX8_feast_36 hl (by decide) rfl (fun ls hl => ?_)
    refine lv_iload_n hx hb dX8_feast_38 rfl (lv_at hl 3 rfl) ?_
    refine lv_if_lt (tgt := 89) hx hb dX8_feast_39 (by decide) (fun c5 => ?_) (fun c5 => ?_)
    · replace h := (if_pos c5).symm.trans h
      exact w_X8_feast_89 C h hA (lv_sub hl [1, 2, 3, 4, 5] rfl)
    · replace h := (if_neg c5).symm.trans h
      refine lv_iload hx hb dX8_feast_42 (lv_at hl 5 rfl) ?_
      refine lv_if_lt (tgt := 89) hx hb dX8_feast_44 (by decide) (fun c6 => ?_) (fun c6 => ?_)
      · replace h := (if_pos c6).symm.trans h
        exact w_X8_feast_89 C h hA (lv_sub hl [1, 2, 3, 4, 5] rfl)
      · replace h := (if_neg c6).symm.trans h
        refine lv_iload_n hx hb dX8_feast_47 rfl (lv_at hl 3 rfl) ?_
        refine lv_iload hx hb dX8_feast_48 (lv_at hl 0 rfl) ?_
        refine lv_icmp_gt (tgt := 89) hx hb dX8_feast_50 (by decide) (fun c7 => ?_) (fun c7 => ?_)
        · replace h := (if_pos c7).symm.trans h
          exact w_X8_feast_89 C h hA (lv_sub hl [1, 2, 3, 4, 5] rfl)
        · replace h := (if_neg c7).symm.trans h
          refine lv_iload hx hb dX8_feast_53 (lv_at hl 5 rfl) ?_
          refine lv_iload hx hb dX8_feast_55 (lv_at hl 0 rfl) ?_
          refine lv_icmp_gt (tgt := 89) hx hb dX8_feast_57 (by decide) (fun c8 => ?_) (fun c8 => ?_)
          · replace h := (if_pos c8).symm.trans h
            exact w_X8_feast_89 C h hA (lv_sub hl [1, 2, 3, 4, 5] rfl)
          · replace h := (if_neg c8).symm.trans h
            refine lv_iload_n hx hb dX8_feast_60 rfl (lv_at hl 3 rfl) ?_
            refine lv_iload hx hb dX8_feast_61 (lv_at hl 5 rfl) ?_
            refine lv_ior hx hb dX8_feast_63 ?_
            refine lv_iload_n hx hb dX8_feast_64 rfl (lv_at hl 2 rfl) ?_
            obtain ⟨r9, hc10, h⟩ := bd1 h
            refine r_callSi (r := r9) (w1 := wM g t3) (As := [.int (x2 ||| x4), .int x1]) (rest := []) C hA hl.1 (k_X8_isIn (g := g) C.2.2.2.2.2.2 hc10) (va_cwS 2 C.1.2.2.2.2 gX8_feast_X8_isIn rfl rfl rfl nd_X8_isIn ⟨Nat.le_of_ble_eq_true rfl, Nat.le_of_ble_eq_true rfl⟩) rfl rfl (Nat.le_of_ble_eq_true rfl) dX8_feast_65 ⟨Nat.le_of_ble_eq_true rfl, Nat.le_of_ble_eq_true rfl⟩ (fun H locs hA => ?_)
            refine lv_if_ne (tgt := 89) hx hb dX8_feast_68 (by decide) (fun c11 => ?_) (fun c11 => ?_)
            · replace h := (if_neg c11).symm.trans h
              exact w_X8_feast_89 C h hA (lv_sub hl [1, 2, 3, 4, 5] rfl)
            · replace h := (if_pos c11).symm.trans h
              refine lv_iload_n hx hb dX8_feast_71 rfl (lv_at hl 3 rfl) ?_
              refine lv_iload hx hb dX8_feast_72 (lv_at hl 5 rfl) ?_
              refine lv_iand hx hb dX8_feast_74 ?_
              refine lv_if_ne (tgt := 89) hx hb dX8_feast_75 (by decide) (fun c12 => ?_) (fun c12 => ?_)
              · replace h := (if_neg c12).symm.trans h
                exact w_X8_feast_89 C h hA (lv_sub hl [1, 2, 3, 4, 5] rfl)
              · replace h := (if_pos c12).symm.trans h
                refine lv_iload_n hx hb dX8_feast_78 rfl (lv_at hl 4 rfl) ?_
                refine lv_iconst (v := 1) hx hb dX8_feast_79 (by decide) ?_
                refine lv_icmp_lt (tgt := 89) hx hb dX8_feast_80 (by decide) (fun c13 => ?_) (fun c13 => ?_)
                · replace h := (if_pos c13).symm.trans h
                  exact w_X8_feast_89 C h hA (lv_sub hl [1, 2, 3, 4, 5] rfl)
                · replace h := (if_neg c13).symm.trans h
                  refine lv_iload_n hx hb dX8_feast_83 rfl (lv_at hl 4 rfl) ?_
                  refine lv_ldc (v := 100000) hx hb C.1.2.2.2.1 (C.1.2.2.2.2 (.constant RX8 205 (100000)) (by decide +kernel)) dX8_feast_84 ?_
                  refine lv_icmp_le (tgt := 93) hx hb dX8_feast_86 (by decide) (fun c14 => ?_) (fun c14 => ?_)
                  · replace h := (if_pos c14).symm.trans h
                    refine lv_iconst (v := 0) hx hb dX8_feast_93 (by decide) ?_
                    exact w_X8_feast_94 C h hA (lv_sub hl [1, 2, 3, 4, 5] rfl)
                  · replace h := (if_neg c14).symm.trans h
                    exact w_X8_feast_89 C h hA (lv_sub hl [1, 2, 3, 4, 5] rfl)
  · replace h := (if_neg c4).symm.trans h
    refine lv_iconst (v := 0) hx hb dX8_feast_26 (by decide) ?_
    obtain rfl := Option.some.inj h
    exact r_iret C hA dX8_feast_27
set_option maxHeartbeats 4000000 in
set_option maxRecDepth 100000 in
theorem w_X8_feast_0 {σ : SS} {x1 : Int32} {x2 : Int32} {x3 : Int32} {x4 : Int32} (C : Cx p l s m args meth c cX8_feast 12 wsX8_feast (some .int) RX8 g A) (h : f_X8_feast fu σ x1 x2 x3 x4 = some R) {H : Heap} {locs : List Loc} {ls : Array Slot} (hA : Aw g A s.heap (wM g σ) H locs) (hl : lv_has ls 12 [(0, .ref (g.2.1 0)), (1, .int x1), (2, .int x2), (3, .int x3), (4, .int x4)]) : W p l e rmX8_feast s m args below meth c H locs 0 0 (MQ below (Qi g A (wM g R.2) R.1) args s 0 0 A) (F0 m 0 ls []) := by
  have hx := C.1.1
  have hb := C.1.2.1
  unfold f_X8_feast at h
  refine lv_aload_n hx hb dX8_feast_0 rfl (lv_at hl 0 rfl) ?_
  refine lv_iconst (v := 0) hx hb dX8_feast_1 (by decide) ?_
  refine Mp_X8_thrown C hA iX8_feast_X8 (by decide +kernel) dX8_feast_2 (fun H locs hA => ?_)
  refine lv_aload_n hx hb dX8_feast_5 rfl (lv_at hl 0 rfl) ?_
  refine lv_aload_n hx hb dX8_feast_6 rfl (lv_at hl 0 rfl) ?_
  refine lv_iload_n hx hb dX8_feast_7 rfl (lv_at hl 1 rfl) ?_
  obtain ⟨r1, hc2, h⟩ := bd1 h
  refine r_callVi (r := r1) (w1 := wM g (sI σ 0 (0 : Int32))) (As := [.int x1]) (rest := [.ref (g.2.1 0)]) C hA hl.1 (k_X8_isChief C.2.2.2.2.2.2 hc2) (cwV 1 C.1.2.2.2.2 gX8_feast_X8_isChief rfl rfl rfl nd_X8_isChief ⟨Nat.le_of_ble_eq_true rfl, Nat.le_of_ble_eq_true rfl⟩) 0 rfl rfl rfl rfl (Nat.le_of_ble_eq_true rfl) dX8_feast_8 ⟨Nat.le_of_ble_eq_true rfl, Nat.le_of_ble_eq_true rfl⟩ (fun H locs hA => ?_)
  refine lv_if_ne (tgt := 18) hx hb dX8_feast_11 (by decide) (fun c3 => ?_) (fun c3 => ?_)
  · replace h := (if_neg c3).symm.trans h
    refine lv_iconst (v := 0) hx hb dX8_feast_18 (by decide) ?_
    exact w_X8_feast_19 C h hA (lv_sub hl [0, 1, 2, 3, 4] rfl)
  · replace h := (if_pos c3).symm.trans h
    refine lv_iconst (v := 1) hx hb dX8_feast_14 (by decide) ?_
    refine lv_goto (tgt := 19) hx hb dX8_feast_15 (by decide) ?_
    exact w_X8_feast_19 C h hA (lv_sub hl [0, 1, 2, 3, 4] rfl)
end
set_option maxRecDepth 100000 in
theorem k_X8_feast {l : Launch} {g : Gm} {fu : Nat} {σ : SS} {x1 : Int32} {x2 : Int32} {x3 : Int32} {x4 : Int32} {R : Int32 × SS} (hlt : l.stackTraces = false) (h : f_X8_feast fu σ x1 x2 x3 x4 = some R) (sz : Nat) : Met l yX8_feast wsX8_feast rmX8_feast (Pw g (wM g σ) [.ref (g.2.1 0), .int x1, .int x2, .int x3, .int x4] sz) (Qi g (va_A (wM g σ) sz) (wM g R.2) R.1) 0 0 (va_A (wM g σ) sz) :=
  ofM (own := RX8) hlt (by decide) rfl rfl (Nat.le_of_ble_eq_true rfl) (fun p e s m below meth c hsz C hA ls hl => w_X8_feast_0 C h hA hl)

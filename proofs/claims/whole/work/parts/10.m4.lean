abbrev rmX8_isWord : Room := { frames := 4, cells := 0, slots := 0, locals := 85 }
theorem iX8_isWord_X8 : ∀ x ∈ wsX80, x ∈ wsX8_isWord := by decide +kernel
theorem nd_X8_isWord : yX8_isWord.cls = RX8 ∧ yX8_isWord.cls ≠ "java/lang/invoke/MethodHandle" ∧ yX8_isWord.cls ≠ "java/lang/invoke/VarHandle" ∧ (parseMethodDescriptor yX8_isWord.desc).map (fun d => d.parameters.length) = some 1 := by decide +kernel
def f_X8_isWord_6 (fu : Nat) (k6 : SS → (Nat × Int32) → Option (Int32 × SS)) (σ : SS) (x1 : Nat) (x2 : Int32) : Option (Int32 × SS) :=
  if x1 < 4 then (if (nI (lenJ.getD x1 0)) ≤ x2 then bnd1 (f_X8_byteAt fu σ ((σ.1 9) + (nI (lenJ.getD x1 0)))) (fun r3 => bnd1 (f_X8_isSmall fu σ r3) (fun r5 => (if r5 = 0 then some ((1 : Int32), σ) else some ((0 : Int32), σ)))) else bnd1 (f_X8_byteAt fu σ ((σ.1 9) + x2)) (fun r8 => if inB x2 (lenJ.getD x1 0) then (if r8 = (chJ x1 x2) then k6 σ (x1, (x2 + 1)) else some ((0 : Int32), σ)) else none)) else none
def f_X8_isWord_L6 (fu : Nat) : SS → (Nat × Int32) → Option (Int32 × SS) := loopN (fun k6 σ x => f_X8_isWord_6 fu k6 σ x.1 x.2) fu
def f_X8_isWord (fu : Nat) (σ : SS) (x1 : Nat) : Option (Int32 × SS) :=
  bnd (f_X8_blanks fu σ) (fun r1 t3 => f_X8_isWord_L6 fu t3 (x1, (0 : Int32)))
section
variable {p : Program} {l : Launch} {e : Env} {s : State} {m : MethodId} {args : Array Value} {below : List Frame} {meth : Method} {c : Code} {g : Gm} {A : Nat → Prop} {fu : Nat} {R : Int32 × SS}
set_option maxHeartbeats 4000000 in
set_option maxRecDepth 100000 in
theorem w_X8_isWord_6 {σ : SS} {x1 : Nat} {x2 : Int32} (C : Cx p l s m args meth c cX8_isWord 3 wsX8_isWord (some .boolean) RX8 g A) {k6 : SS → (Nat × Int32) → Option (Int32 × SS)} (hk6 : ∀ (σ : SS) (x : Nat × Int32), k6 σ x = some R → ∀ (H : Heap) (locs : List Loc) (ls : Array Slot), Aw g A s.heap (wM g σ) H locs → lv_has ls 3 [(0, .ref (g.2.1 0)), (1, .ref (g.2.2.2.1 x.1)), (2, .int x.2)] → W p l e rmX8_isWord s m args below meth c H locs 0 0 (MQ below (Qi g A (wM g R.2) R.1) args s 0 0 A) (F0 m 6 ls [])) (h : f_X8_isWord_6 fu k6 σ x1 x2 = some R) {H : Heap} {locs : List Loc} {ls : Array Slot} (hA : Aw g A s.heap (wM g σ) H locs) (hl : lv_has ls 3 [(0, .ref (g.2.1 0)), (1, .ref (g.2.2.2.1 x1)), (2, .int x2)]) : W p l e rmX8_isWord s m args below meth c H locs 0 0 (MQ below (Qi g A (wM g R.2) R.1) args s 0 0 A) (F0 m 6 ls []) := by
  have hx := C.1.1
  have hb := C.1.2.1
  unfold f_X8_isWord_6 at h
  refine lv_iload_n hx hb dX8_isWord_6 rfl (lv_at hl 2 rfl) ?_
  refine lv_aload_n hx hb dX8_isWord_7 rfl (lv_at hl 1 rfl) ?_
  obtain ⟨g1, h⟩ := gd h
  refine r_callRi (r := (nI (lenJ.getD x1 0))) (w1 := wM g σ) (As := []) (rest := [.int x2]) C hA hl.1 (k_J0_length_8abf5 C.2.2.2.2.2.2 g1) (cwV 0 C.1.2.2.2.2 gX8_isWord_J0_length_8abf5 rfl rfl rfl nd_J0_length_8abf5 ⟨Nat.le_of_ble_eq_true rfl, Nat.le_of_ble_eq_true rfl⟩) (vk_recv C.2.2.2.2.2.1.1 g1 hA.2.2) rfl rfl (Nat.le_of_ble_eq_true rfl) dX8_isWord_8 ⟨Nat.le_of_ble_eq_true rfl, Nat.le_of_ble_eq_true rfl⟩ (fun H locs hA => ?_)
  refine lv_icmp_ge (tgt := 40) hx hb dX8_isWord_11 (by decide) (fun c2 => ?_) (fun c2 => ?_)
  · replace h := (if_pos c2).symm.trans h
    refine lv_aload_n hx hb dX8_isWord_40 rfl (lv_at hl 0 rfl) ?_
    refine lv_aload_n hx hb dX8_isWord_41 rfl (lv_at hl 0 rfl) ?_
    refine Mg_X8_at (v := (σ.1 9)) C hA rfl iX8_isWord_X8 (by decide +kernel) dX8_isWord_42 ?_
    refine lv_aload_n hx hb dX8_isWord_45 rfl (lv_at hl 1 rfl) ?_
    refine r_callRi (r := (nI (lenJ.getD x1 0))) (w1 := wM g σ) (As := []) (rest := [.int (σ.1 9), .ref (g.2.1 0)]) C hA hl.1 (k_J0_length_8abf5 C.2.2.2.2.2.2 g1) (cwV 0 C.1.2.2.2.2 gX8_isWord_J0_length_8abf5 rfl rfl rfl nd_J0_length_8abf5 ⟨Nat.le_of_ble_eq_true rfl, Nat.le_of_ble_eq_true rfl⟩) (vk_recv C.2.2.2.2.2.1.1 g1 hA.2.2) rfl rfl (Nat.le_of_ble_eq_true rfl) dX8_isWord_46 ⟨Nat.le_of_ble_eq_true rfl, Nat.le_of_ble_eq_true rfl⟩ (fun H locs hA => ?_)
    refine lv_iadd hx hb dX8_isWord_49 ?_
    obtain ⟨r3, hc4, h⟩ := bd1 h
    refine r_callVi (r := r3) (w1 := wM g σ) (As := [.int ((σ.1 9) + (nI (lenJ.getD x1 0)))]) (rest := []) C hA hl.1 (k_X8_byteAt C.2.2.2.2.2.2 hc4) (cwV 1 C.1.2.2.2.2 gX8_isWord_X8_byteAt rfl rfl rfl nd_X8_byteAt ⟨Nat.le_of_ble_eq_true rfl, Nat.le_of_ble_eq_true rfl⟩) 0 rfl rfl rfl rfl (Nat.le_of_ble_eq_true rfl) dX8_isWord_50 ⟨Nat.le_of_ble_eq_true rfl, Nat.le_of_ble_eq_true rfl⟩ (fun H locs hA => ?_)
    obtain ⟨r5, hc6, h⟩ := bd1 h
    refine r_callSi (r := r5) (w1 := wM g σ) (As := [.int r3]) (rest := []) C hA hl.1 (k_X8_isSmall (g := g) C.2.2.2.2.2.2 hc6) (va_cwS 1 C.1.2.2.2.2 gX8_isWord_X8_isSmall rfl rfl rfl nd_X8_isSmall ⟨Nat.le_of_ble_eq_true rfl, Nat.le_of_ble_eq_true rfl⟩) rfl rfl (Nat.le_of_ble_eq_true rfl) dX8_isWord_53 ⟨Nat.le_of_ble_eq_true rfl, Nat.le_of_ble_eq_true rfl⟩ (fun H locs hA => ?_)
    refine lv_if_ne (tgt := 63) hx hb dX8_isWord_56 (by decide) (fun c7 => ?_) (fun c7 => ?_)
    · replace h := (if_neg c7).symm.trans h
      refine lv_iconst (v := 0) hx hb dX8_isWord_63 (by decide) ?_
      obtain rfl := Option.some.inj h
      exact r_zret (v := (0 : Int32)) C hA (zb (Or.inl rfl)) dX8_isWord_64
    · replace h := (if_pos c7).symm.trans h
      refine lv_iconst (v := 1) hx hb dX8_isWord_59 (by decide) ?_
      refine lv_goto (tgt := 64) hx hb dX8_isWord_60 (by decide) ?_
      obtain rfl := Option.some.inj h
      exact r_zret (v := (1 : Int32)) C hA (zb (Or.inr rfl)) dX8_isWord_64
  · replace h := (if_neg c2).symm.trans h
    refine lv_aload_n hx hb dX8_isWord_14 rfl (lv_at hl 0 rfl) ?_
    refine lv_aload_n hx hb dX8_isWord_15 rfl (lv_at hl 0 rfl) ?_
    refine Mg_X8_at (v := (σ.1 9)) C hA rfl iX8_isWord_X8 (by decide +kernel) dX8_isWord_16 ?_
    refine lv_iload_n hx hb dX8_isWord_19 rfl (lv_at hl 2 rfl) ?_
    refine lv_iadd hx hb dX8_isWord_20 ?_
    obtain ⟨r8, hc9, h⟩ := bd1 h
    refine r_callVi (r := r8) (w1 := wM g σ) (As := [.int ((σ.1 9) + x2)]) (rest := []) C hA hl.1 (k_X8_byteAt C.2.2.2.2.2.2 hc9) (cwV 1 C.1.2.2.2.2 gX8_isWord_X8_byteAt rfl rfl rfl nd_X8_byteAt ⟨Nat.le_of_ble_eq_true rfl, Nat.le_of_ble_eq_true rfl⟩) 0 rfl rfl rfl rfl (Nat.le_of_ble_eq_true rfl) dX8_isWord_21 ⟨Nat.le_of_ble_eq_true rfl, Nat.le_of_ble_eq_true rfl⟩ (fun H locs hA => ?_)
    refine lv_aload_n hx hb dX8_isWord_24 rfl (lv_at hl 1 rfl) ?_
    refine lv_iload_n hx hb dX8_isWord_25 rfl (lv_at hl 2 rfl) ?_
    obtain ⟨g10, h⟩ := gd h
    refine r_callRi (r := (chJ x1 x2)) (w1 := wM g σ) (As := [.int x2]) (rest := [.int r8]) C hA hl.1 (k_J0_charAt_5068e C.2.2.2.2.2.2 g1 g10) (cwV 1 C.1.2.2.2.2 gX8_isWord_J0_charAt_5068e rfl rfl rfl nd_J0_charAt_5068e ⟨Nat.le_of_ble_eq_true rfl, Nat.le_of_ble_eq_true rfl⟩) (vk_recv C.2.2.2.2.2.1.1 g1 hA.2.2) rfl rfl (Nat.le_of_ble_eq_true rfl) dX8_isWord_26 ⟨Nat.le_of_ble_eq_true rfl, Nat.le_of_ble_eq_true rfl⟩ (fun H locs hA => ?_)
    refine lv_icmp_eq (tgt := 34) hx hb dX8_isWord_29 (by decide) (fun c11 => ?_) (fun c11 => ?_)
    · replace h := (if_pos c11).symm.trans h
      refine lv_iinc (v := (x2 + 1)) (lv' := [(2, .int (x2 + 1)), (0, .ref (g.2.1 0)), (1, .ref (g.2.2.2.1 x1))]) hx hb dX8_isWord_34 hl (k := 2) rfl rfl (by decide) rfl (fun ls hl => ?_)
      refine lv_goto (tgt := 6) hx hb dX8_isWord_37 (by decide) ?_
      exact hk6 _ _ h _ _ _ hA (lv_sub hl [1, 2, 0] rfl)
    · replace h := (if_neg c11).symm.trans h
      refine lv_iconst (v := 0) hx hb dX8_isWord_32 (by decide) ?_
      obtain rfl := Option.some.inj h
      exact r_zret (v := (0 : Int32)) C hA (zb (Or.inl rfl)) dX8_isWord_33
set_option maxHeartbeats 4000000 in
theorem w_X8_isWord_L6 {σ : SS} {x : Nat × Int32} (C : Cx p l s m args meth c cX8_isWord 3 wsX8_isWord (some .boolean) RX8 g A) (h : f_X8_isWord_L6 fu σ x = some R) {H : Heap} {locs : List Loc} {ls : Array Slot} (hA : Aw g A s.heap (wM g σ) H locs) (hl : lv_has ls 3 [(0, .ref (g.2.1 0)), (1, .ref (g.2.2.2.1 x.1)), (2, .int x.2)]) : W p l e rmX8_isWord s m args below meth c H locs 0 0 (MQ below (Qi g A (wM g R.2) R.1) args s 0 0 A) (F0 m 6 ls []) := by
  refine loopW (P := fun σ x => ∀ (H : Heap) (locs : List Loc) (ls : Array Slot), Aw g A s.heap (wM g σ) H locs → lv_has ls 3 [(0, .ref (g.2.1 0)), (1, .ref (g.2.2.2.1 x.1)), (2, .int x.2)] → W p l e rmX8_isWord s m args below meth c H locs 0 0 (MQ below (Qi g A (wM g R.2) R.1) args s 0 0 A) (F0 m 6 ls [])) (fun k hk σ x h9 H locs ls hA9 hl9 => ?_) fu σ x h H locs ls hA hl
  exact w_X8_isWord_6 C hk h9 hA9 hl9
set_option maxHeartbeats 4000000 in
set_option maxRecDepth 100000 in
theorem w_X8_isWord_0 {σ : SS} {x1 : Nat} (C : Cx p l s m args meth c cX8_isWord 3 wsX8_isWord (some .boolean) RX8 g A) (h : f_X8_isWord fu σ x1 = some R) {H : Heap} {locs : List Loc} {ls : Array Slot} (hA : Aw g A s.heap (wM g σ) H locs) (hl : lv_has ls 3 [(0, .ref (g.2.1 0)), (1, .ref (g.2.2.2.1 x1))]) : W p l e rmX8_isWord s m args below meth c H locs 0 0 (MQ below (Qi g A (wM g R.2) R.1) args s 0 0 A) (F0 m 0 ls []) := by
  have hx := C.1.1
  have hb := C.1.2.1
  unfold f_X8_isWord at h
  refine lv_aload_n hx hb dX8_isWord_0 rfl (lv_at hl 0 rfl) ?_
  obtain ⟨r1, t3, hc2, h⟩ := bd h
  refine r_callVv (r := r1) (w1 := wM g t3) (As := []) (rest := []) C hA hl.1 (k_X8_blanks C.2.2.2.2.2.2 hc2) (cwV 0 C.1.2.2.2.2 gX8_isWord_X8_blanks rfl rfl rfl nd_X8_blanks ⟨Nat.le_of_ble_eq_true rfl, Nat.le_of_ble_eq_true rfl⟩) 0 rfl rfl rfl rfl (Nat.le_of_ble_eq_true rfl) dX8_isWord_1 ⟨Nat.le_of_ble_eq_true rfl, Nat.le_of_ble_eq_true rfl⟩ (fun H locs hA => ?_)
  refine lv_iconst (v := 0) hx hb dX8_isWord_4 (by decide) ?_
  refine lv_istore_n (lv' := [(2, .int (0 : Int32)), (0, .ref (g.2.1 0)), (1, .ref (g.2.2.2.1 x1))]) hx hb dX8_isWord_5 rfl hl (by decide) rfl (fun ls hl => ?_)
  exact w_X8_isWord_L6 C h hA (lv_sub hl [1, 2, 0] rfl)
end
set_option maxRecDepth 100000 in
theorem k_X8_isWord {l : Launch} {g : Gm} {fu : Nat} {σ : SS} {x1 : Nat} {R : Int32 × SS} (hlt : l.stackTraces = false) (h : f_X8_isWord fu σ x1 = some R) (sz : Nat) : Met l yX8_isWord wsX8_isWord rmX8_isWord (Pw g (wM g σ) [.ref (g.2.1 0), .ref (g.2.2.2.1 x1)] sz) (Qi g (va_A (wM g σ) sz) (wM g R.2) R.1) 0 0 (va_A (wM g σ) sz) :=
  ofM (own := RX8) hlt (by decide) rfl rfl (Nat.le_of_ble_eq_true rfl) (fun p e s m below meth c hsz C hA ls hl => w_X8_isWord_0 C h hA hl)
abbrev rmX8_need : Room := { frames := 5, cells := 0, slots := 0, locals := 107 }
theorem iX8_need_X8 : ∀ x ∈ wsX80, x ∈ wsX8_need := by decide +kernel
theorem nd_X8_need : yX8_need.cls = RX8 ∧ yX8_need.cls ≠ "java/lang/invoke/MethodHandle" ∧ yX8_need.cls ≠ "java/lang/invoke/VarHandle" ∧ (parseMethodDescriptor yX8_need.desc).map (fun d => d.parameters.length) = some 1 := by decide +kernel
def f_X8_need (fu : Nat) (σ : SS) (x1 : Nat) : Option (Unit × SS) :=
  (if (σ.1 10) ≤ 0 then bnd (f_X8_isWord fu σ x1) (fun r2 t4 => (if r2 = 0 then bnd (f_X8_wrong fu t4 (1 : Int32) (t4.1 9)) (fun r6 t8 => some ((), t8)) else if x1 < 4 then some ((), (sI t4 9 ((t4.1 9) + (nI (lenJ.getD x1 0))))) else none)) else some ((), σ))
section
variable {p : Program} {l : Launch} {e : Env} {s : State} {m : MethodId} {args : Array Value} {below : List Frame} {meth : Method} {c : Code} {g : Gm} {A : Nat → Prop} {fu : Nat} {R : Unit × SS}
set_option maxHeartbeats 4000000 in
set_option maxRecDepth 100000 in
theorem w_X8_need_0 {σ : SS} {x1 : Nat} (C : Cx p l s m args meth c cX8_need 2 wsX8_need none RX8 g A) (h : f_X8_need fu σ x1 = some R) {H : Heap} {locs : List Loc} {ls : Array Slot} (hA : Aw g A s.heap (wM g σ) H locs) (hl : lv_has ls 2 [(0, .ref (g.2.1 0)), (1, .ref (g.2.2.2.1 x1))]) : W p l e rmX8_need s m args below meth c H locs 0 0 (MQ below (Qv g A (wM g R.2) R.1) args s 0 0 A) (F0 m 0 ls []) := by
  have hx := C.1.1
  have hb := C.1.2.1
  unfold f_X8_need at h
  refine lv_aload_n hx hb dX8_need_0 rfl (lv_at hl 0 rfl) ?_
  refine Mg_X8_fault (v := (σ.1 10)) C hA rfl iX8_need_X8 (by decide +kernel) dX8_need_1 ?_
  refine lv_if_le (tgt := 8) hx hb dX8_need_4 (by decide) (fun c1 => ?_) (fun c1 => ?_)
  · replace h := (if_pos c1).symm.trans h
    refine lv_aload_n hx hb dX8_need_8 rfl (lv_at hl 0 rfl) ?_
    refine lv_aload_n hx hb dX8_need_9 rfl (lv_at hl 1 rfl) ?_
    obtain ⟨r2, t4, hc3, h⟩ := bd h
    refine r_callVi (r := r2) (w1 := wM g t4) (As := [.ref (g.2.2.2.1 x1)]) (rest := []) C hA hl.1 (k_X8_isWord C.2.2.2.2.2.2 hc3) (cwV 1 C.1.2.2.2.2 gX8_need_X8_isWord rfl rfl rfl nd_X8_isWord ⟨Nat.le_of_ble_eq_true rfl, Nat.le_of_ble_eq_true rfl⟩) 0 rfl rfl rfl rfl (Nat.le_of_ble_eq_true rfl) dX8_need_10 ⟨Nat.le_of_ble_eq_true rfl, Nat.le_of_ble_eq_true rfl⟩ (fun H locs hA => ?_)
    refine lv_if_eq (tgt := 32) hx hb dX8_need_13 (by decide) (fun c5 => ?_) (fun c5 => ?_)
    · replace h := (if_pos c5).symm.trans h
      refine lv_aload_n hx hb dX8_need_32 rfl (lv_at hl 0 rfl) ?_
      refine lv_iconst (v := 1) hx hb dX8_need_33 (by decide) ?_
      refine lv_aload_n hx hb dX8_need_34 rfl (lv_at hl 0 rfl) ?_
      refine Mg_X8_at (v := (t4.1 9)) C hA rfl iX8_need_X8 (by decide +kernel) dX8_need_35 ?_
      obtain ⟨r6, t8, hc7, h⟩ := bd h
      refine r_callVv (r := r6) (w1 := wM g t8) (As := [.int (1 : Int32), .int (t4.1 9)]) (rest := []) C hA hl.1 (k_X8_wrong C.2.2.2.2.2.2 hc7) (cwV 2 C.1.2.2.2.2 gX8_need_X8_wrong rfl rfl rfl nd_X8_wrong ⟨Nat.le_of_ble_eq_true rfl, Nat.le_of_ble_eq_true rfl⟩) 0 rfl rfl rfl rfl (Nat.le_of_ble_eq_true rfl) dX8_need_38 ⟨Nat.le_of_ble_eq_true rfl, Nat.le_of_ble_eq_true rfl⟩ (fun H locs hA => ?_)
      obtain rfl := Option.some.inj h
      exact r_vret C hA dX8_need_41
    · replace h := (if_neg c5).symm.trans h
      refine lv_aload_n hx hb dX8_need_16 rfl (lv_at hl 0 rfl) ?_
      refine lv_dup hx hb dX8_need_17 rfl ?_
      refine Mg_X8_at (v := (t4.1 9)) C hA rfl iX8_need_X8 (by decide +kernel) dX8_need_18 ?_
      refine lv_aload_n hx hb dX8_need_21 rfl (lv_at hl 1 rfl) ?_
      obtain ⟨g9, h⟩ := gd h
      refine r_callRi (r := (nI (lenJ.getD x1 0))) (w1 := wM g t4) (As := []) (rest := [.int (t4.1 9), .ref (g.2.1 0)]) C hA hl.1 (k_J0_length_8abf5 C.2.2.2.2.2.2 g9) (cwV 0 C.1.2.2.2.2 gX8_need_J0_length_8abf5 rfl rfl rfl nd_J0_length_8abf5 ⟨Nat.le_of_ble_eq_true rfl, Nat.le_of_ble_eq_true rfl⟩) (vk_recv C.2.2.2.2.2.1.1 g9 hA.2.2) rfl rfl (Nat.le_of_ble_eq_true rfl) dX8_need_22 ⟨Nat.le_of_ble_eq_true rfl, Nat.le_of_ble_eq_true rfl⟩ (fun H locs hA => ?_)
      refine lv_iadd hx hb dX8_need_25 ?_
      refine Mp_X8_at C hA iX8_need_X8 (by decide +kernel) dX8_need_26 (fun H locs hA => ?_)
      refine lv_goto (tgt := 41) hx hb dX8_need_29 (by decide) ?_
      obtain rfl := Option.some.inj h
      exact r_vret C hA dX8_need_41
  · replace h := (if_neg c1).symm.trans h
    obtain rfl := Option.some.inj h
    exact r_vret C hA dX8_need_7
end
set_option maxRecDepth 100000 in
theorem k_X8_need {l : Launch} {g : Gm} {fu : Nat} {σ : SS} {x1 : Nat} {R : Unit × SS} (hlt : l.stackTraces = false) (h : f_X8_need fu σ x1 = some R) (sz : Nat) : Met l yX8_need wsX8_need rmX8_need (Pw g (wM g σ) [.ref (g.2.1 0), .ref (g.2.2.2.1 x1)] sz) (Qv g (va_A (wM g σ) sz) (wM g R.2) R.1) 0 0 (va_A (wM g σ) sz) :=
  ofM (own := RX8) hlt (by decide) rfl rfl (Nat.le_of_ble_eq_true rfl) (fun p e s m below meth c hsz C hA ls hl => w_X8_need_0 C h hA hl)
abbrev rmX8_clause : Room := { frames := 6, cells := 0, slots := 0, locals := 128 }
theorem iX8_clause_X8 : ∀ x ∈ wsX80, x ∈ wsX8_clause := by decide +kernel
theorem nd_X8_clause : yX8_clause.cls = RX8 ∧ yX8_clause.cls ≠ "java/lang/invoke/MethodHandle" ∧ yX8_clause.cls ≠ "java/lang/invoke/VarHandle" ∧ (parseMethodDescriptor yX8_clause.desc).map (fun d => d.parameters.length) = some 1 := by decide +kernel
def f_X8_clause_148 (fu : Nat) (σ : SS) : Option (Unit × SS) :=
  bnd (f_X8_sign fu σ (59 : Int32)) (fun r1 t3 => some ((), t3))
def f_X8_clause (fu : Nat) (σ : SS) (x1 : Int32) : Option (Unit × SS) :=
  bnd (f_X8_isWord fu σ 0) (fun r1 t3 => (if r1 = 0 then bnd (f_X8_isWord fu t3 1) (fun r5 t7 => (if r5 = 0 then bnd (f_X8_need fu t7 2) (fun r9 t11 => bnd (f_X8_number fu t11 (0 : Int32)) (fun r12 t14 => if inB (x1 + (5 : Int32)) 126 then f_X8_clause_148 fu (sA t14 13 ((x1 + (5 : Int32))).toNatClampNeg r12) else none)) else bnd (f_X8_need fu t7 1) (fun r16 t18 => bnd (f_X8_number fu t18 (0 : Int32)) (fun r19 t21 => bnd (f_X8_sign fu t21 (47 : Int32)) (fun r22 t24 => bnd (f_X8_number fu t24 (1 : Int32)) (fun r25 t27 => if inB (x1 + (3 : Int32)) 126 then if inB (x1 + (4 : Int32)) 126 then f_X8_clause_148 fu (sA (sA t27 13 ((x1 + (3 : Int32))).toNatClampNeg r19) 13 ((x1 + (4 : Int32))).toNatClampNeg r25) else none else none)))))) else bnd (f_X8_need fu t3 0) (fun r30 t32 => bnd (f_X8_number fu t32 (0 : Int32)) (fun r33 t35 => bnd (f_X8_sign fu t35 (47 : Int32)) (fun r36 t38 => bnd (f_X8_number fu t38 (1 : Int32)) (fun r39 t41 => bnd (f_X8_need fu t41 3) (fun r42 t44 => bnd (f_X8_number fu t44 (0 : Int32)) (fun r45 t47 => if inB x1 126 then if inB (x1 + (1 : Int32)) 126 then if inB (x1 + (2 : Int32)) 126 then f_X8_clause_148 fu (sA (sA (sA t47 13 (x1).toNatClampNeg r33) 13 ((x1 + (1 : Int32))).toNatClampNeg r39) 13 ((x1 + (2 : Int32))).toNatClampNeg r45) else none else none else none))))))))
section
variable {p : Program} {l : Launch} {e : Env} {s : State} {m : MethodId} {args : Array Value} {below : List Frame} {meth : Method} {c : Code} {g : Gm} {A : Nat → Prop} {fu : Nat} {R : Unit × SS}
set_option maxHeartbeats 4000000 in
set_option maxRecDepth 100000 in
theorem w_X8_clause_148 {σ : SS} (C : Cx p l s m args meth c cX8_clause 5 wsX8_clause none RX8 g A) (h : f_X8_clause_148 fu σ = some R) {H : Heap} {locs : List Loc} {ls : Array Slot} (hA : Aw g A s.heap (wM g σ) H locs) (hl : lv_has ls 5 [(0, .ref (g.2.1 0))]) : W p l e rmX8_clause s m args below meth c H locs 0 0 (MQ below (Qv g A (wM g R.2) R.1) args s 0 0 A) (F0 m 148 ls []) := by
  have hx := C.1.1
  have hb := C.1.2.1
  unfold f_X8_clause_148 at h
  refine lv_aload_n hx hb dX8_clause_148 rfl (lv_at hl 0 rfl) ?_
  refine lv_bipush (v := 59) hx hb dX8_clause_149 (by decide) ?_
  obtain ⟨r1, t3, hc2, h⟩ := bd h
  refine r_callVv (r := r1) (w1 := wM g t3) (As := [.int (59 : Int32)]) (rest := []) C hA hl.1 (k_X8_sign C.2.2.2.2.2.2 hc2) (cwV 1 C.1.2.2.2.2 gX8_clause_X8_sign rfl rfl rfl nd_X8_sign ⟨Nat.le_of_ble_eq_true rfl, Nat.le_of_ble_eq_true rfl⟩) 0 rfl rfl rfl rfl (Nat.le_of_ble_eq_true rfl) dX8_clause_151 ⟨Nat.le_of_ble_eq_true rfl, Nat.le_of_ble_eq_true rfl⟩ (fun H locs hA => ?_)
  obtain rfl := Option.some.inj h
  exact r_vret C hA dX8_clause_154
set_option maxHeartbeats 4000000 in
set_option maxRecDepth 100000 in
theorem w_X8_clause_0 {σ : SS} {x1 : Int32} (C : Cx p l s m args meth c cX8_clause 5 wsX8_clause none RX8 g A) (h : f_X8_clause fu σ x1 = some R) {H : Heap} {locs : List Loc} {ls : Array Slot} (hA : Aw g A s.heap (wM g σ) H locs) (hl : lv_has ls 5 [(0, .ref (g.2.1 0)), (1, .int x1)]) : W p l e rmX8_clause s m args below meth c H locs 0 0 (MQ below (Qv g A (wM g R.2) R.1) args s 0 0 A) (F0 m 0 ls []) := by
  have hx := C.1.1
  have hb := C.1.2.1
  unfold f_X8_clause at h
  refine lv_aload_n hx hb dX8_clause_0 rfl (lv_at hl 0 rfl) ?_
  refine va_ldcS hx hb C.1.2.2.2.1 C.2.2.2.2.2.1.2.2.2.2.2.2.2.2.2.2.2.2.2.2.2.2.2.2.2.2.2.2.2.2.2.2.2.2.2.2.2.1 dX8_clause_1 ?_
  obtain ⟨r1, t3, hc2, h⟩ := bd h
  refine r_callVi (r := r1) (w1 := wM g t3) (As := [.ref (g.2.2.2.1 0)]) (rest := []) C hA hl.1 (k_X8_isWord C.2.2.2.2.2.2 hc2) (cwV 1 C.1.2.2.2.2 gX8_clause_X8_isWord rfl rfl rfl nd_X8_isWord ⟨Nat.le_of_ble_eq_true rfl, Nat.le_of_ble_eq_true rfl⟩) 0 rfl rfl rfl rfl (Nat.le_of_ble_eq_true rfl) dX8_clause_3 ⟨Nat.le_of_ble_eq_true rfl, Nat.le_of_ble_eq_true rfl⟩ (fun H locs hA => ?_)
  refine lv_if_eq (tgt := 75) hx hb dX8_clause_6 (by decide) (fun c4 => ?_) (fun c4 => ?_)
  · replace h := (if_pos c4).symm.trans h
    refine lv_aload_n hx hb dX8_clause_75 rfl (lv_at hl 0 rfl) ?_
    refine va_ldcS hx hb C.1.2.2.2.1 C.2.2.2.2.2.1.2.2.2.2.2.2.2.2.2.2.2.2.2.2.2.2.2.2.2.2.2.2.2.2.2.2.2.2.2.2.2.2.2.1 dX8_clause_76 ?_
    obtain ⟨r5, t7, hc6, h⟩ := bd h
    refine r_callVi (r := r5) (w1 := wM g t7) (As := [.ref (g.2.2.2.1 1)]) (rest := []) C hA hl.1 (k_X8_isWord C.2.2.2.2.2.2 hc6) (cwV 1 C.1.2.2.2.2 gX8_clause_X8_isWord rfl rfl rfl nd_X8_isWord ⟨Nat.le_of_ble_eq_true rfl, Nat.le_of_ble_eq_true rfl⟩) 0 rfl rfl rfl rfl (Nat.le_of_ble_eq_true rfl) dX8_clause_78 ⟨Nat.le_of_ble_eq_true rfl, Nat.le_of_ble_eq_true rfl⟩ (fun H locs hA => ?_)
    refine lv_if_eq (tgt := 129) hx hb dX8_clause_81 (by decide) (fun c8 => ?_) (fun c8 => ?_)
    · replace h := (if_pos c8).symm.trans h
      refine lv_aload_n hx hb dX8_clause_129 rfl (lv_at hl 0 rfl) ?_
      refine va_ldcS hx hb C.1.2.2.2.1 C.2.2.2.2.2.1.2.2.2.2.2.2.2.2.2.2.2.2.2.2.2.2.2.2.2.2.2.2.2.2.2.2.2.2.2.2.2.2.2.2.1 dX8_clause_130 ?_
      obtain ⟨r9, t11, hc10, h⟩ := bd h
      refine r_callVv (r := r9) (w1 := wM g t11) (As := [.ref (g.2.2.2.1 2)]) (rest := []) C hA hl.1 (k_X8_need C.2.2.2.2.2.2 hc10) (cwV 1 C.1.2.2.2.2 gX8_clause_X8_need rfl rfl rfl nd_X8_need ⟨Nat.le_of_ble_eq_true rfl, Nat.le_of_ble_eq_true rfl⟩) 0 rfl rfl rfl rfl (Nat.le_of_ble_eq_true rfl) dX8_clause_132 ⟨Nat.le_of_ble_eq_true rfl, Nat.le_of_ble_eq_true rfl⟩ (fun H locs hA => ?_)
      refine lv_aload_n hx hb dX8_clause_135 rfl (lv_at hl 0 rfl) ?_
      refine Mg_X8_terms C hA iX8_clause_X8 (by decide +kernel) dX8_clause_136 ?_
      refine lv_iload_n hx hb dX8_clause_139 rfl (lv_at hl 1 rfl) ?_
      refine lv_iconst (v := 5) hx hb dX8_clause_140 (by decide) ?_
      refine lv_iadd hx hb dX8_clause_141 ?_
      refine lv_aload_n hx hb dX8_clause_142 rfl (lv_at hl 0 rfl) ?_
      refine lv_iconst (v := 0) hx hb dX8_clause_143 (by decide) ?_
      obtain ⟨r12, t14, hc13, h⟩ := bd h
      refine r_callVi (r := r12) (w1 := wM g t14) (As := [.int (0 : Int32)]) (rest := [.int (x1 + (5 : Int32)), .ref (g.2.1 13)]) C hA hl.1 (k_X8_number C.2.2.2.2.2.2 hc13) (cwV 1 C.1.2.2.2.2 gX8_clause_X8_number rfl rfl rfl nd_X8_number ⟨Nat.le_of_ble_eq_true rfl, Nat.le_of_ble_eq_true rfl⟩) 0 rfl rfl rfl rfl (Nat.le_of_ble_eq_true rfl) dX8_clause_144 ⟨Nat.le_of_ble_eq_true rfl, Nat.le_of_ble_eq_true rfl⟩ (fun H locs hA => ?_)
      obtain ⟨g15, h⟩ := gd h
      refine Mst_13 C hA g15 dX8_clause_147 (fun H locs hA => ?_)
      exact w_X8_clause_148 C h hA (lv_sub hl [0] rfl)
    · replace h := (if_neg c8).symm.trans h
      refine lv_aload_n hx hb dX8_clause_84 rfl (lv_at hl 0 rfl) ?_
      refine va_ldcS hx hb C.1.2.2.2.1 C.2.2.2.2.2.1.2.2.2.2.2.2.2.2.2.2.2.2.2.2.2.2.2.2.2.2.2.2.2.2.2.2.2.2.2.2.2.2.2.1 dX8_clause_85 ?_
      obtain ⟨r16, t18, hc17, h⟩ := bd h
      refine r_callVv (r := r16) (w1 := wM g t18) (As := [.ref (g.2.2.2.1 1)]) (rest := []) C hA hl.1 (k_X8_need C.2.2.2.2.2.2 hc17) (cwV 1 C.1.2.2.2.2 gX8_clause_X8_need rfl rfl rfl nd_X8_need ⟨Nat.le_of_ble_eq_true rfl, Nat.le_of_ble_eq_true rfl⟩) 0 rfl rfl rfl rfl (Nat.le_of_ble_eq_true rfl) dX8_clause_87 ⟨Nat.le_of_ble_eq_true rfl, Nat.le_of_ble_eq_true rfl⟩ (fun H locs hA => ?_)
      refine lv_aload_n hx hb dX8_clause_90 rfl (lv_at hl 0 rfl) ?_
      refine lv_iconst (v := 0) hx hb dX8_clause_91 (by decide) ?_
      obtain ⟨r19, t21, hc20, h⟩ := bd h
      refine r_callVi (r := r19) (w1 := wM g t21) (As := [.int (0 : Int32)]) (rest := []) C hA hl.1 (k_X8_number C.2.2.2.2.2.2 hc20) (cwV 1 C.1.2.2.2.2 gX8_clause_X8_number rfl rfl rfl nd_X8_number ⟨Nat.le_of_ble_eq_true rfl, Nat.le_of_ble_eq_true rfl⟩) 0 rfl rfl rfl rfl (Nat.le_of_ble_eq_true rfl) dX8_clause_92 ⟨Nat.le_of_ble_eq_true rfl, Nat.le_of_ble_eq_true rfl⟩ (fun H locs hA => ?_)
      refine lv_istore_n (lv' := [(2, .int r19), (0, .ref (g.2.1 0)), (1, .int x1)]) hx hb dX8_clause_95 rfl hl (by decide) rfl (fun ls hl => ?_)
      refine lv_aload_n hx hb dX8_clause_96 rfl (lv_at hl 1 rfl) ?_
      refine lv_bipush (v := 47) hx hb dX8_clause_97 (by decide) ?_
      obtain ⟨r22, t24, hc23, h⟩ := bd h
      refine r_callVv (r := r22) (w1 := wM g t24) (As := [.int (47 : Int32)]) (rest := []) C hA hl.1 (k_X8_sign C.2.2.2.2.2.2 hc23) (cwV 1 C.1.2.2.2.2 gX8_clause_X8_sign rfl rfl rfl nd_X8_sign ⟨Nat.le_of_ble_eq_true rfl, Nat.le_of_ble_eq_true rfl⟩) 0 rfl rfl rfl rfl (Nat.le_of_ble_eq_true rfl) dX8_clause_99 ⟨Nat.le_of_ble_eq_true rfl, Nat.le_of_ble_eq_true rfl⟩ (fun H locs hA => ?_)
      refine lv_aload_n hx hb dX8_clause_102 rfl (lv_at hl 1 rfl) ?_
      refine lv_iconst (v := 1) hx hb dX8_clause_103 (by decide) ?_
      obtain ⟨r25, t27, hc26, h⟩ := bd h
      refine r_callVi (r := r25) (w1 := wM g t27) (As := [.int (1 : Int32)]) (rest := []) C hA hl.1 (k_X8_number C.2.2.2.2.2.2 hc26) (cwV 1 C.1.2.2.2.2 gX8_clause_X8_number rfl rfl rfl nd_X8_number ⟨Nat.le_of_ble_eq_true rfl, Nat.le_of_ble_eq_true rfl⟩) 0 rfl rfl rfl rfl (Nat.le_of_ble_eq_true rfl) dX8_clause_104 ⟨Nat.le_of_ble_eq_true rfl, Nat.le_of_ble_eq_true rfl⟩ (fun H locs hA => ?_)
      refine lv_istore_n (lv' := [(3, .int r25), (2, .int r19), (0, .ref (g.2.1 0)), (1, .int x1)]) hx hb dX8_clause_107 rfl hl (by decide) rfl (fun ls hl => ?_)
      refine lv_aload_n hx hb dX8_clause_108 rfl (lv_at hl 2 rfl) ?_
      refine Mg_X8_terms C hA iX8_clause_X8 (by decide +kernel) dX8_clause_109 ?_
      refine lv_iload_n hx hb dX8_clause_112 rfl (lv_at hl 3 rfl) ?_
      refine lv_iconst (v := 3) hx hb dX8_clause_113 (by decide) ?_
      refine lv_iadd hx hb dX8_clause_114 ?_
      refine lv_iload_n hx hb dX8_clause_115 rfl (lv_at hl 1 rfl) ?_
      obtain ⟨g28, h⟩ := gd h
      refine Mst_13 C hA g28 dX8_clause_116 (fun H locs hA => ?_)
      refine lv_aload_n hx hb dX8_clause_117 rfl (lv_at hl 2 rfl) ?_
      refine Mg_X8_terms C hA iX8_clause_X8 (by decide +kernel) dX8_clause_118 ?_
      refine lv_iload_n hx hb dX8_clause_121 rfl (lv_at hl 3 rfl) ?_
      refine lv_iconst (v := 4) hx hb dX8_clause_122 (by decide) ?_
      refine lv_iadd hx hb dX8_clause_123 ?_
      refine lv_iload_n hx hb dX8_clause_124 rfl (lv_at hl 0 rfl) ?_
      obtain ⟨g29, h⟩ := gd h
      refine Mst_13 C hA g29 dX8_clause_125 (fun H locs hA => ?_)
      refine lv_goto (tgt := 148) hx hb dX8_clause_126 (by decide) ?_
      exact w_X8_clause_148 C h hA (lv_sub hl [2] rfl)
  · replace h := (if_neg c4).symm.trans h
    refine lv_aload_n hx hb dX8_clause_9 rfl (lv_at hl 0 rfl) ?_
    refine va_ldcS hx hb C.1.2.2.2.1 C.2.2.2.2.2.1.2.2.2.2.2.2.2.2.2.2.2.2.2.2.2.2.2.2.2.2.2.2.2.2.2.2.2.2.2.2.2.1 dX8_clause_10 ?_
    obtain ⟨r30, t32, hc31, h⟩ := bd h
    refine r_callVv (r := r30) (w1 := wM g t32) (As := [.ref (g.2.2.2.1 0)]) (rest := []) C hA hl.1 (k_X8_need C.2.2.2.2.2.2 hc31) (cwV 1 C.1.2.2.2.2 gX8_clause_X8_need rfl rfl rfl nd_X8_need ⟨Nat.le_of_ble_eq_true rfl, Nat.le_of_ble_eq_true rfl⟩) 0 rfl rfl rfl rfl (Nat.le_of_ble_eq_true rfl) dX8_clause_12 ⟨Nat.le_of_ble_eq_true rfl, Nat.le_of_ble_eq_true rfl⟩ (fun H locs hA => ?_)
    refine lv_aload_n hx hb dX8_clause_15 rfl (lv_at hl 0 rfl) ?_
    refine lv_iconst (v := 0) hx hb dX8_clause_16 (by decide) ?_
    obtain ⟨r33, t35, hc34, h⟩ := bd h
    refine r_callVi (r := r33) (w1 := wM g t35) (As := [.int (0 : Int32)]) (rest := []) C hA hl.1 (k_X8_number C.2.2.2.2.2.2 hc34) (cwV 1 C.1.2.2.2.2 gX8_clause_X8_number rfl rfl rfl nd_X8_number ⟨Nat.le_of_ble_eq_true rfl, Nat.le_of_ble_eq_true rfl⟩) 0 rfl rfl rfl rfl (Nat.le_of_ble_eq_true rfl) dX8_clause_17 ⟨Nat.le_of_ble_eq_true rfl, Nat.le_of_ble_eq_true rfl⟩ (fun H locs hA => ?_)
    refine lv_istore_n (lv' := [(2, .int r33), (0, .ref (g.2.1 0)), (1, .int x1)]) hx hb dX8_clause_20 rfl hl (by decide) rfl (fun ls hl => ?_)
    refine lv_aload_n hx hb dX8_clause_21 rfl (lv_at hl 1 rfl) ?_
    refine lv_bipush (v := 47) hx hb dX8_clause_22 (by decide) ?_
    obtain ⟨r36, t38, hc37, h⟩ := bd h
    refine r_callVv (r := r36) (w1 := wM g t38) (As := [.int (47 : Int32)]) (rest := []) C hA hl.1 (k_X8_sign C.2.2.2.2.2.2 hc37) (cwV 1 C.1.2.2.2.2 gX8_clause_X8_sign rfl rfl rfl nd_X8_sign ⟨Nat.le_of_ble_eq_true rfl, Nat.le_of_ble_eq_true rfl⟩) 0 rfl rfl rfl rfl (Nat.le_of_ble_eq_true rfl) dX8_clause_24 ⟨Nat.le_of_ble_eq_true rfl, Nat.le_of_ble_eq_true rfl⟩ (fun H locs hA => ?_)
    refine lv_aload_n hx hb dX8_clause_27 rfl (lv_at hl 1 rfl) ?_
    refine lv_iconst (v := 1) hx hb dX8_clause_28 (by decide) ?_
    obtain ⟨r39, t41, hc40, h⟩ := bd h
    refine r_callVi (r := r39) (w1 := wM g t41) (As := [.int (1 : Int32)]) (rest := []) C hA hl.1 (k_X8_number C.2.2.2.2.2.2 hc40) (cwV 1 C.1.2.2.2.2 gX8_clause_X8_number rfl rfl rfl nd_X8_number ⟨Nat.le_of_ble_eq_true rfl, Nat.le_of_ble_eq_true rfl⟩) 0 rfl rfl rfl rfl (Nat.le_of_ble_eq_true rfl) dX8_clause_29 ⟨Nat.le_of_ble_eq_true rfl, Nat.le_of_ble_eq_true rfl⟩ (fun H locs hA => ?_)
    refine lv_istore_n (lv' := [(3, .int r39), (2, .int r33), (0, .ref (g.2.1 0)), (1, .int x1)]) hx hb dX8_clause_32 rfl hl (by decide) rfl (fun ls hl => ?_)
    refine lv_aload_n hx hb dX8_clause_33 rfl (lv_at hl 2 rfl) ?_
    refine va_ldcS hx hb C.1.2.2.2.1 C.2.2.2.2.2.1.2.2.2.2.2.2.2.2.2.2.2.2.2.2.2.2.2.2.2.2.2.2.2.2.2.2.2.2.2.2.2.2.1 dX8_clause_34 ?_
    obtain ⟨r42, t44, hc43, h⟩ := bd h
    refine r_callVv (r := r42) (w1 := wM g t44) (As := [.ref (g.2.2.2.1 3)]) (rest := []) C hA hl.1 (k_X8_need C.2.2.2.2.2.2 hc43) (cwV 1 C.1.2.2.2.2 gX8_clause_X8_need rfl rfl rfl nd_X8_need ⟨Nat.le_of_ble_eq_true rfl, Nat.le_of_ble_eq_true rfl⟩) 0 rfl rfl rfl rfl (Nat.le_of_ble_eq_true rfl) dX8_clause_36 ⟨Nat.le_of_ble_eq_true rfl, Nat.le_of_ble_eq_true rfl⟩ (fun H locs hA => ?_)
    refine lv_aload_n hx hb dX8_clause_39 rfl (lv_at hl 2 rfl) ?_
    refine lv_iconst (v := 0) hx hb dX8_clause_40 (by decide) ?_
    obtain ⟨r45, t47, hc46, h⟩ := bd h
    refine r_callVi (r := r45) (w1 := wM g t47) (As := [.int (0 : Int32)]) (rest := []) C hA hl.1 (k_X8_number C.2.2.2.2.2.2 hc46) (cwV 1 C.1.2.2.2.2 gX8_clause_X8_number rfl rfl rfl nd_X8_number ⟨Nat.le_of_ble_eq_true rfl, Nat.le_of_ble_eq_true rfl⟩) 0 rfl rfl rfl rfl (Nat.le_of_ble_eq_true rfl) dX8_clause_41 ⟨Nat.le_of_ble_eq_true rfl, Nat.le_of_ble_eq_true rfl⟩ (fun H locs hA => ?_)
    refine lv_istore (lv' := [(4, .int r45), (3, .int r39), (2, .int r33), (0, .ref (g.2.1 0)), (1, .int x1)]) hx hb dX8_clause_44 hl (by decide) rfl (fun ls hl => ?_)
    refine lv_aload_n hx hb dX8_clause_46 rfl (lv_at hl 3 rfl) ?_
    refine Mg_X8_terms C hA iX8_clause_X8 (by decide +kernel) dX8_clause_47 ?_
    refine lv_iload_n hx hb dX8_clause_50 rfl (lv_at hl 4 rfl) ?_
    refine lv_iload_n hx hb dX8_clause_51 rfl (lv_at hl 2 rfl) ?_
    obtain ⟨g48, h⟩ := gd h
    refine Mst_13 C hA g48 dX8_clause_52 (fun H locs hA => ?_)
    refine lv_aload_n hx hb dX8_clause_53 rfl (lv_at hl 3 rfl) ?_
    refine Mg_X8_terms C hA iX8_clause_X8 (by decide +kernel) dX8_clause_54 ?_
    refine lv_iload_n hx hb dX8_clause_57 rfl (lv_at hl 4 rfl) ?_
    refine lv_iconst (v := 1) hx hb dX8_clause_58 (by decide) ?_
    refine lv_iadd hx hb dX8_clause_59 ?_
    refine lv_iload_n hx hb dX8_clause_60 rfl (lv_at hl 1 rfl) ?_
    obtain ⟨g49, h⟩ := gd h
    refine Mst_13 C hA g49 dX8_clause_61 (fun H locs hA => ?_)
    refine lv_aload_n hx hb dX8_clause_62 rfl (lv_at hl 3 rfl) ?_
    refine Mg_X8_terms C hA iX8_clause_X8 (by decide +kernel) dX8_clause_63 ?_
    refine lv_iload_n hx hb dX8_clause_66 rfl (lv_at hl 4 rfl) ?_
    refine lv_iconst (v := 2) hx hb dX8_clause_67 (by decide) ?_
    refine lv_iadd hx hb dX8_clause_68 ?_
    refine lv_iload hx hb dX8_clause_69 (lv_at hl 0 rfl) ?_
    obtain ⟨g50, h⟩ := gd h
    refine Mst_13 C hA g50 dX8_clause_71 (fun H locs hA => ?_)
    refine lv_goto (tgt := 148) hx hb dX8_clause_72 (by decide) ?_
    exact w_X8_clause_148 C h hA (lv_sub hl [3] rfl)
end
set_option maxRecDepth 100000 in
theorem k_X8_clause {l : Launch} {g : Gm} {fu : Nat} {σ : SS} {x1 : Int32} {R : Unit × SS} (hlt : l.stackTraces = false) (h : f_X8_clause fu σ x1 = some R) (sz : Nat) : Met l yX8_clause wsX8_clause rmX8_clause (Pw g (wM g σ) [.ref (g.2.1 0), .int x1] sz) (Qv g (va_A (wM g σ) sz) (wM g R.2) R.1) 0 0 (va_A (wM g σ) sz) :=
  ofM (own := RX8) hlt (by decide) rfl rfl (Nat.le_of_ble_eq_true rfl) (fun p e s m below meth c hsz C hA ls hl => w_X8_clause_0 C h hA hl)
abbrev rmX8_custom : Room := { frames := 7, cells := 0, slots := 0, locals := 152 }
theorem iX8_custom_X8 : ∀ x ∈ wsX80, x ∈ wsX8_custom := by decide +kernel
theorem nd_X8_custom : yX8_custom.cls = RX8 ∧ yX8_custom.cls ≠ "java/lang/invoke/MethodHandle" ∧ yX8_custom.cls ≠ "java/lang/invoke/VarHandle" ∧ (parseMethodDescriptor yX8_custom.desc).map (fun d => d.parameters.length) = some 2 := by decide +kernel
def f_X8_custom_226 (fu : Nat) (σ : SS) (x2 : Int32) : Option (Int32 × SS) :=
  (if (σ.1 10) ≤ 0 then if inB (σ.1 14) 20 then some ((((σ.1 14) + (1 : Int32)) - (1 : Int32)), (sI (sA σ 12 ((σ.1 14)).toNatClampNeg x2) 14 ((σ.1 14) + (1 : Int32)))) else none else some (((σ.1 10) - (10 : Int32)), σ))
def f_X8_custom_223 (fu : Nat) (k131 : SS → (Int32 × Int32 × Int32) → Option (Int32 × SS)) (σ : SS) (x2 : Int32) (x3 : Int32) (x4 : Int32) : Option (Int32 × SS) :=
  k131 σ (x2, x3, x4)
def f_X8_custom_201 (fu : Nat) (k131 : SS → (Int32 × Int32 × Int32) → Option (Int32 × SS)) (σ : SS) (x2 : Int32) (x3 : Int32) (x4 : Int32) (y0 : Int32) : Option (Int32 × SS) :=
  bnd (f_X8_wrong fu σ y0 (σ.1 9)) (fun r1 t3 => f_X8_custom_223 fu k131 t3 x2 x3 x4)
def f_X8_custom_181 (fu : Nat) (k131 : SS → (Int32 × Int32 × Int32) → Option (Int32 × SS)) (σ : SS) (x2 : Int32) (x3 : Int32) (x4 : Int32) (y0 : Int32) : Option (Int32 × SS) :=
  (if x4 = (8 : Int32) then (if y0 = 0 then f_X8_custom_201 fu k131 σ x2 x3 x4 (1 : Int32) else f_X8_custom_201 fu k131 σ x2 x3 x4 (3 : Int32)) else bnd (f_X8_clause fu σ x3) (fun r2 t4 => bnd (f_X8_blanks fu t4) (fun r5 t7 => f_X8_custom_223 fu k131 t7 x2 x3 (x4 + 1))))
def f_X8_custom_176 (fu : Nat) (k131 : SS → (Int32 × Int32 × Int32) → Option (Int32 × SS)) (σ : SS) (x2 : Int32) (x3 : Int32) (x4 : Int32) : Option (Int32 × SS) :=
  f_X8_custom_181 fu k131 σ x2 x3 x4 (1 : Int32)
def f_X8_custom_131 (fu : Nat) (k131 : SS → (Int32 × Int32 × Int32) → Option (Int32 × SS)) (σ : SS) (x2 : Int32) (x3 : Int32) (x4 : Int32) : Option (Int32 × SS) :=
  (if (σ.1 10) = 0 then (if (σ.1 8) ≤ (σ.1 9) then f_X8_custom_226 fu σ x2 else bnd (f_X8_isWord fu σ 0) (fun r3 t5 => (if r3 = 0 then bnd (f_X8_isWord fu t5 1) (fun r7 t9 => (if r7 = 0 then bnd (f_X8_isWord fu t9 2) (fun r11 t13 => (if r11 = 0 then f_X8_custom_181 fu k131 t13 x2 x3 x4 (0 : Int32) else f_X8_custom_176 fu k131 t13 x2 x3 x4)) else f_X8_custom_176 fu k131 t9 x2 x3 x4)) else f_X8_custom_176 fu k131 t5 x2 x3 x4))) else f_X8_custom_226 fu σ x2)
def f_X8_custom_L131 (fu : Nat) : SS → (Int32 × Int32 × Int32) → Option (Int32 × SS) := loopN (fun k131 σ x => f_X8_custom_131 fu k131 σ x.1 x.2.1 x.2.2) fu
def f_X8_custom_101 (fu : Nat) (k101 : SS → (Int32 × Int32 × Int32) → Option (Int32 × SS)) (σ : SS) (x2 : Int32) (x3 : Int32) (x4 : Int32) : Option (Int32 × SS) :=
  (if (6 : Int32) ≤ x4 then bnd (f_X8_blanks fu σ) (fun r2 t4 => f_X8_custom_L131 fu t4 (x2, x3, (0 : Int32))) else if inB (x3 + x4) 126 then k101 (sA σ 13 ((x3 + x4)).toNatClampNeg (0 : Int32)) (x2, x3, (x4 + 1)) else none)
def f_X8_custom_L101 (fu : Nat) : SS → (Int32 × Int32 × Int32) → Option (Int32 × SS) := loopN (fun k101 σ x => f_X8_custom_101 fu k101 σ x.1 x.2.1 x.2.2) fu
def f_X8_custom_56 (fu : Nat) (σ : SS) (x1 : Int32) (x2 : Int32) (y0 : Int32) : Option (Int32 × SS) :=
  bnd (f_X8_bad fu σ y0 (2 : Int32)) (fun r1 t3 => (if r1 = 0 then f_X8_custom_L101 fu (sI (sI (sI (sI (sI t3 8 x1) 7 (0 : Int32)) 9 (0 : Int32)) 10 (0 : Int32)) 11 (-1)) (x2, ((6 : Int32) * (t3.1 14)), (0 : Int32)) else some ((0 : Int32), t3)))
def f_X8_custom_34 (fu : Nat) (σ : SS) (x1 : Int32) (x2 : Int32) (y0 : Int32) : Option (Int32 × SS) :=
  bnd (f_X8_bad fu σ y0 (1 : Int32)) (fun r1 t3 => (if r1 = 0 then (if (t3.1 14) = (20 : Int32) then f_X8_custom_56 fu t3 x1 x2 (1 : Int32) else f_X8_custom_56 fu t3 x1 x2 (0 : Int32)) else some ((0 : Int32), t3)))
def f_X8_custom_29 (fu : Nat) (σ : SS) (x1 : Int32) (x2 : Int32) : Option (Int32 × SS) :=
  f_X8_custom_34 fu σ x1 x2 (1 : Int32)
def f_X8_custom (fu : Nat) (σ : SS) (x1 : Int32) (x2 : Int32) : Option (Int32 × SS) :=
  (if x1 < 0 then f_X8_custom_29 fu (sI σ 0 (0 : Int32)) x1 x2 else (if (σ.1 7) < x1 then f_X8_custom_29 fu (sI σ 0 (0 : Int32)) x1 x2 else (if x2 < 0 then f_X8_custom_29 fu (sI σ 0 (0 : Int32)) x1 x2 else (if x2 ≤ (1000 : Int32) then f_X8_custom_34 fu (sI σ 0 (0 : Int32)) x1 x2 (0 : Int32) else f_X8_custom_29 fu (sI σ 0 (0 : Int32)) x1 x2))))
section
variable {p : Program} {l : Launch} {e : Env} {s : State} {m : MethodId} {args : Array Value} {below : List Frame} {meth : Method} {c : Code} {g : Gm} {A : Nat → Prop} {fu : Nat} {R : Int32 × SS}
set_option maxHeartbeats 4000000 in
set_option maxRecDepth 100000 in
theorem w_X8_custom_226 {σ : SS} {x2 : Int32} (C : Cx p l s m args meth c cX8_custom 6 wsX8_custom (some .int) RX8 g A) (h : f_X8_custom_226 fu σ x2 = some R) {H : Heap} {locs : List Loc} {ls : Array Slot} (hA : Aw g A s.heap (wM g σ) H locs) (hl : lv_has ls 6 [(0, .ref (g.2.1 0)), (2, .int x2)]) : W p l e rmX8_custom s m args below meth c H locs 0 0 (MQ below (Qi g A (wM g R.2) R.1) args s 0 0 A) (F0 m 226 ls []) := by
  have hx := C.1.1
  have hb := C.1.2.1
  unfold f_X8_custom_226 at h
  refine lv_aload_n hx hb dX8_custom_226 rfl (lv_at hl 0 rfl) ?_
  refine Mg_X8_fault (v := (σ.1 10)) C hA rfl iX8_custom_X8 (by decide +kernel) dX8_custom_227 ?_
  refine lv_if_le (tgt := 241) hx hb dX8_custom_230 (by decide) (fun c1 => ?_) (fun c1 => ?_)
  · replace h := (if_pos c1).symm.trans h
    refine lv_aload_n hx hb dX8_custom_241 rfl (lv_at hl 0 rfl) ?_
    refine Mg_X8_since C hA iX8_custom_X8 (by decide +kernel) dX8_custom_242 ?_
    refine lv_aload_n hx hb dX8_custom_245 rfl (lv_at hl 0 rfl) ?_
    refine Mg_X8_customs (v := (σ.1 14)) C hA rfl iX8_custom_X8 (by decide +kernel) dX8_custom_246 ?_
    refine lv_iload_n hx hb dX8_custom_249 rfl (lv_at hl 1 rfl) ?_
    obtain ⟨g2, h⟩ := gd h
    refine Mst_12 C hA g2 dX8_custom_250 (fun H locs hA => ?_)
    refine lv_aload_n hx hb dX8_custom_251 rfl (lv_at hl 0 rfl) ?_
    refine lv_dup hx hb dX8_custom_252 rfl ?_
    refine Mg_X8_customs (v := (σ.1 14)) C hA rfl iX8_custom_X8 (by decide +kernel) dX8_custom_253 ?_
    refine lv_iconst (v := 1) hx hb dX8_custom_256 (by decide) ?_
    refine lv_iadd hx hb dX8_custom_257 ?_
    refine Mp_X8_customs C hA iX8_custom_X8 (by decide +kernel) dX8_custom_258 (fun H locs hA => ?_)
    refine lv_aload_n hx hb dX8_custom_261 rfl (lv_at hl 0 rfl) ?_
    refine Mg_X8_customs (v := ((σ.1 14) + (1 : Int32))) C hA rfl iX8_custom_X8 (by decide +kernel) dX8_custom_262 ?_
    refine lv_iconst (v := 1) hx hb dX8_custom_265 (by decide) ?_
    refine lv_isub hx hb dX8_custom_266 ?_
    obtain rfl := Option.some.inj h
    exact r_iret C hA dX8_custom_267
  · replace h := (if_neg c1).symm.trans h
    refine lv_aload_n hx hb dX8_custom_233 rfl (lv_at hl 0 rfl) ?_
    refine Mg_X8_fault (v := (σ.1 10)) C hA rfl iX8_custom_X8 (by decide +kernel) dX8_custom_234 ?_
    refine lv_bipush (v := 10) hx hb dX8_custom_237 (by decide) ?_
    refine lv_isub hx hb dX8_custom_239 ?_
    obtain rfl := Option.some.inj h
    exact r_iret C hA dX8_custom_240
set_option maxHeartbeats 4000000 in
set_option maxRecDepth 100000 in
theorem w_X8_custom_223 {σ : SS} {x2 : Int32} {x3 : Int32} {x4 : Int32} (C : Cx p l s m args meth c cX8_custom 6 wsX8_custom (some .int) RX8 g A) {k131 : SS → (Int32 × Int32 × Int32) → Option (Int32 × SS)} (hk131 : ∀ (σ : SS) (x : Int32 × Int32 × Int32), k131 σ x = some R → ∀ (H : Heap) (locs : List Loc) (ls : Array Slot), Aw g A s.heap (wM g σ) H locs → lv_has ls 6 [(0, .ref (g.2.1 0)), (2, .int x.1), (3, .int x.2.1), (4, .int x.2.2)] → W p l e rmX8_custom s m args below meth c H locs 0 0 (MQ below (Qi g A (wM g R.2) R.1) args s 0 0 A) (F0 m 131 ls [])) (h : f_X8_custom_223 fu k131 σ x2 x3 x4 = some R) {H : Heap} {locs : List Loc} {ls : Array Slot} (hA : Aw g A s.heap (wM g σ) H locs) (hl : lv_has ls 6 [(0, .ref (g.2.1 0)), (2, .int x2), (3, .int x3), (4, .int x4)]) : W p l e rmX8_custom s m args below meth c H locs 0 0 (MQ below (Qi g A (wM g R.2) R.1) args s 0 0 A) (F0 m 223 ls []) := by
  have hx := C.1.1
  have hb := C.1.2.1
  unfold f_X8_custom_223 at h
  refine lv_goto (tgt := 131) hx hb dX8_custom_223 (by decide) ?_
  exact hk131 _ _ h _ _ _ hA (lv_sub hl [0, 1, 2, 3] rfl)
set_option maxHeartbeats 4000000 in
set_option maxRecDepth 100000 in
theorem w_X8_custom_201 {σ : SS} {x2 : Int32} {x3 : Int32} {x4 : Int32} {y0 : Int32} (C : Cx p l s m args meth c cX8_custom 6 wsX8_custom (some .int) RX8 g A) {k131 : SS → (Int32 × Int32 × Int32) → Option (Int32 × SS)} (hk131 : ∀ (σ : SS) (x : Int32 × Int32 × Int32), k131 σ x = some R → ∀ (H : Heap) (locs : List Loc) (ls : Array Slot), Aw g A s.heap (wM g σ) H locs → lv_has ls 6 [(0, .ref (g.2.1 0)), (2, .int x.1), (3, .int x.2.1), (4, .int x.2.2)] → W p l e rmX8_custom s m args below meth c H locs 0 0 (MQ below (Qi g A (wM g R.2) R.1) args s 0 0 A) (F0 m 131 ls [])) (h : f_X8_custom_201 fu k131 σ x2 x3 x4 y0 = some R) {H : Heap} {locs : List Loc} {ls : Array Slot} (hA : Aw g A s.heap (wM g σ) H locs) (hl : lv_has ls 6 [(0, .ref (g.2.1 0)), (2, .int x2), (3, .int x3), (4, .int x4)]) : W p l e rmX8_custom s m args below meth c H locs 0 0 (MQ below (Qi g A (wM g R.2) R.1) args s 0 0 A) (F0 m 201 ls [.int y0, .ref (g.2.1 0)]) := by
  have hx := C.1.1
  have hb := C.1.2.1
  unfold f_X8_custom_201 at h
  refine lv_aload_n hx hb dX8_custom_201 rfl (lv_at hl 0 rfl) ?_
  refine Mg_X8_at (v := (σ.1 9)) C hA rfl iX8_custom_X8 (by decide +kernel) dX8_custom_202 ?_
  obtain ⟨r1, t3, hc2, h⟩ := bd h
  refine r_callVv (r := r1) (w1 := wM g t3) (As := [.int y0, .int (σ.1 9)]) (rest := []) C hA hl.1 (k_X8_wrong C.2.2.2.2.2.2 hc2) (cwV 2 C.1.2.2.2.2 gX8_custom_X8_wrong rfl rfl rfl nd_X8_wrong ⟨Nat.le_of_ble_eq_true rfl, Nat.le_of_ble_eq_true rfl⟩) 0 rfl rfl rfl rfl (Nat.le_of_ble_eq_true rfl) dX8_custom_205 ⟨Nat.le_of_ble_eq_true rfl, Nat.le_of_ble_eq_true rfl⟩ (fun H locs hA => ?_)
  refine lv_goto (tgt := 223) hx hb dX8_custom_208 (by decide) ?_
  exact w_X8_custom_223 C hk131 h hA (lv_sub hl [0, 1, 2, 3] rfl)
set_option maxHeartbeats 4000000 in
set_option maxRecDepth 100000 in
theorem w_X8_custom_181 {σ : SS} {x2 : Int32} {x3 : Int32} {x4 : Int32} {y0 : Int32} (C : Cx p l s m args meth c cX8_custom 6 wsX8_custom (some .int) RX8 g A) {k131 : SS → (Int32 × Int32 × Int32) → Option (Int32 × SS)} (hk131 : ∀ (σ : SS) (x : Int32 × Int32 × Int32), k131 σ x = some R → ∀ (H : Heap) (locs : List Loc) (ls : Array Slot), Aw g A s.heap (wM g σ) H locs → lv_has ls 6 [(0, .ref (g.2.1 0)), (2, .int x.1), (3, .int x.2.1), (4, .int x.2.2)] → W p l e rmX8_custom s m args below meth c H locs 0 0 (MQ below (Qi g A (wM g R.2) R.1) args s 0 0 A) (F0 m 131 ls [])) (h : f_X8_custom_181 fu k131 σ x2 x3 x4 y0 = some R) {H : Heap} {locs : List Loc} {ls : Array Slot} (hA : Aw g A s.heap (wM g σ) H locs) (hl : lv_has ls 6 [(0, .ref (g.2.1 0)), (2, .int x2), (3, .int x3), (4, .int x4)]) : W p l e rmX8_custom s m args below meth c H locs 0 0 (MQ below (Qi g A (wM g R.2) R.1) args s 0 0 A) (F0 m 181 ls [.int y0]) := by
  have hx := C.1.1
  have hb := C.1.2.1
  unfold f_X8_custom_181 at h
  refine lv_istore (lv' := [(5, .int y0), (0, .ref (g.2.1 0)), (2, .int x2), (3, .int x3), (4, .int x4)]) hx hb dX8_custom_181 hl (by decide) rfl (fun ls hl => ?_)
  refine lv_iload hx hb dX8_custom_183 (lv_at hl 4 rfl) ?_
  refine lv_bipush (v := 8) hx hb dX8_custom_185 (by decide) ?_
  refine lv_icmp_ne (tgt := 211) hx hb dX8_custom_187 (by decide) (fun c1 => ?_) (fun c1 => ?_)
  · replace h := (if_neg c1).symm.trans h
    refine lv_aload_n hx hb dX8_custom_211 rfl (lv_at hl 1 rfl) ?_
    refine lv_iload_n hx hb dX8_custom_212 rfl (lv_at hl 3 rfl) ?_
    obtain ⟨r2, t4, hc3, h⟩ := bd h
    refine r_callVv (r := r2) (w1 := wM g t4) (As := [.int x3]) (rest := []) C hA hl.1 (k_X8_clause C.2.2.2.2.2.2 hc3) (cwV 1 C.1.2.2.2.2 gX8_custom_X8_clause rfl rfl rfl nd_X8_clause ⟨Nat.le_of_ble_eq_true rfl, Nat.le_of_ble_eq_true rfl⟩) 0 rfl rfl rfl rfl (Nat.le_of_ble_eq_true rfl) dX8_custom_213 ⟨Nat.le_of_ble_eq_true rfl, Nat.le_of_ble_eq_true rfl⟩ (fun H locs hA => ?_)
    refine lv_iinc (v := (x4 + 1)) (lv' := [(4, .int (x4 + 1)), (5, .int y0), (0, .ref (g.2.1 0)), (2, .int x2), (3, .int x3)]) hx hb dX8_custom_216 hl (k := 4) rfl rfl (by decide) rfl (fun ls hl => ?_)
    refine lv_aload_n hx hb dX8_custom_219 rfl (lv_at hl 2 rfl) ?_
    obtain ⟨r5, t7, hc6, h⟩ := bd h
    refine r_callVv (r := r5) (w1 := wM g t7) (As := []) (rest := []) C hA hl.1 (k_X8_blanks C.2.2.2.2.2.2 hc6) (cwV 0 C.1.2.2.2.2 gX8_custom_X8_blanks rfl rfl rfl nd_X8_blanks ⟨Nat.le_of_ble_eq_true rfl, Nat.le_of_ble_eq_true rfl⟩) 0 rfl rfl rfl rfl (Nat.le_of_ble_eq_true rfl) dX8_custom_220 ⟨Nat.le_of_ble_eq_true rfl, Nat.le_of_ble_eq_true rfl⟩ (fun H locs hA => ?_)
    exact w_X8_custom_223 C hk131 h hA (lv_sub hl [2, 3, 4, 0] rfl)
  · replace h := (if_pos c1).symm.trans h
    refine lv_aload_n hx hb dX8_custom_190 rfl (lv_at hl 1 rfl) ?_
    refine lv_iload hx hb dX8_custom_191 (lv_at hl 0 rfl) ?_
    refine lv_if_eq (tgt := 200) hx hb dX8_custom_193 (by decide) (fun c8 => ?_) (fun c8 => ?_)
    · replace h := (if_pos c8).symm.trans h
      refine lv_iconst (v := 1) hx hb dX8_custom_200 (by decide) ?_
      exact w_X8_custom_201 C hk131 h hA (lv_sub hl [1, 2, 3, 4] rfl)
    · replace h := (if_neg c8).symm.trans h
      refine lv_iconst (v := 3) hx hb dX8_custom_196 (by decide) ?_
      refine lv_goto (tgt := 201) hx hb dX8_custom_197 (by decide) ?_
      exact w_X8_custom_201 C hk131 h hA (lv_sub hl [1, 2, 3, 4] rfl)
set_option maxHeartbeats 4000000 in
set_option maxRecDepth 100000 in
theorem w_X8_custom_176 {σ : SS} {x2 : Int32} {x3 : Int32} {x4 : Int32} (C : Cx p l s m args meth c cX8_custom 6 wsX8_custom (some .int) RX8 g A) {k131 : SS → (Int32 × Int32 × Int32) → Option (Int32 × SS)} (hk131 : ∀ (σ : SS) (x : Int32 × Int32 × Int32), k131 σ x = some R → ∀ (H : Heap) (locs : List Loc) (ls : Array Slot), Aw g A s.heap (wM g σ) H locs → lv_has ls 6 [(0, .ref (g.2.1 0)), (2, .int x.1), (3, .int x.2.1), (4, .int x.2.2)] → W p l e rmX8_custom s m args below meth c H locs 0 0 (MQ below (Qi g A (wM g R.2) R.1) args s 0 0 A) (F0 m 131 ls [])) (h : f_X8_custom_176 fu k131 σ x2 x3 x4 = some R) {H : Heap} {locs : List Loc} {ls : Array Slot} (hA : Aw g A s.heap (wM g σ) H locs) (hl : lv_has ls 6 [(0, .ref (g.2.1 0)), (2, .int x2), (3, .int x3), (4, .int x4)]) : W p l e rmX8_custom s m args below meth c H locs 0 0 (MQ below (Qi g A (wM g R.2) R.1) args s 0 0 A) (F0 m 176 ls []) := by
  have hx := C.1.1
  have hb := C.1.2.1
  unfold f_X8_custom_176 at h
  refine lv_iconst (v := 1) hx hb dX8_custom_176 (by decide) ?_
  refine lv_goto (tgt := 181) hx hb dX8_custom_177 (by decide) ?_
  exact w_X8_custom_181 C hk131 h hA (lv_sub hl [0, 1, 2, 3] rfl)
set_option maxHeartbeats 4000000 in
set_option maxRecDepth 100000 in
theorem w_X8_custom_131 {σ : SS} {x2 : Int32} {x3 : Int32} {x4 : Int32} (C : Cx p l s m args meth c cX8_custom 6 wsX8_custom (some .int) RX8 g A) {k131 : SS → (Int32 × Int32 × Int32) → Option (Int32 × SS)} (hk131 : ∀ (σ : SS) (x : Int32 × Int32 × Int32), k131 σ x = some R → ∀ (H : Heap) (locs : List Loc) (ls : Array Slot), Aw g A s.heap (wM g σ) H locs → lv_has ls 6 [(0, .ref (g.2.1 0)), (2, .int x.1), (3, .int x.2.1), (4, .int x.2.2)] → W p l e rmX8_custom s m args below meth c H locs 0 0 (MQ below (Qi g A (wM g R.2) R.1) args s 0 0 A) (F0 m 131 ls [])) (h : f_X8_custom_131 fu k131 σ x2 x3 x4 = some R) {H : Heap} {locs : List Loc} {ls : Array Slot} (hA : Aw g A s.heap (wM g σ) H locs) (hl : lv_has ls 6 [(0, .ref (g.2.1 0)), (2, .int x2), (3, .int x3), (4, .int x4)]) : W p l e rmX8_custom s m args below meth c H locs 0 0 (MQ below (Qi g A (wM g R.2) R.1) args s 0 0 A) (F0 m 131 ls []) := by
  have hx := C.1.1
  have hb := C.1.2.1
  unfold f_X8_custom_131 at h
  refine lv_aload_n hx hb dX8_custom_131 rfl (lv_at hl 0 rfl) ?_
  refine Mg_X8_fault (v := (σ.1 10)) C hA rfl iX8_custom_X8 (by decide +kernel) dX8_custom_132 ?_
  refine lv_if_ne (tgt := 226) hx hb dX8_custom_135 (by decide) (fun c1 => ?_) (fun c1 => ?_)
  · replace h := (if_neg c1).symm.trans h
    exact w_X8_custom_226 C h hA (lv_sub hl [0, 1] rfl)
  · replace h := (if_pos c1).symm.trans h
    refine lv_aload_n hx hb dX8_custom_138 rfl (lv_at hl 0 rfl) ?_
    refine Mg_X8_at (v := (σ.1 9)) C hA rfl iX8_custom_X8 (by decide +kernel) dX8_custom_139 ?_
    refine lv_aload_n hx hb dX8_custom_142 rfl (lv_at hl 0 rfl) ?_
    refine Mg_X8_size (v := (σ.1 8)) C hA rfl iX8_custom_X8 (by decide +kernel) dX8_custom_143 ?_
    refine lv_icmp_ge (tgt := 226) hx hb dX8_custom_146 (by decide) (fun c2 => ?_) (fun c2 => ?_)
    · replace h := (if_pos c2).symm.trans h
      exact w_X8_custom_226 C h hA (lv_sub hl [0, 1] rfl)
    · replace h := (if_neg c2).symm.trans h
      refine lv_aload_n hx hb dX8_custom_149 rfl (lv_at hl 0 rfl) ?_
      refine va_ldcS hx hb C.1.2.2.2.1 C.2.2.2.2.2.1.2.2.2.2.2.2.2.2.2.2.2.2.2.2.2.2.2.2.2.2.2.2.2.2.2.2.2.2.2.2.2.1 dX8_custom_150 ?_
      obtain ⟨r3, t5, hc4, h⟩ := bd h
      refine r_callVi (r := r3) (w1 := wM g t5) (As := [.ref (g.2.2.2.1 0)]) (rest := []) C hA hl.1 (k_X8_isWord C.2.2.2.2.2.2 hc4) (cwV 1 C.1.2.2.2.2 gX8_custom_X8_isWord rfl rfl rfl nd_X8_isWord ⟨Nat.le_of_ble_eq_true rfl, Nat.le_of_ble_eq_true rfl⟩) 0 rfl rfl rfl rfl (Nat.le_of_ble_eq_true rfl) dX8_custom_152 ⟨Nat.le_of_ble_eq_true rfl, Nat.le_of_ble_eq_true rfl⟩ (fun H locs hA => ?_)
      refine lv_if_ne (tgt := 176) hx hb dX8_custom_155 (by decide) (fun c6 => ?_) (fun c6 => ?_)
      · replace h := (if_neg c6).symm.trans h
        exact w_X8_custom_176 C hk131 h hA (lv_sub hl [0, 1, 2, 3] rfl)
      · replace h := (if_pos c6).symm.trans h
        refine lv_aload_n hx hb dX8_custom_158 rfl (lv_at hl 0 rfl) ?_
        refine va_ldcS hx hb C.1.2.2.2.1 C.2.2.2.2.2.1.2.2.2.2.2.2.2.2.2.2.2.2.2.2.2.2.2.2.2.2.2.2.2.2.2.2.2.2.2.2.2.2.2.1 dX8_custom_159 ?_
        obtain ⟨r7, t9, hc8, h⟩ := bd h
        refine r_callVi (r := r7) (w1 := wM g t9) (As := [.ref (g.2.2.2.1 1)]) (rest := []) C hA hl.1 (k_X8_isWord C.2.2.2.2.2.2 hc8) (cwV 1 C.1.2.2.2.2 gX8_custom_X8_isWord rfl rfl rfl nd_X8_isWord ⟨Nat.le_of_ble_eq_true rfl, Nat.le_of_ble_eq_true rfl⟩) 0 rfl rfl rfl rfl (Nat.le_of_ble_eq_true rfl) dX8_custom_161 ⟨Nat.le_of_ble_eq_true rfl, Nat.le_of_ble_eq_true rfl⟩ (fun H locs hA => ?_)
        refine lv_if_ne (tgt := 176) hx hb dX8_custom_164 (by decide) (fun c10 => ?_) (fun c10 => ?_)
        · replace h := (if_neg c10).symm.trans h
          exact w_X8_custom_176 C hk131 h hA (lv_sub hl [0, 1, 2, 3] rfl)
        · replace h := (if_pos c10).symm.trans h
          refine lv_aload_n hx hb dX8_custom_167 rfl (lv_at hl 0 rfl) ?_
          refine va_ldcS hx hb C.1.2.2.2.1 C.2.2.2.2.2.1.2.2.2.2.2.2.2.2.2.2.2.2.2.2.2.2.2.2.2.2.2.2.2.2.2.2.2.2.2.2.2.2.2.2.1 dX8_custom_168 ?_
          obtain ⟨r11, t13, hc12, h⟩ := bd h
          refine r_callVi (r := r11) (w1 := wM g t13) (As := [.ref (g.2.2.2.1 2)]) (rest := []) C hA hl.1 (k_X8_isWord C.2.2.2.2.2.2 hc12) (cwV 1 C.1.2.2.2.2 gX8_custom_X8_isWord rfl rfl rfl nd_X8_isWord ⟨Nat.le_of_ble_eq_true rfl, Nat.le_of_ble_eq_true rfl⟩) 0 rfl rfl rfl rfl (Nat.le_of_ble_eq_true rfl) dX8_custom_170 ⟨Nat.le_of_ble_eq_true rfl, Nat.le_of_ble_eq_true rfl⟩ (fun H locs hA => ?_)
          refine lv_if_eq (tgt := 180) hx hb dX8_custom_173 (by decide) (fun c14 => ?_) (fun c14 => ?_)
          · replace h := (if_pos c14).symm.trans h
            refine lv_iconst (v := 0) hx hb dX8_custom_180 (by decide) ?_
            exact w_X8_custom_181 C hk131 h hA (lv_sub hl [0, 1, 2, 3] rfl)
          · replace h := (if_neg c14).symm.trans h
            exact w_X8_custom_176 C hk131 h hA (lv_sub hl [0, 1, 2, 3] rfl)
set_option maxHeartbeats 4000000 in
theorem w_X8_custom_L131 {σ : SS} {x : Int32 × Int32 × Int32} (C : Cx p l s m args meth c cX8_custom 6 wsX8_custom (some .int) RX8 g A) (h : f_X8_custom_L131 fu σ x = some R) {H : Heap} {locs : List Loc} {ls : Array Slot} (hA : Aw g A s.heap (wM g σ) H locs) (hl : lv_has ls 6 [(0, .ref (g.2.1 0)), (2, .int x.1), (3, .int x.2.1), (4, .int x.2.2)]) : W p l e rmX8_custom s m args below meth c H locs 0 0 (MQ below (Qi g A (wM g R.2) R.1) args s 0 0 A) (F0 m 131 ls []) := by
  refine loopW (P := fun σ x => ∀ (H : Heap) (locs : List Loc) (ls : Array Slot), Aw g A s.heap (wM g σ) H locs → lv_has ls 6 [(0, .ref (g.2.1 0)), (2, .int x.1), (3, .int x.2.1), (4, .int x.2.2)] → W p l e rmX8_custom s m args below meth c H locs 0 0 (MQ below (Qi g A (wM g R.2) R.1) args s 0 0 A) (F0 m 131 ls [])) (fun k hk σ x h9 H locs ls hA9 hl9 => ?_) fu σ x h H locs ls hA hl
  exact w_X8_custom_131 C hk h9 hA9 hl9
set_option maxHeartbeats 4000000 in
set_option maxRecDepth 100000 in
theorem w_X8_custom_101 {σ : SS} {x2 : Int32} {x3 : Int32} {x4 : Int32} (C : Cx p l s m args meth c cX8_custom 6 wsX8_custom (some .int) RX8 g A) {k101 : SS → (Int32 × Int32 × Int32) → Option (Int32 × SS)} (hk101 : ∀ (σ : SS) (x : Int32 × Int32 × Int32), k101 σ x = some R → ∀ (H : Heap) (locs : List Loc) (ls : Array Slot), Aw g A s.heap (wM g σ) H locs → lv_has ls 6 [(0, .ref (g.2.1 0)), (2, .int x.1), (3, .int x.2.1), (4, .int x.2.2)] → W p l e rmX8_custom s m args below meth c H locs 0 0 (MQ below (Qi g A (wM g R.2) R.1) args s 0 0 A) (F0 m 101 ls [])) (h : f_X8_custom_101 fu k101 σ x2 x3 x4 = some R) {H : Heap} {locs : List Loc} {ls : Array Slot} (hA : Aw g A s.heap (wM g σ) H locs) (hl : lv_has ls 6 [(0, .ref (g.2.1 0)), (2, .int x2), (3, .int x3), (4, .int x4)]) : W p l e rmX8_custom s m args below meth c H locs 0 0 (MQ below (Qi g A (wM g R.2) R.1) args s 0 0 A) (F0 m 101 ls []) := by
  have hx := C.1.1
  have hb := C.1.2.1
  unfold f_X8_custom_101 at h
  refine lv_iload hx hb dX8_custom_101 (lv_at hl 3 rfl) ?_
  refine lv_bipush (v := 6) hx hb dX8_custom_103 (by decide) ?_
  refine lv_icmp_ge (tgt := 124) hx hb dX8_custom_105 (by decide) (fun c1 => ?_) (fun c1 => ?_)
  · replace h := (if_pos c1).symm.trans h
    refine lv_iconst (v := 0) hx hb dX8_custom_124 (by decide) ?_
    refine lv_istore (lv' := [(4, .int (0 : Int32)), (0, .ref (g.2.1 0)), (2, .int x2), (3, .int x3)]) hx hb dX8_custom_125 hl (by decide) rfl (fun ls hl => ?_)
    refine lv_aload_n hx hb dX8_custom_127 rfl (lv_at hl 1 rfl) ?_
    obtain ⟨r2, t4, hc3, h⟩ := bd h
    refine r_callVv (r := r2) (w1 := wM g t4) (As := []) (rest := []) C hA hl.1 (k_X8_blanks C.2.2.2.2.2.2 hc3) (cwV 0 C.1.2.2.2.2 gX8_custom_X8_blanks rfl rfl rfl nd_X8_blanks ⟨Nat.le_of_ble_eq_true rfl, Nat.le_of_ble_eq_true rfl⟩) 0 rfl rfl rfl rfl (Nat.le_of_ble_eq_true rfl) dX8_custom_128 ⟨Nat.le_of_ble_eq_true rfl, Nat.le_of_ble_eq_true rfl⟩ (fun H locs hA => ?_)
    exact w_X8_custom_L131 C h hA (lv_sub hl [1, 2, 3, 0] rfl)
  · replace h := (if_neg c1).symm.trans h
    refine lv_aload_n hx hb dX8_custom_108 rfl (lv_at hl 0 rfl) ?_
    refine Mg_X8_terms C hA iX8_custom_X8 (by decide +kernel) dX8_custom_109 ?_
    refine lv_iload_n hx hb dX8_custom_112 rfl (lv_at hl 2 rfl) ?_
    refine lv_iload hx hb dX8_custom_113 (lv_at hl 3 rfl) ?_
    refine lv_iadd hx hb dX8_custom_115 ?_
    refine lv_iconst (v := 0) hx hb dX8_custom_116 (by decide) ?_
    obtain ⟨g5, h⟩ := gd h
    refine Mst_13 C hA g5 dX8_custom_117 (fun H locs hA => ?_)
    refine lv_iinc (v := (x4 + 1)) (lv' := [(4, .int (x4 + 1)), (0, .ref (g.2.1 0)), (2, .int x2), (3, .int x3)]) hx hb dX8_custom_118 hl (k := 3) rfl rfl (by decide) rfl (fun ls hl => ?_)
    refine lv_goto (tgt := 101) hx hb dX8_custom_121 (by decide) ?_
    exact hk101 _ _ h _ _ _ hA (lv_sub hl [1, 2, 3, 0] rfl)
set_option maxHeartbeats 4000000 in
theorem w_X8_custom_L101 {σ : SS} {x : Int32 × Int32 × Int32} (C : Cx p l s m args meth c cX8_custom 6 wsX8_custom (some .int) RX8 g A) (h : f_X8_custom_L101 fu σ x = some R) {H : Heap} {locs : List Loc} {ls : Array Slot} (hA : Aw g A s.heap (wM g σ) H locs) (hl : lv_has ls 6 [(0, .ref (g.2.1 0)), (2, .int x.1), (3, .int x.2.1), (4, .int x.2.2)]) : W p l e rmX8_custom s m args below meth c H locs 0 0 (MQ below (Qi g A (wM g R.2) R.1) args s 0 0 A) (F0 m 101 ls []) := by
  refine loopW (P := fun σ x => ∀ (H : Heap) (locs : List Loc) (ls : Array Slot), Aw g A s.heap (wM g σ) H locs → lv_has ls 6 [(0, .ref (g.2.1 0)), (2, .int x.1), (3, .int x.2.1), (4, .int x.2.2)] → W p l e rmX8_custom s m args below meth c H locs 0 0 (MQ below (Qi g A (wM g R.2) R.1) args s 0 0 A) (F0 m 101 ls [])) (fun k hk σ x h9 H locs ls hA9 hl9 => ?_) fu σ x h H locs ls hA hl
  exact w_X8_custom_101 C hk h9 hA9 hl9
set_option maxHeartbeats 4000000 in
set_option maxRecDepth 100000 in
theorem w_X8_custom_56 {σ : SS} {x1 : Int32} {x2 : Int32} {y0 : Int32} (C : Cx p l s m args meth c cX8_custom 6 wsX8_custom (some .int) RX8 g A) (h : f_X8_custom_56 fu σ x1 x2 y0 = some R) {H : Heap} {locs : List Loc} {ls : Array Slot} (hA : Aw g A s.heap (wM g σ) H locs) (hl : lv_has ls 6 [(0, .ref (g.2.1 0)), (1, .int x1), (2, .int x2)]) : W p l e rmX8_custom s m args below meth c H locs 0 0 (MQ below (Qi g A (wM g R.2) R.1) args s 0 0 A) (F0 m 56 ls [.int y0, .ref (g.2.1 0)]) := by
  have hx := C.1.1
  have hb := C.1.2.1
  unfold f_X8_custom_56 at h
  refine lv_iconst (v := 2) hx hb dX8_custom_56 (by decide) ?_
  obtain ⟨r1, t3, hc2, h⟩ := bd h
  refine r_callVi (r := r1) (w1 := wM g t3) (As := [.int y0, .int (2 : Int32)]) (rest := []) C hA hl.1 (k_X8_bad C.2.2.2.2.2.2 hc2) (cwV 2 C.1.2.2.2.2 gX8_custom_X8_bad rfl rfl rfl nd_X8_bad ⟨Nat.le_of_ble_eq_true rfl, Nat.le_of_ble_eq_true rfl⟩) 0 rfl rfl rfl rfl (Nat.le_of_ble_eq_true rfl) dX8_custom_57 ⟨Nat.le_of_ble_eq_true rfl, Nat.le_of_ble_eq_true rfl⟩ (fun H locs hA => ?_)
  refine lv_if_eq (tgt := 65) hx hb dX8_custom_60 (by decide) (fun c4 => ?_) (fun c4 => ?_)
  · replace h := (if_pos c4).symm.trans h
    refine lv_aload_n hx hb dX8_custom_65 rfl (lv_at hl 0 rfl) ?_
    refine lv_iload_n hx hb dX8_custom_66 rfl (lv_at hl 1 rfl) ?_
    refine Mp_X8_size C hA iX8_custom_X8 (by decide +kernel) dX8_custom_67 (fun H locs hA => ?_)
    refine lv_aload_n hx hb dX8_custom_70 rfl (lv_at hl 0 rfl) ?_
    refine lv_iconst (v := 0) hx hb dX8_custom_71 (by decide) ?_
    refine Mp_X8_taped C hA iX8_custom_X8 (by decide +kernel) dX8_custom_72 (fun H locs hA => ?_)
    refine lv_aload_n hx hb dX8_custom_75 rfl (lv_at hl 0 rfl) ?_
    refine lv_iconst (v := 0) hx hb dX8_custom_76 (by decide) ?_
    refine Mp_X8_at C hA iX8_custom_X8 (by decide +kernel) dX8_custom_77 (fun H locs hA => ?_)
    refine lv_aload_n hx hb dX8_custom_80 rfl (lv_at hl 0 rfl) ?_
    refine lv_iconst (v := 0) hx hb dX8_custom_81 (by decide) ?_
    refine Mp_X8_fault C hA iX8_custom_X8 (by decide +kernel) dX8_custom_82 (fun H locs hA => ?_)
    refine lv_aload_n hx hb dX8_custom_85 rfl (lv_at hl 0 rfl) ?_
    refine lv_iconst (v := (-1)) hx hb dX8_custom_86 (by decide) ?_
    refine Mp_X8_place C hA iX8_custom_X8 (by decide +kernel) dX8_custom_87 (fun H locs hA => ?_)
    refine lv_bipush (v := 6) hx hb dX8_custom_90 (by decide) ?_
    refine lv_aload_n hx hb dX8_custom_92 rfl (lv_at hl 0 rfl) ?_
    refine Mg_X8_customs (v := (t3.1 14)) C hA rfl iX8_custom_X8 (by decide +kernel) dX8_custom_93 ?_
    refine lv_imul hx hb dX8_custom_96 ?_
    refine lv_istore_n (lv' := [(3, .int ((6 : Int32) * (t3.1 14))), (0, .ref (g.2.1 0)), (1, .int x1), (2, .int x2)]) hx hb dX8_custom_97 rfl hl (by decide) rfl (fun ls hl => ?_)
    refine lv_iconst (v := 0) hx hb dX8_custom_98 (by decide) ?_
    refine lv_istore (lv' := [(4, .int (0 : Int32)), (3, .int ((6 : Int32) * (t3.1 14))), (0, .ref (g.2.1 0)), (1, .int x1), (2, .int x2)]) hx hb dX8_custom_99 hl (by decide) rfl (fun ls hl => ?_)
    exact w_X8_custom_L101 C h hA (lv_sub hl [2, 4, 1, 0] rfl)
  · replace h := (if_neg c4).symm.trans h
    refine lv_iconst (v := 0) hx hb dX8_custom_63 (by decide) ?_
    obtain rfl := Option.some.inj h
    exact r_iret C hA dX8_custom_64
set_option maxHeartbeats 4000000 in
set_option maxRecDepth 100000 in
theorem w_X8_custom_34 {σ : SS} {x1 : Int32} {x2 : Int32} {y0 : Int32} (C : Cx p l s m args meth c cX8_custom 6 wsX8_custom (some .int) RX8 g A) (h : f_X8_custom_34 fu σ x1 x2 y0 = some R) {H : Heap} {locs : List Loc} {ls : Array Slot} (hA : Aw g A s.heap (wM g σ) H locs) (hl : lv_has ls 6 [(0, .ref (g.2.1 0)), (1, .int x1), (2, .int x2)]) : W p l e rmX8_custom s m args below meth c H locs 0 0 (MQ below (Qi g A (wM g R.2) R.1) args s 0 0 A) (F0 m 34 ls [.int y0, .ref (g.2.1 0)]) := by
  have hx := C.1.1
  have hb := C.1.2.1
  unfold f_X8_custom_34 at h
  refine lv_iconst (v := 1) hx hb dX8_custom_34 (by decide) ?_
  obtain ⟨r1, t3, hc2, h⟩ := bd h
  refine r_callVi (r := r1) (w1 := wM g t3) (As := [.int y0, .int (1 : Int32)]) (rest := []) C hA hl.1 (k_X8_bad C.2.2.2.2.2.2 hc2) (cwV 2 C.1.2.2.2.2 gX8_custom_X8_bad rfl rfl rfl nd_X8_bad ⟨Nat.le_of_ble_eq_true rfl, Nat.le_of_ble_eq_true rfl⟩) 0 rfl rfl rfl rfl (Nat.le_of_ble_eq_true rfl) dX8_custom_35 ⟨Nat.le_of_ble_eq_true rfl, Nat.le_of_ble_eq_true rfl⟩ (fun H locs hA => ?_)
  refine lv_if_ne (tgt := 63) hx hb dX8_custom_38 (by decide) (fun c4 => ?_) (fun c4 => ?_)
  · replace h := (if_neg c4).symm.trans h
    refine lv_iconst (v := 0) hx hb dX8_custom_63 (by decide) ?_
    obtain rfl := Option.some.inj h
    exact r_iret C hA dX8_custom_64
  · replace h := (if_pos c4).symm.trans h
    refine lv_aload_n hx hb dX8_custom_41 rfl (lv_at hl 0 rfl) ?_
    refine lv_aload_n hx hb dX8_custom_42 rfl (lv_at hl 0 rfl) ?_
    refine Mg_X8_customs (v := (t3.1 14)) C hA rfl iX8_custom_X8 (by decide +kernel) dX8_custom_43 ?_
    refine lv_bipush (v := 20) hx hb dX8_custom_46 (by decide) ?_
    refine lv_icmp_ne (tgt := 55) hx hb dX8_custom_48 (by decide) (fun c5 => ?_) (fun c5 => ?_)
    · replace h := (if_neg c5).symm.trans h
      refine lv_iconst (v := 0) hx hb dX8_custom_55 (by decide) ?_
      exact w_X8_custom_56 C h hA (lv_sub hl [0, 1, 2] rfl)
    · replace h := (if_pos c5).symm.trans h
      refine lv_iconst (v := 1) hx hb dX8_custom_51 (by decide) ?_
      refine lv_goto (tgt := 56) hx hb dX8_custom_52 (by decide) ?_
      exact w_X8_custom_56 C h hA (lv_sub hl [0, 1, 2] rfl)
set_option maxHeartbeats 4000000 in
set_option maxRecDepth 100000 in
theorem w_X8_custom_29 {σ : SS} {x1 : Int32} {x2 : Int32} (C : Cx p l s m args meth c cX8_custom 6 wsX8_custom (some .int) RX8 g A) (h : f_X8_custom_29 fu σ x1 x2 = some R) {H : Heap} {locs : List Loc} {ls : Array Slot} (hA : Aw g A s.heap (wM g σ) H locs) (hl : lv_has ls 6 [(0, .ref (g.2.1 0)), (1, .int x1), (2, .int x2)]) : W p l e rmX8_custom s m args below meth c H locs 0 0 (MQ below (Qi g A (wM g R.2) R.1) args s 0 0 A) (F0 m 29 ls [.ref (g.2.1 0)]) := by
  have hx := C.1.1
  have hb := C.1.2.1
  unfold f_X8_custom_29 at h
  refine lv_iconst (v := 1) hx hb dX8_custom_29 (by decide) ?_
  refine lv_goto (tgt := 34) hx hb dX8_custom_30 (by decide) ?_
  exact w_X8_custom_34 C h hA (lv_sub hl [0, 1, 2] rfl)
set_option maxHeartbeats 4000000 in
set_option maxRecDepth 100000 in
theorem w_X8_custom_0 {σ : SS} {x1 : Int32} {x2 : Int32} (C : Cx p l s m args meth c cX8_custom 6 wsX8_custom (some .int) RX8 g A) (h : f_X8_custom fu σ x1 x2 = some R) {H : Heap} {locs : List Loc} {ls : Array Slot} (hA : Aw g A s.heap (wM g σ) H locs) (hl : lv_has ls 6 [(0, .ref (g.2.1 0)), (1, .int x1), (2, .int x2)]) : W p l e rmX8_custom s m args below meth c H locs 0 0 (MQ below (Qi g A (wM g R.2) R.1) args s 0 0 A) (F0 m 0 ls []) := by
  have hx := C.1.1
  have hb := C.1.2.1
  unfold f_X8_custom at h
  refine lv_aload_n hx hb dX8_custom_0 rfl (lv_at hl 0 rfl) ?_
  refine lv_iconst (v := 0) hx hb dX8_custom_1 (by decide) ?_
  refine Mp_X8_thrown C hA iX8_custom_X8 (by decide +kernel) dX8_custom_2 (fun H locs hA => ?_)
  refine lv_aload_n hx hb dX8_custom_5 rfl (lv_at hl 0 rfl) ?_
  refine lv_iload_n hx hb dX8_custom_6 rfl (lv_at hl 1 rfl) ?_
  refine lv_if_lt (tgt := 29) hx hb dX8_custom_7 (by decide) (fun c1 => ?_) (fun c1 => ?_)
  · replace h := (if_pos c1).symm.trans h
    exact w_X8_custom_29 C h hA (lv_sub hl [0, 1, 2] rfl)
  · replace h := (if_neg c1).symm.trans h
    refine lv_iload_n hx hb dX8_custom_10 rfl (lv_at hl 1 rfl) ?_
    refine lv_aload_n hx hb dX8_custom_11 rfl (lv_at hl 0 rfl) ?_
    refine Mg_X8_taped (v := (σ.1 7)) C hA rfl iX8_custom_X8 (by decide +kernel) dX8_custom_12 ?_
    refine lv_icmp_gt (tgt := 29) hx hb dX8_custom_15 (by decide) (fun c2 => ?_) (fun c2 => ?_)
    · replace h := (if_pos c2).symm.trans h
      exact w_X8_custom_29 C h hA (lv_sub hl [0, 1, 2] rfl)
    · replace h := (if_neg c2).symm.trans h
      refine lv_iload_n hx hb dX8_custom_18 rfl (lv_at hl 2 rfl) ?_
      refine lv_if_lt (tgt := 29) hx hb dX8_custom_19 (by decide) (fun c3 => ?_) (fun c3 => ?_)
      · replace h := (if_pos c3).symm.trans h
        exact w_X8_custom_29 C h hA (lv_sub hl [0, 1, 2] rfl)
      · replace h := (if_neg c3).symm.trans h
        refine lv_iload_n hx hb dX8_custom_22 rfl (lv_at hl 2 rfl) ?_
        refine lv_sipush (v := 1000) hx hb dX8_custom_23 (by decide) ?_
        refine lv_icmp_le (tgt := 33) hx hb dX8_custom_26 (by decide) (fun c4 => ?_) (fun c4 => ?_)
        · replace h := (if_pos c4).symm.trans h
          refine lv_iconst (v := 0) hx hb dX8_custom_33 (by decide) ?_
          exact w_X8_custom_34 C h hA (lv_sub hl [0, 1, 2] rfl)
        · replace h := (if_neg c4).symm.trans h
          exact w_X8_custom_29 C h hA (lv_sub hl [0, 1, 2] rfl)
end
set_option maxRecDepth 100000 in
theorem k_X8_custom {l : Launch} {g : Gm} {fu : Nat} {σ : SS} {x1 : Int32} {x2 : Int32} {R : Int32 × SS} (hlt : l.stackTraces = false) (h : f_X8_custom fu σ x1 x2 = some R) (sz : Nat) : Met l yX8_custom wsX8_custom rmX8_custom (Pw g (wM g σ) [.ref (g.2.1 0), .int x1, .int x2] sz) (Qi g (va_A (wM g σ) sz) (wM g R.2) R.1) 0 0 (va_A (wM g σ) sz) :=
  ofM (own := RX8) hlt (by decide) rfl rfl (Nat.le_of_ble_eq_true rfl) (fun p e s m below meth c hsz C hA ls hl => w_X8_custom_0 C h hA hl)

abbrev rmX7_feast : Room := { frames := 5, cells := 0, slots := 0, locals := 119 }
abbrev rxX7_feast : Room := { frames := 8, cells := 1, slots := 6, locals := 137 }
theorem iX7_feast_X0 : ∀ x ∈ wsX00, x ∈ wsX7_feast := by decide +kernel
theorem iX7_feast_X7 : ∀ x ∈ wsX70, x ∈ wsX7_feast := by decide +kernel
theorem nd_X7_feast : yX7_feast.cls = RX7 ∧ yX7_feast.cls ≠ "java/lang/invoke/MethodHandle" ∧ yX7_feast.cls ≠ "java/lang/invoke/VarHandle" ∧ (parseMethodDescriptor yX7_feast.desc).map (fun d => d.parameters.length) = some 4 := by decide +kernel
def f_X7_feast_151 (fu : Nat) (k85 : SS → (Int32 × Int32 × Int32 × Int32 × Int32 × Int32 × Int32) → Option ((Int32 ⊕ Nat) × SS)) (σ : SS) (x1 : Int32) (x2 : Int32) (x3 : Int32) (x4 : Int32) (x5 : Int32) (x6 : Int32) (x7 : Int32) : Option ((Int32 ⊕ Nat) × SS) :=
  k85 σ (x1, x2, x3, x4, x5, x6, (x7 + 1))
def f_X7_feast_85 (fu : Nat) (k85 : SS → (Int32 × Int32 × Int32 × Int32 × Int32 × Int32 × Int32) → Option ((Int32 ⊕ Nat) × SS)) (σ : SS) (x1 : Int32) (x2 : Int32) (x3 : Int32) (x4 : Int32) (x5 : Int32) (x6 : Int32) (x7 : Int32) : Option ((Int32 ⊕ Nat) × SS) :=
  (if (σ.1 14) ≤ x7 then some (.inl x6, σ) else bnd1 (f_X7_isIn fu σ x2 x7) (fun r2 => (if r2 = 0 then bnd1 (f_X7_isIn fu σ x4 x7) (fun r5 => (if r5 = 0 then f_X7_feast_151 fu k85 σ x1 x2 x3 x4 x5 x6 x7 else bnd (f_X0_moveBlankets fu σ x1 x7 x5) (fun r8 t10 => f_X7_feast_151 fu k85 t10 x1 x2 x3 x4 x5 x6 x7))) else bnd (f_X0_moveBlankets fu σ x1 x7 x3) (fun r11 t13 => bnd (f_X7_recordGiven fu t13 x1 x7 x3) (fun r14 t16 => f_X7_feast_151 fu k85 t16 x1 x2 x3 x4 x5 x6 x7)))))
def f_X7_feast_L85 (fu : Nat) : SS → (Int32 × Int32 × Int32 × Int32 × Int32 × Int32 × Int32) → Option ((Int32 ⊕ Nat) × SS) := loopN (fun k85 σ x => f_X7_feast_85 fu k85 σ x.1 x.2.1 x.2.2.1 x.2.2.2.1 x.2.2.2.2.1 x.2.2.2.2.2.1 x.2.2.2.2.2.2) fu
def f_X7_feast (fu : Nat) (σ : SS) (x1 : Int32) (x2 : Int32) (x3 : Int32) (x4 : Int32) : Option ((Int32 ⊕ Nat) × SS) :=
  bndX (f_X7_checkFeast fu σ x1 x2 x3 x4) σ (fun r1 => bnd1 (f_X2_inForce fu σ (σ.1 0)) (fun r3 => bnd1 (f_X2_witnessShare fu σ r3) (fun r5 => bnd1 (f_J6_bitCount_0f7a4 fu σ x2) (fun r7 => bnd1 (f_J6_bitCount_0f7a4 fu σ x4) (fun r9 => if inB x1 12 then (if ((r7 * x3) + (r9 * r5)) ≤ (σ.2.1 19 (x1).toNatClampNeg) then bnd1 (f_X7_debtsMadeByFeast fu σ x1 x2 x3) (fun r13 => bnd1 (f_X3_room fu σ) (fun r15 => (if r13 ≤ r15 then f_X7_feast_L85 fu σ (x1, x2, x3, x4, r5, ((r7 * x3) + (r9 * r5)), (0 : Int32)) else some (.inl (-2), σ)))) else some (.inl (-1), σ)) else none)))))
section
variable {p : Program} {l : Launch} {e : Env} {s : State} {m : MethodId} {args : Array Value} {below : List Frame} {meth : Method} {c : Code} {g : Gm} {A : Nat → Prop} {fu : Nat} {v0 : Int32} {τ : SS} {j : Nat}
set_option maxHeartbeats 4000000 in
set_option maxRecDepth 100000 in
theorem w_X7_feast_151 {σ : SS} {x1 : Int32} {x2 : Int32} {x3 : Int32} {x4 : Int32} {x5 : Int32} {x6 : Int32} {x7 : Int32} (C : Cx p l s m args meth c cX7_feast 8 wsX7_feast (some .int) RX7 g A) {k85 : SS → (Int32 × Int32 × Int32 × Int32 × Int32 × Int32 × Int32) → Option ((Int32 ⊕ Nat) × SS)} (hk85 : ∀ (σ : SS) (x : Int32 × Int32 × Int32 × Int32 × Int32 × Int32 × Int32), k85 σ x = some (.inl v0, τ) → ∀ (H : Heap) (locs : List Loc) (ls : Array Slot), Aw g A s.heap (wX g σ) H locs → lv_has ls 8 [(0, .ref (g.2.1 0)), (1, .int x.1), (2, .int x.2.1), (3, .int x.2.2.1), (4, .int x.2.2.2.1), (5, .int x.2.2.2.2.1), (6, .int x.2.2.2.2.2.1), (7, .int x.2.2.2.2.2.2)] → W p l e rmX7_feast s m args below meth c H locs 0 0 (MQ below (Qi g A (wX g τ) v0) args s 0 0 A) (F0 m 85 ls [])) (h : f_X7_feast_151 fu k85 σ x1 x2 x3 x4 x5 x6 x7 = some (.inl v0, τ)) {H : Heap} {locs : List Loc} {ls : Array Slot} (hA : Aw g A s.heap (wX g σ) H locs) (hl : lv_has ls 8 [(0, .ref (g.2.1 0)), (1, .int x1), (2, .int x2), (3, .int x3), (4, .int x4), (5, .int x5), (6, .int x6), (7, .int x7)]) : W p l e rmX7_feast s m args below meth c H locs 0 0 (MQ below (Qi g A (wX g τ) v0) args s 0 0 A) (F0 m 151 ls []) := by
  have hx := C.1.1
  have hb := C.1.2.1
  unfold f_X7_feast_151 at h
  refine lv_iinc (v := (x7 + 1)) (lv' := [(7, .int (x7 + 1)), (0, .ref (g.2.1 0)), (1, .int x1), (2, .int x2), (3, .int x3), (4, .int x4), (5, .int x5), (6, .int x6)]) hx hb dX7_feast_151 hl (k := 7) rfl rfl (by decide) rfl (fun ls hl => ?_)
  refine lv_goto (tgt := 85) hx hb dX7_feast_154 (by decide) ?_
  exact hk85 _ _ h _ _ _ hA (lv_sub hl [1, 2, 3, 4, 5, 6, 7, 0] rfl)
set_option maxHeartbeats 4000000 in
set_option maxRecDepth 100000 in
theorem w_X7_feast_85 {σ : SS} {x1 : Int32} {x2 : Int32} {x3 : Int32} {x4 : Int32} {x5 : Int32} {x6 : Int32} {x7 : Int32} (C : Cx p l s m args meth c cX7_feast 8 wsX7_feast (some .int) RX7 g A) {k85 : SS → (Int32 × Int32 × Int32 × Int32 × Int32 × Int32 × Int32) → Option ((Int32 ⊕ Nat) × SS)} (hk85 : ∀ (σ : SS) (x : Int32 × Int32 × Int32 × Int32 × Int32 × Int32 × Int32), k85 σ x = some (.inl v0, τ) → ∀ (H : Heap) (locs : List Loc) (ls : Array Slot), Aw g A s.heap (wX g σ) H locs → lv_has ls 8 [(0, .ref (g.2.1 0)), (1, .int x.1), (2, .int x.2.1), (3, .int x.2.2.1), (4, .int x.2.2.2.1), (5, .int x.2.2.2.2.1), (6, .int x.2.2.2.2.2.1), (7, .int x.2.2.2.2.2.2)] → W p l e rmX7_feast s m args below meth c H locs 0 0 (MQ below (Qi g A (wX g τ) v0) args s 0 0 A) (F0 m 85 ls [])) (h : f_X7_feast_85 fu k85 σ x1 x2 x3 x4 x5 x6 x7 = some (.inl v0, τ)) {H : Heap} {locs : List Loc} {ls : Array Slot} (hA : Aw g A s.heap (wX g σ) H locs) (hl : lv_has ls 8 [(0, .ref (g.2.1 0)), (1, .int x1), (2, .int x2), (3, .int x3), (4, .int x4), (5, .int x5), (6, .int x6), (7, .int x7)]) : W p l e rmX7_feast s m args below meth c H locs 0 0 (MQ below (Qi g A (wX g τ) v0) args s 0 0 A) (F0 m 85 ls []) := by
  have hx := C.1.1
  have hb := C.1.2.1
  unfold f_X7_feast_85 at h
  refine lv_iload hx hb dX7_feast_85 (lv_at hl 7 rfl) ?_
  refine lv_aload_n hx hb dX7_feast_87 rfl (lv_at hl 0 rfl) ?_
  refine Xg_X7_chiefs C hA iX7_feast_X7 (by decide +kernel) dX7_feast_88 ?_
  refine Xg_X0_size (v := (σ.1 14)) C hA rfl iX7_feast_X0 (by decide +kernel) dX7_feast_91 ?_
  refine lv_icmp_ge (tgt := 157) hx hb dX7_feast_94 (by decide) (fun c1 => ?_) (fun c1 => ?_)
  · replace h := (if_pos c1).symm.trans h
    refine lv_iload hx hb dX7_feast_157 (lv_at hl 6 rfl) ?_
    obtain ⟨rfl, rfl⟩ := inl_inj h
    exact r_iret C hA dX7_feast_159
  · replace h := (if_neg c1).symm.trans h
    refine lv_iload_n hx hb dX7_feast_97 rfl (lv_at hl 2 rfl) ?_
    refine lv_iload hx hb dX7_feast_98 (lv_at hl 7 rfl) ?_
    obtain ⟨r2, hc3, h⟩ := bd1 h
    refine r_callSi (r := r2) (w1 := wX g σ) (As := [.int x2, .int x7]) (rest := []) C hA hl.1 (k_X7_isIn (g := g) C.2.2.2.2.2.2 hc3) (va_cwS 2 C.1.2.2.2.2 gX7_feast_X7_isIn rfl rfl rfl nd_X7_isIn ⟨Nat.le_of_ble_eq_true rfl, Nat.le_of_ble_eq_true rfl⟩) rfl rfl (Nat.le_of_ble_eq_true rfl) dX7_feast_100 ⟨Nat.le_of_ble_eq_true rfl, Nat.le_of_ble_eq_true rfl⟩ (fun H locs hA => ?_)
    refine lv_if_eq (tgt := 129) hx hb dX7_feast_103 (by decide) (fun c4 => ?_) (fun c4 => ?_)
    · replace h := (if_pos c4).symm.trans h
      refine lv_iload hx hb dX7_feast_129 (lv_at hl 4 rfl) ?_
      refine lv_iload hx hb dX7_feast_131 (lv_at hl 7 rfl) ?_
      obtain ⟨r5, hc6, h⟩ := bd1 h
      refine r_callSi (r := r5) (w1 := wX g σ) (As := [.int x4, .int x7]) (rest := []) C hA hl.1 (k_X7_isIn (g := g) C.2.2.2.2.2.2 hc6) (va_cwS 2 C.1.2.2.2.2 gX7_feast_X7_isIn rfl rfl rfl nd_X7_isIn ⟨Nat.le_of_ble_eq_true rfl, Nat.le_of_ble_eq_true rfl⟩) rfl rfl (Nat.le_of_ble_eq_true rfl) dX7_feast_133 ⟨Nat.le_of_ble_eq_true rfl, Nat.le_of_ble_eq_true rfl⟩ (fun H locs hA => ?_)
      refine lv_if_eq (tgt := 151) hx hb dX7_feast_136 (by decide) (fun c7 => ?_) (fun c7 => ?_)
      · replace h := (if_pos c7).symm.trans h
        exact w_X7_feast_151 C hk85 h hA (lv_sub hl [0, 1, 2, 3, 4, 5, 6, 7] rfl)
      · replace h := (if_neg c7).symm.trans h
        refine lv_aload_n hx hb dX7_feast_139 rfl (lv_at hl 0 rfl) ?_
        refine Xg_X7_chiefs C hA iX7_feast_X7 (by decide +kernel) dX7_feast_140 ?_
        refine lv_iload_n hx hb dX7_feast_143 rfl (lv_at hl 1 rfl) ?_
        refine lv_iload hx hb dX7_feast_144 (lv_at hl 7 rfl) ?_
        refine lv_iload hx hb dX7_feast_146 (lv_at hl 5 rfl) ?_
        obtain ⟨r8, t10, hc9, h⟩ := bd h
        refine r_callVv (r := r8) (w1 := wX g t10) (As := [.int x1, .int x7, .int x5]) (rest := []) C hA hl.1 (k_X0_moveBlankets C.2.2.2.2.2.2 hc9) (cwV 3 C.1.2.2.2.2 gX7_feast_X0_moveBlankets rfl rfl rfl nd_X0_moveBlankets ⟨Nat.le_of_ble_eq_true rfl, Nat.le_of_ble_eq_true rfl⟩) 4 rfl rfl rfl rfl (Nat.le_of_ble_eq_true rfl) dX7_feast_148 ⟨Nat.le_of_ble_eq_true rfl, Nat.le_of_ble_eq_true rfl⟩ (fun H locs hA => ?_)
        exact w_X7_feast_151 C hk85 h hA (lv_sub hl [0, 1, 2, 3, 4, 5, 6, 7] rfl)
    · replace h := (if_neg c4).symm.trans h
      refine lv_aload_n hx hb dX7_feast_106 rfl (lv_at hl 0 rfl) ?_
      refine Xg_X7_chiefs C hA iX7_feast_X7 (by decide +kernel) dX7_feast_107 ?_
      refine lv_iload_n hx hb dX7_feast_110 rfl (lv_at hl 1 rfl) ?_
      refine lv_iload hx hb dX7_feast_111 (lv_at hl 7 rfl) ?_
      refine lv_iload_n hx hb dX7_feast_113 rfl (lv_at hl 3 rfl) ?_
      obtain ⟨r11, t13, hc12, h⟩ := bd h
      refine r_callVv (r := r11) (w1 := wX g t13) (As := [.int x1, .int x7, .int x3]) (rest := []) C hA hl.1 (k_X0_moveBlankets C.2.2.2.2.2.2 hc12) (cwV 3 C.1.2.2.2.2 gX7_feast_X0_moveBlankets rfl rfl rfl nd_X0_moveBlankets ⟨Nat.le_of_ble_eq_true rfl, Nat.le_of_ble_eq_true rfl⟩) 4 rfl rfl rfl rfl (Nat.le_of_ble_eq_true rfl) dX7_feast_114 ⟨Nat.le_of_ble_eq_true rfl, Nat.le_of_ble_eq_true rfl⟩ (fun H locs hA => ?_)
      refine lv_aload_n hx hb dX7_feast_117 rfl (lv_at hl 0 rfl) ?_
      refine lv_iload_n hx hb dX7_feast_118 rfl (lv_at hl 1 rfl) ?_
      refine lv_iload hx hb dX7_feast_119 (lv_at hl 7 rfl) ?_
      refine lv_iload_n hx hb dX7_feast_121 rfl (lv_at hl 3 rfl) ?_
      obtain ⟨r14, t16, hc15, h⟩ := bd h
      refine r_callVi (r := r14) (w1 := wX g t16) (As := [.int x1, .int x7, .int x3]) (rest := []) C hA hl.1 (k_X7_recordGiven C.2.2.2.2.2.2 hc15) (cwV 3 C.1.2.2.2.2 gX7_feast_X7_recordGiven rfl rfl rfl nd_X7_recordGiven ⟨Nat.le_of_ble_eq_true rfl, Nat.le_of_ble_eq_true rfl⟩) 0 rfl rfl rfl rfl (Nat.le_of_ble_eq_true rfl) dX7_feast_122 ⟨Nat.le_of_ble_eq_true rfl, Nat.le_of_ble_eq_true rfl⟩ (fun H locs hA => ?_)
      refine lv_pop hx hb dX7_feast_125 rfl ?_
      refine lv_goto (tgt := 151) hx hb dX7_feast_126 (by decide) ?_
      exact w_X7_feast_151 C hk85 h hA (lv_sub hl [0, 1, 2, 3, 4, 5, 6, 7] rfl)
set_option maxHeartbeats 4000000 in
theorem w_X7_feast_L85 {σ : SS} {x : Int32 × Int32 × Int32 × Int32 × Int32 × Int32 × Int32} (C : Cx p l s m args meth c cX7_feast 8 wsX7_feast (some .int) RX7 g A) (h : f_X7_feast_L85 fu σ x = some (.inl v0, τ)) {H : Heap} {locs : List Loc} {ls : Array Slot} (hA : Aw g A s.heap (wX g σ) H locs) (hl : lv_has ls 8 [(0, .ref (g.2.1 0)), (1, .int x.1), (2, .int x.2.1), (3, .int x.2.2.1), (4, .int x.2.2.2.1), (5, .int x.2.2.2.2.1), (6, .int x.2.2.2.2.2.1), (7, .int x.2.2.2.2.2.2)]) : W p l e rmX7_feast s m args below meth c H locs 0 0 (MQ below (Qi g A (wX g τ) v0) args s 0 0 A) (F0 m 85 ls []) := by
  refine loopW (P := fun σ x => ∀ (H : Heap) (locs : List Loc) (ls : Array Slot), Aw g A s.heap (wX g σ) H locs → lv_has ls 8 [(0, .ref (g.2.1 0)), (1, .int x.1), (2, .int x.2.1), (3, .int x.2.2.1), (4, .int x.2.2.2.1), (5, .int x.2.2.2.2.1), (6, .int x.2.2.2.2.2.1), (7, .int x.2.2.2.2.2.2)] → W p l e rmX7_feast s m args below meth c H locs 0 0 (MQ below (Qi g A (wX g τ) v0) args s 0 0 A) (F0 m 85 ls [])) (fun k hk σ x h9 H locs ls hA9 hl9 => ?_) fu σ x h H locs ls hA hl
  exact w_X7_feast_85 C hk h9 hA9 hl9
set_option maxHeartbeats 4000000 in
set_option maxRecDepth 100000 in
theorem w_X7_feast_0 {σ : SS} {x1 : Int32} {x2 : Int32} {x3 : Int32} {x4 : Int32} (C : Cx p l s m args meth c cX7_feast 8 wsX7_feast (some .int) RX7 g A) (h : f_X7_feast fu σ x1 x2 x3 x4 = some (.inl v0, τ)) {H : Heap} {locs : List Loc} {ls : Array Slot} (hA : Aw g A s.heap (wX g σ) H locs) (hl : lv_has ls 8 [(0, .ref (g.2.1 0)), (1, .int x1), (2, .int x2), (3, .int x3), (4, .int x4)]) : W p l e rmX7_feast s m args below meth c H locs 0 0 (MQ below (Qi g A (wX g τ) v0) args s 0 0 A) (F0 m 0 ls []) := by
  have hx := C.1.1
  have hb := C.1.2.1
  unfold f_X7_feast at h
  refine lv_aload_n hx hb dX7_feast_0 rfl (lv_at hl 0 rfl) ?_
  refine lv_iload_n hx hb dX7_feast_1 rfl (lv_at hl 1 rfl) ?_
  refine lv_iload_n hx hb dX7_feast_2 rfl (lv_at hl 2 rfl) ?_
  refine lv_iload_n hx hb dX7_feast_3 rfl (lv_at hl 3 rfl) ?_
  refine lv_iload hx hb dX7_feast_4 (lv_at hl 4 rfl) ?_
  obtain ⟨r1, hc2, h⟩ := bdX h
  refine r_callVv (r := ()) (w1 := wX g σ) (As := [.int x1, .int x2, .int x3, .int x4]) (rest := []) C hA hl.1 (k_X7_checkFeast C.2.2.2.2.2.2 hc2) (cwV 4 C.1.2.2.2.2 gX7_feast_X7_checkFeast rfl rfl rfl nd_X7_checkFeast ⟨Nat.le_of_ble_eq_true rfl, Nat.le_of_ble_eq_true rfl⟩) 0 rfl rfl rfl rfl (Nat.le_of_ble_eq_true rfl) dX7_feast_6 ⟨Nat.le_of_ble_eq_true rfl, Nat.le_of_ble_eq_true rfl⟩ (fun H locs hA => ?_)
  refine lv_aload_n hx hb dX7_feast_9 rfl (lv_at hl 0 rfl) ?_
  refine Xg_X7_customs C hA iX7_feast_X7 (by decide +kernel) dX7_feast_10 ?_
  refine lv_aload_n hx hb dX7_feast_13 rfl (lv_at hl 0 rfl) ?_
  refine Xg_X7_customs C hA iX7_feast_X7 (by decide +kernel) dX7_feast_14 ?_
  refine lv_aload_n hx hb dX7_feast_17 rfl (lv_at hl 0 rfl) ?_
  refine Xg_X7_now (v := (σ.1 0)) C hA rfl iX7_feast_X7 (by decide +kernel) dX7_feast_18 ?_
  obtain ⟨r3, hc4, h⟩ := bd1 h
  refine r_callVi (r := r3) (w1 := wX g σ) (As := [.int (σ.1 0)]) (rest := [.ref (g.2.1 3)]) C hA hl.1 (k_X2_inForce C.2.2.2.2.2.2 hc4) (cwV 1 C.1.2.2.2.2 gX7_feast_X2_inForce rfl rfl rfl nd_X2_inForce ⟨Nat.le_of_ble_eq_true rfl, Nat.le_of_ble_eq_true rfl⟩) 3 rfl rfl rfl rfl (Nat.le_of_ble_eq_true rfl) dX7_feast_21 ⟨Nat.le_of_ble_eq_true rfl, Nat.le_of_ble_eq_true rfl⟩ (fun H locs hA => ?_)
  obtain ⟨r5, hc6, h⟩ := bd1 h
  refine r_callVi (r := r5) (w1 := wX g σ) (As := [.int r3]) (rest := []) C hA hl.1 (k_X2_witnessShare C.2.2.2.2.2.2 hc6) (cwV 1 C.1.2.2.2.2 gX7_feast_X2_witnessShare rfl rfl rfl nd_X2_witnessShare ⟨Nat.le_of_ble_eq_true rfl, Nat.le_of_ble_eq_true rfl⟩) 3 rfl rfl rfl rfl (Nat.le_of_ble_eq_true rfl) dX7_feast_24 ⟨Nat.le_of_ble_eq_true rfl, Nat.le_of_ble_eq_true rfl⟩ (fun H locs hA => ?_)
  refine lv_istore (lv' := [(5, .int r5), (0, .ref (g.2.1 0)), (1, .int x1), (2, .int x2), (3, .int x3), (4, .int x4)]) hx hb dX7_feast_27 hl (by decide) rfl (fun ls hl => ?_)
  refine lv_iload_n hx hb dX7_feast_29 rfl (lv_at hl 3 rfl) ?_
  obtain ⟨r7, hc8, h⟩ := bd1 h
  refine r_callSi (r := r7) (w1 := wX g σ) (As := [.int x2]) (rest := []) C hA hl.1 (k_J6_bitCount_0f7a4 (g := g) C.2.2.2.2.2.2 hc8) (va_cwS 1 C.1.2.2.2.2 gX7_feast_J6_bitCount_0f7a4 rfl rfl rfl nd_J6_bitCount_0f7a4 ⟨Nat.le_of_ble_eq_true rfl, Nat.le_of_ble_eq_true rfl⟩) rfl rfl (Nat.le_of_ble_eq_true rfl) dX7_feast_30 ⟨Nat.le_of_ble_eq_true rfl, Nat.le_of_ble_eq_true rfl⟩ (fun H locs hA => ?_)
  refine lv_iload_n hx hb dX7_feast_33 rfl (lv_at hl 4 rfl) ?_
  refine lv_imul hx hb dX7_feast_34 ?_
  refine lv_iload hx hb dX7_feast_35 (lv_at hl 5 rfl) ?_
  obtain ⟨r9, hc10, h⟩ := bd1 h
  refine r_callSi (r := r9) (w1 := wX g σ) (As := [.int x4]) (rest := [.int (r7 * x3)]) C hA hl.1 (k_J6_bitCount_0f7a4 (g := g) C.2.2.2.2.2.2 hc10) (va_cwS 1 C.1.2.2.2.2 gX7_feast_J6_bitCount_0f7a4 rfl rfl rfl nd_J6_bitCount_0f7a4 ⟨Nat.le_of_ble_eq_true rfl, Nat.le_of_ble_eq_true rfl⟩) rfl rfl (Nat.le_of_ble_eq_true rfl) dX7_feast_37 ⟨Nat.le_of_ble_eq_true rfl, Nat.le_of_ble_eq_true rfl⟩ (fun H locs hA => ?_)
  refine lv_iload hx hb dX7_feast_40 (lv_at hl 0 rfl) ?_
  refine lv_imul hx hb dX7_feast_42 ?_
  refine lv_iadd hx hb dX7_feast_43 ?_
  refine lv_istore (lv' := [(6, .int ((r7 * x3) + (r9 * r5))), (5, .int r5), (0, .ref (g.2.1 0)), (1, .int x1), (2, .int x2), (3, .int x3), (4, .int x4)]) hx hb dX7_feast_44 hl (by decide) rfl (fun ls hl => ?_)
  refine lv_aload_n hx hb dX7_feast_46 rfl (lv_at hl 2 rfl) ?_
  refine Xg_X7_chiefs C hA iX7_feast_X7 (by decide +kernel) dX7_feast_47 ?_
  refine Xg_X0_blankets C hA iX7_feast_X0 (by decide +kernel) dX7_feast_50 ?_
  refine lv_iload_n hx hb dX7_feast_53 rfl (lv_at hl 3 rfl) ?_
  obtain ⟨g11, h⟩ := gd h
  refine Xld_19 (v := (σ.2.1 19 (x1).toNatClampNeg)) C hA rfl g11 dX7_feast_54 ?_
  refine lv_iload hx hb dX7_feast_55 (lv_at hl 0 rfl) ?_
  refine lv_icmp_ge (tgt := 62) hx hb dX7_feast_57 (by decide) (fun c12 => ?_) (fun c12 => ?_)
  · replace h := (if_pos c12).symm.trans h
    refine lv_aload_n hx hb dX7_feast_62 rfl (lv_at hl 2 rfl) ?_
    refine lv_iload_n hx hb dX7_feast_63 rfl (lv_at hl 3 rfl) ?_
    refine lv_iload_n hx hb dX7_feast_64 rfl (lv_at hl 4 rfl) ?_
    refine lv_iload_n hx hb dX7_feast_65 rfl (lv_at hl 5 rfl) ?_
    obtain ⟨r13, hc14, h⟩ := bd1 h
    refine r_callVi (r := r13) (w1 := wX g σ) (As := [.int x1, .int x2, .int x3]) (rest := []) C hA hl.1 (k_X7_debtsMadeByFeast C.2.2.2.2.2.2 hc14) (cwV 3 C.1.2.2.2.2 gX7_feast_X7_debtsMadeByFeast rfl rfl rfl nd_X7_debtsMadeByFeast ⟨Nat.le_of_ble_eq_true rfl, Nat.le_of_ble_eq_true rfl⟩) 0 rfl rfl rfl rfl (Nat.le_of_ble_eq_true rfl) dX7_feast_66 ⟨Nat.le_of_ble_eq_true rfl, Nat.le_of_ble_eq_true rfl⟩ (fun H locs hA => ?_)
    refine lv_aload_n hx hb dX7_feast_69 rfl (lv_at hl 2 rfl) ?_
    refine Xg_X7_debts C hA iX7_feast_X7 (by decide +kernel) dX7_feast_70 ?_
    obtain ⟨r15, hc16, h⟩ := bd1 h
    refine r_callVi (r := r15) (w1 := wX g σ) (As := []) (rest := [.int r13]) C hA hl.1 (k_X3_room C.2.2.2.2.2.2 hc16) (cwV 0 C.1.2.2.2.2 gX7_feast_X3_room rfl rfl rfl nd_X3_room ⟨Nat.le_of_ble_eq_true rfl, Nat.le_of_ble_eq_true rfl⟩) 5 rfl rfl rfl rfl (Nat.le_of_ble_eq_true rfl) dX7_feast_73 ⟨Nat.le_of_ble_eq_true rfl, Nat.le_of_ble_eq_true rfl⟩ (fun H locs hA => ?_)
    refine lv_icmp_le (tgt := 82) hx hb dX7_feast_76 (by decide) (fun c17 => ?_) (fun c17 => ?_)
    · replace h := (if_pos c17).symm.trans h
      refine lv_iconst (v := 0) hx hb dX7_feast_82 (by decide) ?_
      refine lv_istore (lv' := [(7, .int (0 : Int32)), (6, .int ((r7 * x3) + (r9 * r5))), (5, .int r5), (0, .ref (g.2.1 0)), (1, .int x1), (2, .int x2), (3, .int x3), (4, .int x4)]) hx hb dX7_feast_83 hl (by decide) rfl (fun ls hl => ?_)
      exact w_X7_feast_L85 C h hA (lv_sub hl [3, 4, 5, 6, 7, 2, 1, 0] rfl)
    · replace h := (if_neg c17).symm.trans h
      refine lv_bipush (v := (-2)) hx hb dX7_feast_79 (by decide) ?_
      obtain ⟨rfl, rfl⟩ := inl_inj h
      exact r_iret C hA dX7_feast_81
  · replace h := (if_neg c12).symm.trans h
    refine lv_iconst (v := (-1)) hx hb dX7_feast_60 (by decide) ?_
    obtain ⟨rfl, rfl⟩ := inl_inj h
    exact r_iret C hA dX7_feast_61
set_option maxHeartbeats 4000000 in
set_option maxRecDepth 100000 in
theorem v_X7_feast_151 {σ : SS} {x1 : Int32} {x2 : Int32} {x3 : Int32} {x4 : Int32} {x5 : Int32} {x6 : Int32} {x7 : Int32} (C : Cx p l s m args meth c cX7_feast 8 wsX7_feast (some .int) RX7 g A) (hT : ∀ x ∈ c.exceptionTable.toList, False) {k85 : SS → (Int32 × Int32 × Int32 × Int32 × Int32 × Int32 × Int32) → Option ((Int32 ⊕ Nat) × SS)} (hk85 : ∀ (σ : SS) (x : Int32 × Int32 × Int32 × Int32 × Int32 × Int32 × Int32), k85 σ x = some (.inr j, τ) → ∀ (H : Heap) (locs : List Loc) (ls : Array Slot), Aw g A s.heap (wX g σ) H locs → lv_has ls 8 [(0, .ref (g.2.1 0)), (1, .int x.1), (2, .int x.2.1), (3, .int x.2.2.1), (4, .int x.2.2.2.1), (5, .int x.2.2.2.2.1), (6, .int x.2.2.2.2.2.1), (7, .int x.2.2.2.2.2.2)] → W p l e rxX7_feast s m args below meth c H locs 0 0 (vx_MQ below (QFi A) (Xw g A (wX g τ) j) args s 1 6 A) (F0 m 85 ls [])) (h : f_X7_feast_151 fu k85 σ x1 x2 x3 x4 x5 x6 x7 = some (.inr j, τ)) {H : Heap} {locs : List Loc} {ls : Array Slot} (hA : Aw g A s.heap (wX g σ) H locs) (hl : lv_has ls 8 [(0, .ref (g.2.1 0)), (1, .int x1), (2, .int x2), (3, .int x3), (4, .int x4), (5, .int x5), (6, .int x6), (7, .int x7)]) : W p l e rxX7_feast s m args below meth c H locs 0 0 (vx_MQ below (QFi A) (Xw g A (wX g τ) j) args s 1 6 A) (F0 m 151 ls []) := by
  have hx := C.1.1
  have hb := C.1.2.1
  unfold f_X7_feast_151 at h
  refine lv_iinc (v := (x7 + 1)) (lv' := [(7, .int (x7 + 1)), (0, .ref (g.2.1 0)), (1, .int x1), (2, .int x2), (3, .int x3), (4, .int x4), (5, .int x5), (6, .int x6)]) hx hb dX7_feast_151 hl (k := 7) rfl rfl (by decide) rfl (fun ls hl => ?_)
  refine lv_goto (tgt := 85) hx hb dX7_feast_154 (by decide) ?_
  exact hk85 _ _ h _ _ _ hA (lv_sub hl [1, 2, 3, 4, 5, 6, 7, 0] rfl)
set_option maxHeartbeats 4000000 in
set_option maxRecDepth 100000 in
theorem v_X7_feast_85 {σ : SS} {x1 : Int32} {x2 : Int32} {x3 : Int32} {x4 : Int32} {x5 : Int32} {x6 : Int32} {x7 : Int32} (C : Cx p l s m args meth c cX7_feast 8 wsX7_feast (some .int) RX7 g A) (hT : ∀ x ∈ c.exceptionTable.toList, False) {k85 : SS → (Int32 × Int32 × Int32 × Int32 × Int32 × Int32 × Int32) → Option ((Int32 ⊕ Nat) × SS)} (hk85 : ∀ (σ : SS) (x : Int32 × Int32 × Int32 × Int32 × Int32 × Int32 × Int32), k85 σ x = some (.inr j, τ) → ∀ (H : Heap) (locs : List Loc) (ls : Array Slot), Aw g A s.heap (wX g σ) H locs → lv_has ls 8 [(0, .ref (g.2.1 0)), (1, .int x.1), (2, .int x.2.1), (3, .int x.2.2.1), (4, .int x.2.2.2.1), (5, .int x.2.2.2.2.1), (6, .int x.2.2.2.2.2.1), (7, .int x.2.2.2.2.2.2)] → W p l e rxX7_feast s m args below meth c H locs 0 0 (vx_MQ below (QFi A) (Xw g A (wX g τ) j) args s 1 6 A) (F0 m 85 ls [])) (h : f_X7_feast_85 fu k85 σ x1 x2 x3 x4 x5 x6 x7 = some (.inr j, τ)) {H : Heap} {locs : List Loc} {ls : Array Slot} (hA : Aw g A s.heap (wX g σ) H locs) (hl : lv_has ls 8 [(0, .ref (g.2.1 0)), (1, .int x1), (2, .int x2), (3, .int x3), (4, .int x4), (5, .int x5), (6, .int x6), (7, .int x7)]) : W p l e rxX7_feast s m args below meth c H locs 0 0 (vx_MQ below (QFi A) (Xw g A (wX g τ) j) args s 1 6 A) (F0 m 85 ls []) := by
  have hx := C.1.1
  have hb := C.1.2.1
  unfold f_X7_feast_85 at h
  refine lv_iload hx hb dX7_feast_85 (lv_at hl 7 rfl) ?_
  refine lv_aload_n hx hb dX7_feast_87 rfl (lv_at hl 0 rfl) ?_
  refine Xg_X7_chiefs C hA iX7_feast_X7 (by decide +kernel) dX7_feast_88 ?_
  refine Xg_X0_size (v := (σ.1 14)) C hA rfl iX7_feast_X0 (by decide +kernel) dX7_feast_91 ?_
  refine lv_icmp_ge (tgt := 157) hx hb dX7_feast_94 (by decide) (fun c1 => ?_) (fun c1 => ?_)
  · replace h := (if_pos c1).symm.trans h
    refine lv_iload hx hb dX7_feast_157 (lv_at hl 6 rfl) ?_
    cases h
  · replace h := (if_neg c1).symm.trans h
    refine lv_iload_n hx hb dX7_feast_97 rfl (lv_at hl 2 rfl) ?_
    refine lv_iload hx hb dX7_feast_98 (lv_at hl 7 rfl) ?_
    obtain ⟨r2, hc3, h⟩ := bd1 h
    refine r_callSi (r := r2) (w1 := wX g σ) (As := [.int x2, .int x7]) (rest := []) C hA hl.1 (k_X7_isIn (g := g) C.2.2.2.2.2.2 hc3) (va_cwS 2 C.1.2.2.2.2 gX7_feast_X7_isIn rfl rfl rfl nd_X7_isIn ⟨Nat.le_of_ble_eq_true rfl, Nat.le_of_ble_eq_true rfl⟩) rfl rfl (Nat.le_of_ble_eq_true rfl) dX7_feast_100 ⟨Nat.le_of_ble_eq_true rfl, Nat.le_of_ble_eq_true rfl⟩ (fun H locs hA => ?_)
    refine lv_if_eq (tgt := 129) hx hb dX7_feast_103 (by decide) (fun c4 => ?_) (fun c4 => ?_)
    · replace h := (if_pos c4).symm.trans h
      refine lv_iload hx hb dX7_feast_129 (lv_at hl 4 rfl) ?_
      refine lv_iload hx hb dX7_feast_131 (lv_at hl 7 rfl) ?_
      obtain ⟨r5, hc6, h⟩ := bd1 h
      refine r_callSi (r := r5) (w1 := wX g σ) (As := [.int x4, .int x7]) (rest := []) C hA hl.1 (k_X7_isIn (g := g) C.2.2.2.2.2.2 hc6) (va_cwS 2 C.1.2.2.2.2 gX7_feast_X7_isIn rfl rfl rfl nd_X7_isIn ⟨Nat.le_of_ble_eq_true rfl, Nat.le_of_ble_eq_true rfl⟩) rfl rfl (Nat.le_of_ble_eq_true rfl) dX7_feast_133 ⟨Nat.le_of_ble_eq_true rfl, Nat.le_of_ble_eq_true rfl⟩ (fun H locs hA => ?_)
      refine lv_if_eq (tgt := 151) hx hb dX7_feast_136 (by decide) (fun c7 => ?_) (fun c7 => ?_)
      · replace h := (if_pos c7).symm.trans h
        exact v_X7_feast_151 C hT hk85 h hA (lv_sub hl [0, 1, 2, 3, 4, 5, 6, 7] rfl)
      · replace h := (if_neg c7).symm.trans h
        refine lv_aload_n hx hb dX7_feast_139 rfl (lv_at hl 0 rfl) ?_
        refine Xg_X7_chiefs C hA iX7_feast_X7 (by decide +kernel) dX7_feast_140 ?_
        refine lv_iload_n hx hb dX7_feast_143 rfl (lv_at hl 1 rfl) ?_
        refine lv_iload hx hb dX7_feast_144 (lv_at hl 7 rfl) ?_
        refine lv_iload hx hb dX7_feast_146 (lv_at hl 5 rfl) ?_
        obtain ⟨r8, t10, hc9, h⟩ := bd h
        refine r_callVv (r := r8) (w1 := wX g t10) (As := [.int x1, .int x7, .int x5]) (rest := []) C hA hl.1 (k_X0_moveBlankets C.2.2.2.2.2.2 hc9) (cwV 3 C.1.2.2.2.2 gX7_feast_X0_moveBlankets rfl rfl rfl nd_X0_moveBlankets ⟨Nat.le_of_ble_eq_true rfl, Nat.le_of_ble_eq_true rfl⟩) 4 rfl rfl rfl rfl (Nat.le_of_ble_eq_true rfl) dX7_feast_148 ⟨Nat.le_of_ble_eq_true rfl, Nat.le_of_ble_eq_true rfl⟩ (fun H locs hA => ?_)
        exact v_X7_feast_151 C hT hk85 h hA (lv_sub hl [0, 1, 2, 3, 4, 5, 6, 7] rfl)
    · replace h := (if_neg c4).symm.trans h
      refine lv_aload_n hx hb dX7_feast_106 rfl (lv_at hl 0 rfl) ?_
      refine Xg_X7_chiefs C hA iX7_feast_X7 (by decide +kernel) dX7_feast_107 ?_
      refine lv_iload_n hx hb dX7_feast_110 rfl (lv_at hl 1 rfl) ?_
      refine lv_iload hx hb dX7_feast_111 (lv_at hl 7 rfl) ?_
      refine lv_iload_n hx hb dX7_feast_113 rfl (lv_at hl 3 rfl) ?_
      obtain ⟨r11, t13, hc12, h⟩ := bd h
      refine r_callVv (r := r11) (w1 := wX g t13) (As := [.int x1, .int x7, .int x3]) (rest := []) C hA hl.1 (k_X0_moveBlankets C.2.2.2.2.2.2 hc12) (cwV 3 C.1.2.2.2.2 gX7_feast_X0_moveBlankets rfl rfl rfl nd_X0_moveBlankets ⟨Nat.le_of_ble_eq_true rfl, Nat.le_of_ble_eq_true rfl⟩) 4 rfl rfl rfl rfl (Nat.le_of_ble_eq_true rfl) dX7_feast_114 ⟨Nat.le_of_ble_eq_true rfl, Nat.le_of_ble_eq_true rfl⟩ (fun H locs hA => ?_)
      refine lv_aload_n hx hb dX7_feast_117 rfl (lv_at hl 0 rfl) ?_
      refine lv_iload_n hx hb dX7_feast_118 rfl (lv_at hl 1 rfl) ?_
      refine lv_iload hx hb dX7_feast_119 (lv_at hl 7 rfl) ?_
      refine lv_iload_n hx hb dX7_feast_121 rfl (lv_at hl 3 rfl) ?_
      obtain ⟨r14, t16, hc15, h⟩ := bd h
      refine r_callVi (r := r14) (w1 := wX g t16) (As := [.int x1, .int x7, .int x3]) (rest := []) C hA hl.1 (k_X7_recordGiven C.2.2.2.2.2.2 hc15) (cwV 3 C.1.2.2.2.2 gX7_feast_X7_recordGiven rfl rfl rfl nd_X7_recordGiven ⟨Nat.le_of_ble_eq_true rfl, Nat.le_of_ble_eq_true rfl⟩) 0 rfl rfl rfl rfl (Nat.le_of_ble_eq_true rfl) dX7_feast_122 ⟨Nat.le_of_ble_eq_true rfl, Nat.le_of_ble_eq_true rfl⟩ (fun H locs hA => ?_)
      refine lv_pop hx hb dX7_feast_125 rfl ?_
      refine lv_goto (tgt := 151) hx hb dX7_feast_126 (by decide) ?_
      exact v_X7_feast_151 C hT hk85 h hA (lv_sub hl [0, 1, 2, 3, 4, 5, 6, 7] rfl)
set_option maxHeartbeats 4000000 in
theorem v_X7_feast_L85 {σ : SS} {x : Int32 × Int32 × Int32 × Int32 × Int32 × Int32 × Int32} (C : Cx p l s m args meth c cX7_feast 8 wsX7_feast (some .int) RX7 g A) (hT : ∀ x ∈ c.exceptionTable.toList, False) (h : f_X7_feast_L85 fu σ x = some (.inr j, τ)) {H : Heap} {locs : List Loc} {ls : Array Slot} (hA : Aw g A s.heap (wX g σ) H locs) (hl : lv_has ls 8 [(0, .ref (g.2.1 0)), (1, .int x.1), (2, .int x.2.1), (3, .int x.2.2.1), (4, .int x.2.2.2.1), (5, .int x.2.2.2.2.1), (6, .int x.2.2.2.2.2.1), (7, .int x.2.2.2.2.2.2)]) : W p l e rxX7_feast s m args below meth c H locs 0 0 (vx_MQ below (QFi A) (Xw g A (wX g τ) j) args s 1 6 A) (F0 m 85 ls []) := by
  refine loopW (P := fun σ x => ∀ (H : Heap) (locs : List Loc) (ls : Array Slot), Aw g A s.heap (wX g σ) H locs → lv_has ls 8 [(0, .ref (g.2.1 0)), (1, .int x.1), (2, .int x.2.1), (3, .int x.2.2.1), (4, .int x.2.2.2.1), (5, .int x.2.2.2.2.1), (6, .int x.2.2.2.2.2.1), (7, .int x.2.2.2.2.2.2)] → W p l e rxX7_feast s m args below meth c H locs 0 0 (vx_MQ below (QFi A) (Xw g A (wX g τ) j) args s 1 6 A) (F0 m 85 ls [])) (fun k hk σ x h9 H locs ls hA9 hl9 => ?_) fu σ x h H locs ls hA hl
  exact v_X7_feast_85 C hT hk h9 hA9 hl9
set_option maxHeartbeats 4000000 in
set_option maxRecDepth 100000 in
theorem v_X7_feast_0 {σ : SS} {x1 : Int32} {x2 : Int32} {x3 : Int32} {x4 : Int32} (C : Cx p l s m args meth c cX7_feast 8 wsX7_feast (some .int) RX7 g A) (hT : ∀ x ∈ c.exceptionTable.toList, False) (h : f_X7_feast fu σ x1 x2 x3 x4 = some (.inr j, τ)) {H : Heap} {locs : List Loc} {ls : Array Slot} (hA : Aw g A s.heap (wX g σ) H locs) (hl : lv_has ls 8 [(0, .ref (g.2.1 0)), (1, .int x1), (2, .int x2), (3, .int x3), (4, .int x4)]) : W p l e rxX7_feast s m args below meth c H locs 0 0 (vx_MQ below (QFi A) (Xw g A (wX g τ) j) args s 1 6 A) (F0 m 0 ls []) := by
  have hx := C.1.1
  have hb := C.1.2.1
  unfold f_X7_feast at h
  refine lv_aload_n hx hb dX7_feast_0 rfl (lv_at hl 0 rfl) ?_
  refine lv_iload_n hx hb dX7_feast_1 rfl (lv_at hl 1 rfl) ?_
  refine lv_iload_n hx hb dX7_feast_2 rfl (lv_at hl 2 rfl) ?_
  refine lv_iload_n hx hb dX7_feast_3 rfl (lv_at hl 3 rfl) ?_
  refine lv_iload hx hb dX7_feast_4 (lv_at hl 4 rfl) ?_
  rcases bdXt h with ⟨r1, hc2, h⟩ | ⟨hc2, rfl⟩
  rotate_left
  · exact r_xVv (w1 := wX g σ) (As := [.int x1, .int x2, .int x3, .int x4]) (rest := []) C hA hl.1 hT (kx_X7_checkFeast C.2.2.2.2.2.2 hc2) (cwV 4 C.1.2.2.2.2 gX7_feast_X7_checkFeast rfl rfl rfl nd_X7_checkFeast ⟨Nat.le_of_ble_eq_true rfl, Nat.le_of_ble_eq_true rfl⟩) 0 rfl rfl rfl rfl (Nat.le_of_ble_eq_true rfl) dX7_feast_6 ⟨Nat.le_of_ble_eq_true rfl, Nat.le_of_ble_eq_true rfl⟩
  refine r_callVv (r := ()) (w1 := wX g σ) (As := [.int x1, .int x2, .int x3, .int x4]) (rest := []) C hA hl.1 (k_X7_checkFeast C.2.2.2.2.2.2 hc2) (cwV 4 C.1.2.2.2.2 gX7_feast_X7_checkFeast rfl rfl rfl nd_X7_checkFeast ⟨Nat.le_of_ble_eq_true rfl, Nat.le_of_ble_eq_true rfl⟩) 0 rfl rfl rfl rfl (Nat.le_of_ble_eq_true rfl) dX7_feast_6 ⟨Nat.le_of_ble_eq_true rfl, Nat.le_of_ble_eq_true rfl⟩ (fun H locs hA => ?_)
  refine lv_aload_n hx hb dX7_feast_9 rfl (lv_at hl 0 rfl) ?_
  refine Xg_X7_customs C hA iX7_feast_X7 (by decide +kernel) dX7_feast_10 ?_
  refine lv_aload_n hx hb dX7_feast_13 rfl (lv_at hl 0 rfl) ?_
  refine Xg_X7_customs C hA iX7_feast_X7 (by decide +kernel) dX7_feast_14 ?_
  refine lv_aload_n hx hb dX7_feast_17 rfl (lv_at hl 0 rfl) ?_
  refine Xg_X7_now (v := (σ.1 0)) C hA rfl iX7_feast_X7 (by decide +kernel) dX7_feast_18 ?_
  obtain ⟨r3, hc4, h⟩ := bd1 h
  refine r_callVi (r := r3) (w1 := wX g σ) (As := [.int (σ.1 0)]) (rest := [.ref (g.2.1 3)]) C hA hl.1 (k_X2_inForce C.2.2.2.2.2.2 hc4) (cwV 1 C.1.2.2.2.2 gX7_feast_X2_inForce rfl rfl rfl nd_X2_inForce ⟨Nat.le_of_ble_eq_true rfl, Nat.le_of_ble_eq_true rfl⟩) 3 rfl rfl rfl rfl (Nat.le_of_ble_eq_true rfl) dX7_feast_21 ⟨Nat.le_of_ble_eq_true rfl, Nat.le_of_ble_eq_true rfl⟩ (fun H locs hA => ?_)
  obtain ⟨r5, hc6, h⟩ := bd1 h
  refine r_callVi (r := r5) (w1 := wX g σ) (As := [.int r3]) (rest := []) C hA hl.1 (k_X2_witnessShare C.2.2.2.2.2.2 hc6) (cwV 1 C.1.2.2.2.2 gX7_feast_X2_witnessShare rfl rfl rfl nd_X2_witnessShare ⟨Nat.le_of_ble_eq_true rfl, Nat.le_of_ble_eq_true rfl⟩) 3 rfl rfl rfl rfl (Nat.le_of_ble_eq_true rfl) dX7_feast_24 ⟨Nat.le_of_ble_eq_true rfl, Nat.le_of_ble_eq_true rfl⟩ (fun H locs hA => ?_)
  refine lv_istore (lv' := [(5, .int r5), (0, .ref (g.2.1 0)), (1, .int x1), (2, .int x2), (3, .int x3), (4, .int x4)]) hx hb dX7_feast_27 hl (by decide) rfl (fun ls hl => ?_)
  refine lv_iload_n hx hb dX7_feast_29 rfl (lv_at hl 3 rfl) ?_
  obtain ⟨r7, hc8, h⟩ := bd1 h
  refine r_callSi (r := r7) (w1 := wX g σ) (As := [.int x2]) (rest := []) C hA hl.1 (k_J6_bitCount_0f7a4 (g := g) C.2.2.2.2.2.2 hc8) (va_cwS 1 C.1.2.2.2.2 gX7_feast_J6_bitCount_0f7a4 rfl rfl rfl nd_J6_bitCount_0f7a4 ⟨Nat.le_of_ble_eq_true rfl, Nat.le_of_ble_eq_true rfl⟩) rfl rfl (Nat.le_of_ble_eq_true rfl) dX7_feast_30 ⟨Nat.le_of_ble_eq_true rfl, Nat.le_of_ble_eq_true rfl⟩ (fun H locs hA => ?_)
  refine lv_iload_n hx hb dX7_feast_33 rfl (lv_at hl 4 rfl) ?_
  refine lv_imul hx hb dX7_feast_34 ?_
  refine lv_iload hx hb dX7_feast_35 (lv_at hl 5 rfl) ?_
  obtain ⟨r9, hc10, h⟩ := bd1 h
  refine r_callSi (r := r9) (w1 := wX g σ) (As := [.int x4]) (rest := [.int (r7 * x3)]) C hA hl.1 (k_J6_bitCount_0f7a4 (g := g) C.2.2.2.2.2.2 hc10) (va_cwS 1 C.1.2.2.2.2 gX7_feast_J6_bitCount_0f7a4 rfl rfl rfl nd_J6_bitCount_0f7a4 ⟨Nat.le_of_ble_eq_true rfl, Nat.le_of_ble_eq_true rfl⟩) rfl rfl (Nat.le_of_ble_eq_true rfl) dX7_feast_37 ⟨Nat.le_of_ble_eq_true rfl, Nat.le_of_ble_eq_true rfl⟩ (fun H locs hA => ?_)
  refine lv_iload hx hb dX7_feast_40 (lv_at hl 0 rfl) ?_
  refine lv_imul hx hb dX7_feast_42 ?_
  refine lv_iadd hx hb dX7_feast_43 ?_
  refine lv_istore (lv' := [(6, .int ((r7 * x3) + (r9 * r5))), (5, .int r5), (0, .ref (g.2.1 0)), (1, .int x1), (2, .int x2), (3, .int x3), (4, .int x4)]) hx hb dX7_feast_44 hl (by decide) rfl (fun ls hl => ?_)
  refine lv_aload_n hx hb dX7_feast_46 rfl (lv_at hl 2 rfl) ?_
  refine Xg_X7_chiefs C hA iX7_feast_X7 (by decide +kernel) dX7_feast_47 ?_
  refine Xg_X0_blankets C hA iX7_feast_X0 (by decide +kernel) dX7_feast_50 ?_
  refine lv_iload_n hx hb dX7_feast_53 rfl (lv_at hl 3 rfl) ?_
  obtain ⟨g11, h⟩ := gd h
  refine Xld_19 (v := (σ.2.1 19 (x1).toNatClampNeg)) C hA rfl g11 dX7_feast_54 ?_
  refine lv_iload hx hb dX7_feast_55 (lv_at hl 0 rfl) ?_
  refine lv_icmp_ge (tgt := 62) hx hb dX7_feast_57 (by decide) (fun c12 => ?_) (fun c12 => ?_)
  · replace h := (if_pos c12).symm.trans h
    refine lv_aload_n hx hb dX7_feast_62 rfl (lv_at hl 2 rfl) ?_
    refine lv_iload_n hx hb dX7_feast_63 rfl (lv_at hl 3 rfl) ?_
    refine lv_iload_n hx hb dX7_feast_64 rfl (lv_at hl 4 rfl) ?_
    refine lv_iload_n hx hb dX7_feast_65 rfl (lv_at hl 5 rfl) ?_
    obtain ⟨r13, hc14, h⟩ := bd1 h
    refine r_callVi (r := r13) (w1 := wX g σ) (As := [.int x1, .int x2, .int x3]) (rest := []) C hA hl.1 (k_X7_debtsMadeByFeast C.2.2.2.2.2.2 hc14) (cwV 3 C.1.2.2.2.2 gX7_feast_X7_debtsMadeByFeast rfl rfl rfl nd_X7_debtsMadeByFeast ⟨Nat.le_of_ble_eq_true rfl, Nat.le_of_ble_eq_true rfl⟩) 0 rfl rfl rfl rfl (Nat.le_of_ble_eq_true rfl) dX7_feast_66 ⟨Nat.le_of_ble_eq_true rfl, Nat.le_of_ble_eq_true rfl⟩ (fun H locs hA => ?_)
    refine lv_aload_n hx hb dX7_feast_69 rfl (lv_at hl 2 rfl) ?_
    refine Xg_X7_debts C hA iX7_feast_X7 (by decide +kernel) dX7_feast_70 ?_
    obtain ⟨r15, hc16, h⟩ := bd1 h
    refine r_callVi (r := r15) (w1 := wX g σ) (As := []) (rest := [.int r13]) C hA hl.1 (k_X3_room C.2.2.2.2.2.2 hc16) (cwV 0 C.1.2.2.2.2 gX7_feast_X3_room rfl rfl rfl nd_X3_room ⟨Nat.le_of_ble_eq_true rfl, Nat.le_of_ble_eq_true rfl⟩) 5 rfl rfl rfl rfl (Nat.le_of_ble_eq_true rfl) dX7_feast_73 ⟨Nat.le_of_ble_eq_true rfl, Nat.le_of_ble_eq_true rfl⟩ (fun H locs hA => ?_)
    refine lv_icmp_le (tgt := 82) hx hb dX7_feast_76 (by decide) (fun c17 => ?_) (fun c17 => ?_)
    · replace h := (if_pos c17).symm.trans h
      refine lv_iconst (v := 0) hx hb dX7_feast_82 (by decide) ?_
      refine lv_istore (lv' := [(7, .int (0 : Int32)), (6, .int ((r7 * x3) + (r9 * r5))), (5, .int r5), (0, .ref (g.2.1 0)), (1, .int x1), (2, .int x2), (3, .int x3), (4, .int x4)]) hx hb dX7_feast_83 hl (by decide) rfl (fun ls hl => ?_)
      exact v_X7_feast_L85 C hT h hA (lv_sub hl [3, 4, 5, 6, 7, 2, 1, 0] rfl)
    · replace h := (if_neg c17).symm.trans h
      refine lv_bipush (v := (-2)) hx hb dX7_feast_79 (by decide) ?_
      cases h
  · replace h := (if_neg c12).symm.trans h
    refine lv_iconst (v := (-1)) hx hb dX7_feast_60 (by decide) ?_
    cases h
end
set_option maxRecDepth 100000 in
theorem k_X7_feast {l : Launch} {g : Gm} {fu : Nat} {σ : SS} {x1 : Int32} {x2 : Int32} {x3 : Int32} {x4 : Int32} {v0 : Int32} {τ : SS} (hlt : l.stackTraces = false) (h : f_X7_feast fu σ x1 x2 x3 x4 = some (.inl v0, τ)) (sz : Nat) : Met l yX7_feast wsX7_feast rmX7_feast (Pw g (wX g σ) [.ref (g.2.1 0), .int x1, .int x2, .int x3, .int x4] sz) (Qi g (va_A (wX g σ) sz) (wX g τ) v0) 0 0 (va_A (wX g σ) sz) :=
  ofM (own := RX7) hlt (by decide) rfl rfl (Nat.le_of_ble_eq_true rfl) (fun p e s m below meth c hsz C hA ls hl => w_X7_feast_0 C h hA hl)
set_option maxRecDepth 100000 in
theorem kx_X7_feast {l : Launch} {g : Gm} {fu : Nat} {σ : SS} {x1 : Int32} {x2 : Int32} {x3 : Int32} {x4 : Int32} {j : Nat} {τ : SS} (hlt : l.stackTraces = false) (h : f_X7_feast fu σ x1 x2 x3 x4 = some (.inr j, τ)) (sz : Nat) : vx_Met l yX7_feast wsX7_feast rxX7_feast (Pw g (wX g σ) [.ref (g.2.1 0), .int x1, .int x2, .int x3, .int x4] sz) (QFi (va_A (wX g σ) sz)) (Xw g (va_A (wX g σ) sz) (wX g τ) j) 1 6 (va_A (wX g σ) sz) :=
  ofX (own := RX7) hlt (by decide) rfl rfl (Nat.le_of_ble_eq_true rfl) (fun p e s m below meth c hsz C hT hA ls hl => v_X7_feast_0 C hT h hA hl)
abbrev rmX7_died : Room := { frames := 2, cells := 0, slots := 0, locals := 47 }
abbrev rxX7_died : Room := { frames := 7, cells := 1, slots := 6, locals := 111 }
theorem iX7_died_X0 : ∀ x ∈ wsX00, x ∈ wsX7_died := by decide +kernel
theorem iX7_died_X7 : ∀ x ∈ wsX70, x ∈ wsX7_died := by decide +kernel
set_option maxRecDepth 20000 in
theorem xi_X7_died_0 : ∀ w ∈ (vx_atS RX7 70 "java/lang/IllegalArgumentException" xNames).filter goodWord, w ∈ wsX7_died := by decide +kernel
theorem nd_X7_died : yX7_died.cls = RX7 ∧ yX7_died.cls ≠ "java/lang/invoke/MethodHandle" ∧ yX7_died.cls ≠ "java/lang/invoke/VarHandle" ∧ (parseMethodDescriptor yX7_died.desc).map (fun d => d.parameters.length) = some 2 := by decide +kernel
def f_X7_died (fu : Nat) (σ : SS) (x1 : Int32) (x2 : Int32) : Option ((Int32 ⊕ Nat) × SS) :=
  bndX (f_X7_checkChief fu σ x1) σ (fun r1 => bndX (f_X7_checkChief fu σ x2) σ (fun r3 => (if x1 = x2 then some (.inr 0, σ) else bndX (f_X7_checkLives fu σ x1) σ (fun r6 => bndX (f_X7_checkLives fu σ x2) σ (fun r8 => if inB x1 12 then bnd (f_X0_moveBlankets fu σ x1 x2 (σ.2.1 19 (x1).toNatClampNeg)) (fun r11 t13 => if inB x1 12 then bnd (f_X1_inherit fu (sA t13 21 (x1).toNatClampNeg (vp_nar .boolean (0 : Int32))) x1 x2) (fun r15 t17 => bnd (f_X3_inherit fu t17 x1 x2) (fun r18 t20 => some (.inl r18, t20))) else none) else none)))))
section
variable {p : Program} {l : Launch} {e : Env} {s : State} {m : MethodId} {args : Array Value} {below : List Frame} {meth : Method} {c : Code} {g : Gm} {A : Nat → Prop} {fu : Nat} {v0 : Int32} {τ : SS} {j : Nat}
set_option maxHeartbeats 4000000 in
set_option maxRecDepth 100000 in
theorem w_X7_died_0 {σ : SS} {x1 : Int32} {x2 : Int32} (C : Cx p l s m args meth c cX7_died 3 wsX7_died (some .int) RX7 g A) (h : f_X7_died fu σ x1 x2 = some (.inl v0, τ)) {H : Heap} {locs : List Loc} {ls : Array Slot} (hA : Aw g A s.heap (wX g σ) H locs) (hl : lv_has ls 3 [(0, .ref (g.2.1 0)), (1, .int x1), (2, .int x2)]) : W p l e rmX7_died s m args below meth c H locs 0 0 (MQ below (Qi g A (wX g τ) v0) args s 0 0 A) (F0 m 0 ls []) := by
  have hx := C.1.1
  have hb := C.1.2.1
  unfold f_X7_died at h
  refine lv_aload_n hx hb dX7_died_0 rfl (lv_at hl 0 rfl) ?_
  refine lv_iload_n hx hb dX7_died_1 rfl (lv_at hl 1 rfl) ?_
  obtain ⟨r1, hc2, h⟩ := bdX h
  refine r_callVv (r := ()) (w1 := wX g σ) (As := [.int x1]) (rest := []) C hA hl.1 (k_X7_checkChief C.2.2.2.2.2.2 hc2) (cwV 1 C.1.2.2.2.2 gX7_died_X7_checkChief rfl rfl rfl nd_X7_checkChief ⟨Nat.le_of_ble_eq_true rfl, Nat.le_of_ble_eq_true rfl⟩) 0 rfl rfl rfl rfl (Nat.le_of_ble_eq_true rfl) dX7_died_2 ⟨Nat.le_of_ble_eq_true rfl, Nat.le_of_ble_eq_true rfl⟩ (fun H locs hA => ?_)
  refine lv_aload_n hx hb dX7_died_5 rfl (lv_at hl 0 rfl) ?_
  refine lv_iload_n hx hb dX7_died_6 rfl (lv_at hl 2 rfl) ?_
  obtain ⟨r3, hc4, h⟩ := bdX h
  refine r_callVv (r := ()) (w1 := wX g σ) (As := [.int x2]) (rest := []) C hA hl.1 (k_X7_checkChief C.2.2.2.2.2.2 hc4) (cwV 1 C.1.2.2.2.2 gX7_died_X7_checkChief rfl rfl rfl nd_X7_checkChief ⟨Nat.le_of_ble_eq_true rfl, Nat.le_of_ble_eq_true rfl⟩) 0 rfl rfl rfl rfl (Nat.le_of_ble_eq_true rfl) dX7_died_7 ⟨Nat.le_of_ble_eq_true rfl, Nat.le_of_ble_eq_true rfl⟩ (fun H locs hA => ?_)
  refine lv_iload_n hx hb dX7_died_10 rfl (lv_at hl 1 rfl) ?_
  refine lv_iload_n hx hb dX7_died_11 rfl (lv_at hl 2 rfl) ?_
  refine lv_icmp_ne (tgt := 25) hx hb dX7_died_12 (by decide) (fun c5 => ?_) (fun c5 => ?_)
  · replace h := (if_neg c5).symm.trans h
    refine lv_aload_n hx hb dX7_died_25 rfl (lv_at hl 0 rfl) ?_
    refine lv_iload_n hx hb dX7_died_26 rfl (lv_at hl 1 rfl) ?_
    obtain ⟨r6, hc7, h⟩ := bdX h
    refine r_callVv (r := ()) (w1 := wX g σ) (As := [.int x1]) (rest := []) C hA hl.1 (k_X7_checkLives C.2.2.2.2.2.2 hc7) (cwV 1 C.1.2.2.2.2 gX7_died_X7_checkLives rfl rfl rfl nd_X7_checkLives ⟨Nat.le_of_ble_eq_true rfl, Nat.le_of_ble_eq_true rfl⟩) 0 rfl rfl rfl rfl (Nat.le_of_ble_eq_true rfl) dX7_died_27 ⟨Nat.le_of_ble_eq_true rfl, Nat.le_of_ble_eq_true rfl⟩ (fun H locs hA => ?_)
    refine lv_aload_n hx hb dX7_died_30 rfl (lv_at hl 0 rfl) ?_
    refine lv_iload_n hx hb dX7_died_31 rfl (lv_at hl 2 rfl) ?_
    obtain ⟨r8, hc9, h⟩ := bdX h
    refine r_callVv (r := ()) (w1 := wX g σ) (As := [.int x2]) (rest := []) C hA hl.1 (k_X7_checkLives C.2.2.2.2.2.2 hc9) (cwV 1 C.1.2.2.2.2 gX7_died_X7_checkLives rfl rfl rfl nd_X7_checkLives ⟨Nat.le_of_ble_eq_true rfl, Nat.le_of_ble_eq_true rfl⟩) 0 rfl rfl rfl rfl (Nat.le_of_ble_eq_true rfl) dX7_died_32 ⟨Nat.le_of_ble_eq_true rfl, Nat.le_of_ble_eq_true rfl⟩ (fun H locs hA => ?_)
    refine lv_aload_n hx hb dX7_died_35 rfl (lv_at hl 0 rfl) ?_
    refine Xg_X7_chiefs C hA iX7_died_X7 (by decide +kernel) dX7_died_36 ?_
    refine lv_iload_n hx hb dX7_died_39 rfl (lv_at hl 1 rfl) ?_
    refine lv_iload_n hx hb dX7_died_40 rfl (lv_at hl 2 rfl) ?_
    refine lv_aload_n hx hb dX7_died_41 rfl (lv_at hl 0 rfl) ?_
    refine Xg_X7_chiefs C hA iX7_died_X7 (by decide +kernel) dX7_died_42 ?_
    refine Xg_X0_blankets C hA iX7_died_X0 (by decide +kernel) dX7_died_45 ?_
    refine lv_iload_n hx hb dX7_died_48 rfl (lv_at hl 1 rfl) ?_
    obtain ⟨g10, h⟩ := gd h
    refine Xld_19 (v := (σ.2.1 19 (x1).toNatClampNeg)) C hA rfl g10 dX7_died_49 ?_
    obtain ⟨r11, t13, hc12, h⟩ := bd h
    refine r_callVv (r := r11) (w1 := wX g t13) (As := [.int x1, .int x2, .int (σ.2.1 19 (x1).toNatClampNeg)]) (rest := []) C hA hl.1 (k_X0_moveBlankets C.2.2.2.2.2.2 hc12) (cwV 3 C.1.2.2.2.2 gX7_died_X0_moveBlankets rfl rfl rfl nd_X0_moveBlankets ⟨Nat.le_of_ble_eq_true rfl, Nat.le_of_ble_eq_true rfl⟩) 4 rfl rfl rfl rfl (Nat.le_of_ble_eq_true rfl) dX7_died_50 ⟨Nat.le_of_ble_eq_true rfl, Nat.le_of_ble_eq_true rfl⟩ (fun H locs hA => ?_)
    refine lv_aload_n hx hb dX7_died_53 rfl (lv_at hl 0 rfl) ?_
    refine Xg_X7_chiefs C hA iX7_died_X7 (by decide +kernel) dX7_died_54 ?_
    refine Xg_X0_lives C hA iX7_died_X0 (by decide +kernel) dX7_died_57 ?_
    refine lv_iload_n hx hb dX7_died_60 rfl (lv_at hl 1 rfl) ?_
    refine lv_iconst (v := 0) hx hb dX7_died_61 (by decide) ?_
    obtain ⟨g14, h⟩ := gd h
    refine Xst_21 C hA g14 dX7_died_62 (fun H locs hA => ?_)
    refine lv_aload_n hx hb dX7_died_63 rfl (lv_at hl 0 rfl) ?_
    refine Xg_X7_coppers C hA iX7_died_X7 (by decide +kernel) dX7_died_64 ?_
    refine lv_iload_n hx hb dX7_died_67 rfl (lv_at hl 1 rfl) ?_
    refine lv_iload_n hx hb dX7_died_68 rfl (lv_at hl 2 rfl) ?_
    obtain ⟨r15, t17, hc16, h⟩ := bd h
    refine r_callVv (r := r15) (w1 := wX g t17) (As := [.int x1, .int x2]) (rest := []) C hA hl.1 (k_X1_inherit C.2.2.2.2.2.2 hc16) (cwV 2 C.1.2.2.2.2 gX7_died_X1_inherit rfl rfl rfl nd_X1_inherit ⟨Nat.le_of_ble_eq_true rfl, Nat.le_of_ble_eq_true rfl⟩) 6 rfl rfl rfl rfl (Nat.le_of_ble_eq_true rfl) dX7_died_69 ⟨Nat.le_of_ble_eq_true rfl, Nat.le_of_ble_eq_true rfl⟩ (fun H locs hA => ?_)
    refine lv_aload_n hx hb dX7_died_72 rfl (lv_at hl 0 rfl) ?_
    refine Xg_X7_debts C hA iX7_died_X7 (by decide +kernel) dX7_died_73 ?_
    refine lv_iload_n hx hb dX7_died_76 rfl (lv_at hl 1 rfl) ?_
    refine lv_iload_n hx hb dX7_died_77 rfl (lv_at hl 2 rfl) ?_
    obtain ⟨r18, t20, hc19, h⟩ := bd h
    refine r_callVi (r := r18) (w1 := wX g t20) (As := [.int x1, .int x2]) (rest := []) C hA hl.1 (k_X3_inherit C.2.2.2.2.2.2 hc19) (cwV 2 C.1.2.2.2.2 gX7_died_X3_inherit rfl rfl rfl nd_X3_inherit ⟨Nat.le_of_ble_eq_true rfl, Nat.le_of_ble_eq_true rfl⟩) 5 rfl rfl rfl rfl (Nat.le_of_ble_eq_true rfl) dX7_died_78 ⟨Nat.le_of_ble_eq_true rfl, Nat.le_of_ble_eq_true rfl⟩ (fun H locs hA => ?_)
    obtain ⟨rfl, rfl⟩ := inl_inj h
    exact r_iret C hA dX7_died_81
  · replace h := (if_pos c5).symm.trans h
    cases h
set_option maxHeartbeats 4000000 in
set_option maxRecDepth 100000 in
theorem v_X7_died_0 {σ : SS} {x1 : Int32} {x2 : Int32} (C : Cx p l s m args meth c cX7_died 3 wsX7_died (some .int) RX7 g A) (hT : ∀ x ∈ c.exceptionTable.toList, False) (h : f_X7_died fu σ x1 x2 = some (.inr j, τ)) {H : Heap} {locs : List Loc} {ls : Array Slot} (hA : Aw g A s.heap (wX g σ) H locs) (hl : lv_has ls 3 [(0, .ref (g.2.1 0)), (1, .int x1), (2, .int x2)]) : W p l e rxX7_died s m args below meth c H locs 0 0 (vx_MQ below (QFi A) (Xw g A (wX g τ) j) args s 1 6 A) (F0 m 0 ls []) := by
  have hx := C.1.1
  have hb := C.1.2.1
  unfold f_X7_died at h
  refine lv_aload_n hx hb dX7_died_0 rfl (lv_at hl 0 rfl) ?_
  refine lv_iload_n hx hb dX7_died_1 rfl (lv_at hl 1 rfl) ?_
  rcases bdXt h with ⟨r1, hc2, h⟩ | ⟨hc2, rfl⟩
  rotate_left
  · exact r_xVv (w1 := wX g σ) (As := [.int x1]) (rest := []) C hA hl.1 hT (kx_X7_checkChief C.2.2.2.2.2.2 hc2) (cwV 1 C.1.2.2.2.2 gX7_died_X7_checkChief rfl rfl rfl nd_X7_checkChief ⟨Nat.le_of_ble_eq_true rfl, Nat.le_of_ble_eq_true rfl⟩) 0 rfl rfl rfl rfl (Nat.le_of_ble_eq_true rfl) dX7_died_2 ⟨Nat.le_of_ble_eq_true rfl, Nat.le_of_ble_eq_true rfl⟩
  refine r_callVv (r := ()) (w1 := wX g σ) (As := [.int x1]) (rest := []) C hA hl.1 (k_X7_checkChief C.2.2.2.2.2.2 hc2) (cwV 1 C.1.2.2.2.2 gX7_died_X7_checkChief rfl rfl rfl nd_X7_checkChief ⟨Nat.le_of_ble_eq_true rfl, Nat.le_of_ble_eq_true rfl⟩) 0 rfl rfl rfl rfl (Nat.le_of_ble_eq_true rfl) dX7_died_2 ⟨Nat.le_of_ble_eq_true rfl, Nat.le_of_ble_eq_true rfl⟩ (fun H locs hA => ?_)
  refine lv_aload_n hx hb dX7_died_5 rfl (lv_at hl 0 rfl) ?_
  refine lv_iload_n hx hb dX7_died_6 rfl (lv_at hl 2 rfl) ?_
  rcases bdXt h with ⟨r3, hc4, h⟩ | ⟨hc4, rfl⟩
  rotate_left
  · exact r_xVv (w1 := wX g σ) (As := [.int x2]) (rest := []) C hA hl.1 hT (kx_X7_checkChief C.2.2.2.2.2.2 hc4) (cwV 1 C.1.2.2.2.2 gX7_died_X7_checkChief rfl rfl rfl nd_X7_checkChief ⟨Nat.le_of_ble_eq_true rfl, Nat.le_of_ble_eq_true rfl⟩) 0 rfl rfl rfl rfl (Nat.le_of_ble_eq_true rfl) dX7_died_7 ⟨Nat.le_of_ble_eq_true rfl, Nat.le_of_ble_eq_true rfl⟩
  refine r_callVv (r := ()) (w1 := wX g σ) (As := [.int x2]) (rest := []) C hA hl.1 (k_X7_checkChief C.2.2.2.2.2.2 hc4) (cwV 1 C.1.2.2.2.2 gX7_died_X7_checkChief rfl rfl rfl nd_X7_checkChief ⟨Nat.le_of_ble_eq_true rfl, Nat.le_of_ble_eq_true rfl⟩) 0 rfl rfl rfl rfl (Nat.le_of_ble_eq_true rfl) dX7_died_7 ⟨Nat.le_of_ble_eq_true rfl, Nat.le_of_ble_eq_true rfl⟩ (fun H locs hA => ?_)
  refine lv_iload_n hx hb dX7_died_10 rfl (lv_at hl 1 rfl) ?_
  refine lv_iload_n hx hb dX7_died_11 rfl (lv_at hl 2 rfl) ?_
  refine lv_icmp_ne (tgt := 25) hx hb dX7_died_12 (by decide) (fun c5 => ?_) (fun c5 => ?_)
  · replace h := (if_neg c5).symm.trans h
    refine lv_aload_n hx hb dX7_died_25 rfl (lv_at hl 0 rfl) ?_
    refine lv_iload_n hx hb dX7_died_26 rfl (lv_at hl 1 rfl) ?_
    rcases bdXt h with ⟨r6, hc7, h⟩ | ⟨hc7, rfl⟩
    rotate_left
    · exact r_xVv (w1 := wX g σ) (As := [.int x1]) (rest := []) C hA hl.1 hT (kx_X7_checkLives C.2.2.2.2.2.2 hc7) (cwV 1 C.1.2.2.2.2 gX7_died_X7_checkLives rfl rfl rfl nd_X7_checkLives ⟨Nat.le_of_ble_eq_true rfl, Nat.le_of_ble_eq_true rfl⟩) 0 rfl rfl rfl rfl (Nat.le_of_ble_eq_true rfl) dX7_died_27 ⟨Nat.le_of_ble_eq_true rfl, Nat.le_of_ble_eq_true rfl⟩
    refine r_callVv (r := ()) (w1 := wX g σ) (As := [.int x1]) (rest := []) C hA hl.1 (k_X7_checkLives C.2.2.2.2.2.2 hc7) (cwV 1 C.1.2.2.2.2 gX7_died_X7_checkLives rfl rfl rfl nd_X7_checkLives ⟨Nat.le_of_ble_eq_true rfl, Nat.le_of_ble_eq_true rfl⟩) 0 rfl rfl rfl rfl (Nat.le_of_ble_eq_true rfl) dX7_died_27 ⟨Nat.le_of_ble_eq_true rfl, Nat.le_of_ble_eq_true rfl⟩ (fun H locs hA => ?_)
    refine lv_aload_n hx hb dX7_died_30 rfl (lv_at hl 0 rfl) ?_
    refine lv_iload_n hx hb dX7_died_31 rfl (lv_at hl 2 rfl) ?_
    rcases bdXt h with ⟨r8, hc9, h⟩ | ⟨hc9, rfl⟩
    rotate_left
    · exact r_xVv (w1 := wX g σ) (As := [.int x2]) (rest := []) C hA hl.1 hT (kx_X7_checkLives C.2.2.2.2.2.2 hc9) (cwV 1 C.1.2.2.2.2 gX7_died_X7_checkLives rfl rfl rfl nd_X7_checkLives ⟨Nat.le_of_ble_eq_true rfl, Nat.le_of_ble_eq_true rfl⟩) 0 rfl rfl rfl rfl (Nat.le_of_ble_eq_true rfl) dX7_died_32 ⟨Nat.le_of_ble_eq_true rfl, Nat.le_of_ble_eq_true rfl⟩
    refine r_callVv (r := ()) (w1 := wX g σ) (As := [.int x2]) (rest := []) C hA hl.1 (k_X7_checkLives C.2.2.2.2.2.2 hc9) (cwV 1 C.1.2.2.2.2 gX7_died_X7_checkLives rfl rfl rfl nd_X7_checkLives ⟨Nat.le_of_ble_eq_true rfl, Nat.le_of_ble_eq_true rfl⟩) 0 rfl rfl rfl rfl (Nat.le_of_ble_eq_true rfl) dX7_died_32 ⟨Nat.le_of_ble_eq_true rfl, Nat.le_of_ble_eq_true rfl⟩ (fun H locs hA => ?_)
    refine lv_aload_n hx hb dX7_died_35 rfl (lv_at hl 0 rfl) ?_
    refine Xg_X7_chiefs C hA iX7_died_X7 (by decide +kernel) dX7_died_36 ?_
    refine lv_iload_n hx hb dX7_died_39 rfl (lv_at hl 1 rfl) ?_
    refine lv_iload_n hx hb dX7_died_40 rfl (lv_at hl 2 rfl) ?_
    refine lv_aload_n hx hb dX7_died_41 rfl (lv_at hl 0 rfl) ?_
    refine Xg_X7_chiefs C hA iX7_died_X7 (by decide +kernel) dX7_died_42 ?_
    refine Xg_X0_blankets C hA iX7_died_X0 (by decide +kernel) dX7_died_45 ?_
    refine lv_iload_n hx hb dX7_died_48 rfl (lv_at hl 1 rfl) ?_
    obtain ⟨g10, h⟩ := gd h
    refine Xld_19 (v := (σ.2.1 19 (x1).toNatClampNeg)) C hA rfl g10 dX7_died_49 ?_
    obtain ⟨r11, t13, hc12, h⟩ := bd h
    refine r_callVv (r := r11) (w1 := wX g t13) (As := [.int x1, .int x2, .int (σ.2.1 19 (x1).toNatClampNeg)]) (rest := []) C hA hl.1 (k_X0_moveBlankets C.2.2.2.2.2.2 hc12) (cwV 3 C.1.2.2.2.2 gX7_died_X0_moveBlankets rfl rfl rfl nd_X0_moveBlankets ⟨Nat.le_of_ble_eq_true rfl, Nat.le_of_ble_eq_true rfl⟩) 4 rfl rfl rfl rfl (Nat.le_of_ble_eq_true rfl) dX7_died_50 ⟨Nat.le_of_ble_eq_true rfl, Nat.le_of_ble_eq_true rfl⟩ (fun H locs hA => ?_)
    refine lv_aload_n hx hb dX7_died_53 rfl (lv_at hl 0 rfl) ?_
    refine Xg_X7_chiefs C hA iX7_died_X7 (by decide +kernel) dX7_died_54 ?_
    refine Xg_X0_lives C hA iX7_died_X0 (by decide +kernel) dX7_died_57 ?_
    refine lv_iload_n hx hb dX7_died_60 rfl (lv_at hl 1 rfl) ?_
    refine lv_iconst (v := 0) hx hb dX7_died_61 (by decide) ?_
    obtain ⟨g14, h⟩ := gd h
    refine Xst_21 C hA g14 dX7_died_62 (fun H locs hA => ?_)
    refine lv_aload_n hx hb dX7_died_63 rfl (lv_at hl 0 rfl) ?_
    refine Xg_X7_coppers C hA iX7_died_X7 (by decide +kernel) dX7_died_64 ?_
    refine lv_iload_n hx hb dX7_died_67 rfl (lv_at hl 1 rfl) ?_
    refine lv_iload_n hx hb dX7_died_68 rfl (lv_at hl 2 rfl) ?_
    obtain ⟨r15, t17, hc16, h⟩ := bd h
    refine r_callVv (r := r15) (w1 := wX g t17) (As := [.int x1, .int x2]) (rest := []) C hA hl.1 (k_X1_inherit C.2.2.2.2.2.2 hc16) (cwV 2 C.1.2.2.2.2 gX7_died_X1_inherit rfl rfl rfl nd_X1_inherit ⟨Nat.le_of_ble_eq_true rfl, Nat.le_of_ble_eq_true rfl⟩) 6 rfl rfl rfl rfl (Nat.le_of_ble_eq_true rfl) dX7_died_69 ⟨Nat.le_of_ble_eq_true rfl, Nat.le_of_ble_eq_true rfl⟩ (fun H locs hA => ?_)
    refine lv_aload_n hx hb dX7_died_72 rfl (lv_at hl 0 rfl) ?_
    refine Xg_X7_debts C hA iX7_died_X7 (by decide +kernel) dX7_died_73 ?_
    refine lv_iload_n hx hb dX7_died_76 rfl (lv_at hl 1 rfl) ?_
    refine lv_iload_n hx hb dX7_died_77 rfl (lv_at hl 2 rfl) ?_
    obtain ⟨r18, t20, hc19, h⟩ := bd h
    refine r_callVi (r := r18) (w1 := wX g t20) (As := [.int x1, .int x2]) (rest := []) C hA hl.1 (k_X3_inherit C.2.2.2.2.2.2 hc19) (cwV 2 C.1.2.2.2.2 gX7_died_X3_inherit rfl rfl rfl nd_X3_inherit ⟨Nat.le_of_ble_eq_true rfl, Nat.le_of_ble_eq_true rfl⟩) 5 rfl rfl rfl rfl (Nat.le_of_ble_eq_true rfl) dX7_died_78 ⟨Nat.le_of_ble_eq_true rfl, Nat.le_of_ble_eq_true rfl⟩ (fun H locs hA => ?_)
    cases h
  · replace h := (if_pos c5).symm.trans h
    obtain ⟨rfl, rfl⟩ := inr_inj h
    exact r_throw (j := 0) (rest := []) C hA hl.1 hT rfl (by decide +kernel) C.2.2.2.2.2.1.2.2.2.2.2.2.2.2.2.2.2.2.2.2.2.2.1 (by decide +kernel) (by decide +kernel) xi_X7_died_0 xn_X7_0 C.2.2.2.2.2.1.2.2.2.2.2.1 xg_X7_0 dX7_died_15 dX7_died_18 dX7_died_19 dX7_died_21 dX7_died_24 (Nat.le_of_ble_eq_true rfl) (Nat.le_of_ble_eq_true rfl) (Nat.le_of_ble_eq_true rfl) (Nat.le_of_ble_eq_true rfl)
end
set_option maxRecDepth 100000 in
theorem k_X7_died {l : Launch} {g : Gm} {fu : Nat} {σ : SS} {x1 : Int32} {x2 : Int32} {v0 : Int32} {τ : SS} (hlt : l.stackTraces = false) (h : f_X7_died fu σ x1 x2 = some (.inl v0, τ)) (sz : Nat) : Met l yX7_died wsX7_died rmX7_died (Pw g (wX g σ) [.ref (g.2.1 0), .int x1, .int x2] sz) (Qi g (va_A (wX g σ) sz) (wX g τ) v0) 0 0 (va_A (wX g σ) sz) :=
  ofM (own := RX7) hlt (by decide) rfl rfl (Nat.le_of_ble_eq_true rfl) (fun p e s m below meth c hsz C hA ls hl => w_X7_died_0 C h hA hl)
set_option maxRecDepth 100000 in
theorem kx_X7_died {l : Launch} {g : Gm} {fu : Nat} {σ : SS} {x1 : Int32} {x2 : Int32} {j : Nat} {τ : SS} (hlt : l.stackTraces = false) (h : f_X7_died fu σ x1 x2 = some (.inr j, τ)) (sz : Nat) : vx_Met l yX7_died wsX7_died rxX7_died (Pw g (wX g σ) [.ref (g.2.1 0), .int x1, .int x2] sz) (QFi (va_A (wX g σ) sz)) (Xw g (va_A (wX g σ) sz) (wX g τ) j) 1 6 (va_A (wX g σ) sz) :=
  ofX (own := RX7) hlt (by decide) rfl rfl (Nat.le_of_ble_eq_true rfl) (fun p e s m below meth c hsz C hT hA ls hl => v_X7_died_0 C hT h hA hl)
abbrev rmX7_wait : Room := { frames := 3, cells := 0, slots := 0, locals := 77 }
abbrev rxX7_wait : Room := { frames := 6, cells := 1, slots := 6, locals := 90 }
theorem iX7_wait_X7 : ∀ x ∈ wsX70, x ∈ wsX7_wait := by decide +kernel
set_option maxRecDepth 20000 in
theorem xi_X7_wait_0 : ∀ w ∈ (vx_atS RX7 70 "java/lang/IllegalArgumentException" xNames).filter goodWord, w ∈ wsX7_wait := by decide +kernel
theorem nd_X7_wait : yX7_wait.cls = RX7 ∧ yX7_wait.cls ≠ "java/lang/invoke/MethodHandle" ∧ yX7_wait.cls ≠ "java/lang/invoke/VarHandle" ∧ (parseMethodDescriptor yX7_wait.desc).map (fun d => d.parameters.length) = some 1 := by decide +kernel
def f_X7_wait_34 (fu : Nat) (k34 : SS → (Int32 × Int32) → Option ((Int32 ⊕ Nat) × SS)) (σ : SS) (x1 : Int32) (x2 : Int32) : Option ((Int32 ⊕ Nat) × SS) :=
  (if x1 ≤ x2 then some (.inl (σ.1 0), σ) else bnd (f_X7_growLoans fu σ) (fun r2 t4 => k34 (sI t4 0 ((t4.1 0) + (1 : Int32))) (x1, (x2 + 1))))
def f_X7_wait_L34 (fu : Nat) : SS → (Int32 × Int32) → Option ((Int32 ⊕ Nat) × SS) := loopN (fun k34 σ x => f_X7_wait_34 fu k34 σ x.1 x.2) fu
def f_X7_wait_22 (fu : Nat) (σ : SS) : Option ((Int32 ⊕ Nat) × SS) :=
  some (.inr 0, σ)
def f_X7_wait (fu : Nat) (σ : SS) (x1 : Int32) : Option ((Int32 ⊕ Nat) × SS) :=
  (if x1 < 0 then f_X7_wait_22 fu σ else (if (100 : Int32) < x1 then f_X7_wait_22 fu σ else (if ((σ.1 0) + x1) ≤ (1000 : Int32) then f_X7_wait_L34 fu σ (x1, (0 : Int32)) else f_X7_wait_22 fu σ)))
section
variable {p : Program} {l : Launch} {e : Env} {s : State} {m : MethodId} {args : Array Value} {below : List Frame} {meth : Method} {c : Code} {g : Gm} {A : Nat → Prop} {fu : Nat} {v0 : Int32} {τ : SS} {j : Nat}
set_option maxHeartbeats 4000000 in
set_option maxRecDepth 100000 in
theorem w_X7_wait_34 {σ : SS} {x1 : Int32} {x2 : Int32} (C : Cx p l s m args meth c cX7_wait 3 wsX7_wait (some .int) RX7 g A) {k34 : SS → (Int32 × Int32) → Option ((Int32 ⊕ Nat) × SS)} (hk34 : ∀ (σ : SS) (x : Int32 × Int32), k34 σ x = some (.inl v0, τ) → ∀ (H : Heap) (locs : List Loc) (ls : Array Slot), Aw g A s.heap (wX g σ) H locs → lv_has ls 3 [(0, .ref (g.2.1 0)), (1, .int x.1), (2, .int x.2)] → W p l e rmX7_wait s m args below meth c H locs 0 0 (MQ below (Qi g A (wX g τ) v0) args s 0 0 A) (F0 m 34 ls [])) (h : f_X7_wait_34 fu k34 σ x1 x2 = some (.inl v0, τ)) {H : Heap} {locs : List Loc} {ls : Array Slot} (hA : Aw g A s.heap (wX g σ) H locs) (hl : lv_has ls 3 [(0, .ref (g.2.1 0)), (1, .int x1), (2, .int x2)]) : W p l e rmX7_wait s m args below meth c H locs 0 0 (MQ below (Qi g A (wX g τ) v0) args s 0 0 A) (F0 m 34 ls []) := by
  have hx := C.1.1
  have hb := C.1.2.1
  unfold f_X7_wait_34 at h
  refine lv_iload_n hx hb dX7_wait_34 rfl (lv_at hl 2 rfl) ?_
  refine lv_iload_n hx hb dX7_wait_35 rfl (lv_at hl 1 rfl) ?_
  refine lv_icmp_ge (tgt := 59) hx hb dX7_wait_36 (by decide) (fun c1 => ?_) (fun c1 => ?_)
  · replace h := (if_pos c1).symm.trans h
    refine lv_aload_n hx hb dX7_wait_59 rfl (lv_at hl 0 rfl) ?_
    refine Xg_X7_now (v := (σ.1 0)) C hA rfl iX7_wait_X7 (by decide +kernel) dX7_wait_60 ?_
    obtain ⟨rfl, rfl⟩ := inl_inj h
    exact r_iret C hA dX7_wait_63
  · replace h := (if_neg c1).symm.trans h
    refine lv_aload_n hx hb dX7_wait_39 rfl (lv_at hl 0 rfl) ?_
    obtain ⟨r2, t4, hc3, h⟩ := bd h
    refine r_callVv (r := r2) (w1 := wX g t4) (As := []) (rest := []) C hA hl.1 (k_X7_growLoans C.2.2.2.2.2.2 hc3) (cwV 0 C.1.2.2.2.2 gX7_wait_X7_growLoans rfl rfl rfl nd_X7_growLoans ⟨Nat.le_of_ble_eq_true rfl, Nat.le_of_ble_eq_true rfl⟩) 0 rfl rfl rfl rfl (Nat.le_of_ble_eq_true rfl) dX7_wait_40 ⟨Nat.le_of_ble_eq_true rfl, Nat.le_of_ble_eq_true rfl⟩ (fun H locs hA => ?_)
    refine lv_aload_n hx hb dX7_wait_43 rfl (lv_at hl 0 rfl) ?_
    refine lv_dup hx hb dX7_wait_44 rfl ?_
    refine Xg_X7_now (v := (t4.1 0)) C hA rfl iX7_wait_X7 (by decide +kernel) dX7_wait_45 ?_
    refine lv_iconst (v := 1) hx hb dX7_wait_48 (by decide) ?_
    refine lv_iadd hx hb dX7_wait_49 ?_
    refine Xp_X7_now C hA iX7_wait_X7 (by decide +kernel) dX7_wait_50 (fun H locs hA => ?_)
    refine lv_iinc (v := (x2 + 1)) (lv' := [(2, .int (x2 + 1)), (0, .ref (g.2.1 0)), (1, .int x1)]) hx hb dX7_wait_53 hl (k := 2) rfl rfl (by decide) rfl (fun ls hl => ?_)
    refine lv_goto (tgt := 34) hx hb dX7_wait_56 (by decide) ?_
    exact hk34 _ _ h _ _ _ hA (lv_sub hl [1, 2, 0] rfl)
set_option maxHeartbeats 4000000 in
theorem w_X7_wait_L34 {σ : SS} {x : Int32 × Int32} (C : Cx p l s m args meth c cX7_wait 3 wsX7_wait (some .int) RX7 g A) (h : f_X7_wait_L34 fu σ x = some (.inl v0, τ)) {H : Heap} {locs : List Loc} {ls : Array Slot} (hA : Aw g A s.heap (wX g σ) H locs) (hl : lv_has ls 3 [(0, .ref (g.2.1 0)), (1, .int x.1), (2, .int x.2)]) : W p l e rmX7_wait s m args below meth c H locs 0 0 (MQ below (Qi g A (wX g τ) v0) args s 0 0 A) (F0 m 34 ls []) := by
  refine loopW (P := fun σ x => ∀ (H : Heap) (locs : List Loc) (ls : Array Slot), Aw g A s.heap (wX g σ) H locs → lv_has ls 3 [(0, .ref (g.2.1 0)), (1, .int x.1), (2, .int x.2)] → W p l e rmX7_wait s m args below meth c H locs 0 0 (MQ below (Qi g A (wX g τ) v0) args s 0 0 A) (F0 m 34 ls [])) (fun k hk σ x h9 H locs ls hA9 hl9 => ?_) fu σ x h H locs ls hA hl
  exact w_X7_wait_34 C hk h9 hA9 hl9
set_option maxHeartbeats 4000000 in
set_option maxRecDepth 100000 in
theorem w_X7_wait_22 {σ : SS} (C : Cx p l s m args meth c cX7_wait 3 wsX7_wait (some .int) RX7 g A) (h : f_X7_wait_22 fu σ = some (.inl v0, τ)) {H : Heap} {locs : List Loc} {ls : Array Slot} (hA : Aw g A s.heap (wX g σ) H locs) (hl : lv_has ls 3 []) : W p l e rmX7_wait s m args below meth c H locs 0 0 (MQ below (Qi g A (wX g τ) v0) args s 0 0 A) (F0 m 22 ls []) := by
  have hx := C.1.1
  have hb := C.1.2.1
  unfold f_X7_wait_22 at h
  cases h
set_option maxHeartbeats 4000000 in
set_option maxRecDepth 100000 in
theorem w_X7_wait_0 {σ : SS} {x1 : Int32} (C : Cx p l s m args meth c cX7_wait 3 wsX7_wait (some .int) RX7 g A) (h : f_X7_wait fu σ x1 = some (.inl v0, τ)) {H : Heap} {locs : List Loc} {ls : Array Slot} (hA : Aw g A s.heap (wX g σ) H locs) (hl : lv_has ls 3 [(0, .ref (g.2.1 0)), (1, .int x1)]) : W p l e rmX7_wait s m args below meth c H locs 0 0 (MQ below (Qi g A (wX g τ) v0) args s 0 0 A) (F0 m 0 ls []) := by
  have hx := C.1.1
  have hb := C.1.2.1
  unfold f_X7_wait at h
  refine lv_iload_n hx hb dX7_wait_0 rfl (lv_at hl 1 rfl) ?_
  refine lv_if_lt (tgt := 22) hx hb dX7_wait_1 (by decide) (fun c1 => ?_) (fun c1 => ?_)
  · replace h := (if_pos c1).symm.trans h
    exact w_X7_wait_22 C h hA (lv_sub hl [] rfl)
  · replace h := (if_neg c1).symm.trans h
    refine lv_iload_n hx hb dX7_wait_4 rfl (lv_at hl 1 rfl) ?_
    refine lv_bipush (v := 100) hx hb dX7_wait_5 (by decide) ?_
    refine lv_icmp_gt (tgt := 22) hx hb dX7_wait_7 (by decide) (fun c2 => ?_) (fun c2 => ?_)
    · replace h := (if_pos c2).symm.trans h
      exact w_X7_wait_22 C h hA (lv_sub hl [] rfl)
    · replace h := (if_neg c2).symm.trans h
      refine lv_aload_n hx hb dX7_wait_10 rfl (lv_at hl 0 rfl) ?_
      refine Xg_X7_now (v := (σ.1 0)) C hA rfl iX7_wait_X7 (by decide +kernel) dX7_wait_11 ?_
      refine lv_iload_n hx hb dX7_wait_14 rfl (lv_at hl 1 rfl) ?_
      refine lv_iadd hx hb dX7_wait_15 ?_
      refine lv_sipush (v := 1000) hx hb dX7_wait_16 (by decide) ?_
      refine lv_icmp_le (tgt := 32) hx hb dX7_wait_19 (by decide) (fun c3 => ?_) (fun c3 => ?_)
      · replace h := (if_pos c3).symm.trans h
        refine lv_iconst (v := 0) hx hb dX7_wait_32 (by decide) ?_
        refine lv_istore_n (lv' := [(2, .int (0 : Int32)), (0, .ref (g.2.1 0)), (1, .int x1)]) hx hb dX7_wait_33 rfl hl (by decide) rfl (fun ls hl => ?_)
        exact w_X7_wait_L34 C h hA (lv_sub hl [1, 2, 0] rfl)
      · replace h := (if_neg c3).symm.trans h
        exact w_X7_wait_22 C h hA (lv_sub hl [] rfl)
set_option maxHeartbeats 4000000 in
set_option maxRecDepth 100000 in
theorem v_X7_wait_34 {σ : SS} {x1 : Int32} {x2 : Int32} (C : Cx p l s m args meth c cX7_wait 3 wsX7_wait (some .int) RX7 g A) (hT : ∀ x ∈ c.exceptionTable.toList, False) {k34 : SS → (Int32 × Int32) → Option ((Int32 ⊕ Nat) × SS)} (hk34 : ∀ (σ : SS) (x : Int32 × Int32), k34 σ x = some (.inr j, τ) → ∀ (H : Heap) (locs : List Loc) (ls : Array Slot), Aw g A s.heap (wX g σ) H locs → lv_has ls 3 [(0, .ref (g.2.1 0)), (1, .int x.1), (2, .int x.2)] → W p l e rxX7_wait s m args below meth c H locs 0 0 (vx_MQ below (QFi A) (Xw g A (wX g τ) j) args s 1 6 A) (F0 m 34 ls [])) (h : f_X7_wait_34 fu k34 σ x1 x2 = some (.inr j, τ)) {H : Heap} {locs : List Loc} {ls : Array Slot} (hA : Aw g A s.heap (wX g σ) H locs) (hl : lv_has ls 3 [(0, .ref (g.2.1 0)), (1, .int x1), (2, .int x2)]) : W p l e rxX7_wait s m args below meth c H locs 0 0 (vx_MQ below (QFi A) (Xw g A (wX g τ) j) args s 1 6 A) (F0 m 34 ls []) := by
  have hx := C.1.1
  have hb := C.1.2.1
  unfold f_X7_wait_34 at h
  refine lv_iload_n hx hb dX7_wait_34 rfl (lv_at hl 2 rfl) ?_
  refine lv_iload_n hx hb dX7_wait_35 rfl (lv_at hl 1 rfl) ?_
  refine lv_icmp_ge (tgt := 59) hx hb dX7_wait_36 (by decide) (fun c1 => ?_) (fun c1 => ?_)
  · replace h := (if_pos c1).symm.trans h
    refine lv_aload_n hx hb dX7_wait_59 rfl (lv_at hl 0 rfl) ?_
    refine Xg_X7_now (v := (σ.1 0)) C hA rfl iX7_wait_X7 (by decide +kernel) dX7_wait_60 ?_
    cases h
  · replace h := (if_neg c1).symm.trans h
    refine lv_aload_n hx hb dX7_wait_39 rfl (lv_at hl 0 rfl) ?_
    obtain ⟨r2, t4, hc3, h⟩ := bd h
    refine r_callVv (r := r2) (w1 := wX g t4) (As := []) (rest := []) C hA hl.1 (k_X7_growLoans C.2.2.2.2.2.2 hc3) (cwV 0 C.1.2.2.2.2 gX7_wait_X7_growLoans rfl rfl rfl nd_X7_growLoans ⟨Nat.le_of_ble_eq_true rfl, Nat.le_of_ble_eq_true rfl⟩) 0 rfl rfl rfl rfl (Nat.le_of_ble_eq_true rfl) dX7_wait_40 ⟨Nat.le_of_ble_eq_true rfl, Nat.le_of_ble_eq_true rfl⟩ (fun H locs hA => ?_)
    refine lv_aload_n hx hb dX7_wait_43 rfl (lv_at hl 0 rfl) ?_
    refine lv_dup hx hb dX7_wait_44 rfl ?_
    refine Xg_X7_now (v := (t4.1 0)) C hA rfl iX7_wait_X7 (by decide +kernel) dX7_wait_45 ?_
    refine lv_iconst (v := 1) hx hb dX7_wait_48 (by decide) ?_
    refine lv_iadd hx hb dX7_wait_49 ?_
    refine Xp_X7_now C hA iX7_wait_X7 (by decide +kernel) dX7_wait_50 (fun H locs hA => ?_)
    refine lv_iinc (v := (x2 + 1)) (lv' := [(2, .int (x2 + 1)), (0, .ref (g.2.1 0)), (1, .int x1)]) hx hb dX7_wait_53 hl (k := 2) rfl rfl (by decide) rfl (fun ls hl => ?_)
    refine lv_goto (tgt := 34) hx hb dX7_wait_56 (by decide) ?_
    exact hk34 _ _ h _ _ _ hA (lv_sub hl [1, 2, 0] rfl)
set_option maxHeartbeats 4000000 in
theorem v_X7_wait_L34 {σ : SS} {x : Int32 × Int32} (C : Cx p l s m args meth c cX7_wait 3 wsX7_wait (some .int) RX7 g A) (hT : ∀ x ∈ c.exceptionTable.toList, False) (h : f_X7_wait_L34 fu σ x = some (.inr j, τ)) {H : Heap} {locs : List Loc} {ls : Array Slot} (hA : Aw g A s.heap (wX g σ) H locs) (hl : lv_has ls 3 [(0, .ref (g.2.1 0)), (1, .int x.1), (2, .int x.2)]) : W p l e rxX7_wait s m args below meth c H locs 0 0 (vx_MQ below (QFi A) (Xw g A (wX g τ) j) args s 1 6 A) (F0 m 34 ls []) := by
  refine loopW (P := fun σ x => ∀ (H : Heap) (locs : List Loc) (ls : Array Slot), Aw g A s.heap (wX g σ) H locs → lv_has ls 3 [(0, .ref (g.2.1 0)), (1, .int x.1), (2, .int x.2)] → W p l e rxX7_wait s m args below meth c H locs 0 0 (vx_MQ below (QFi A) (Xw g A (wX g τ) j) args s 1 6 A) (F0 m 34 ls [])) (fun k hk σ x h9 H locs ls hA9 hl9 => ?_) fu σ x h H locs ls hA hl
  exact v_X7_wait_34 C hT hk h9 hA9 hl9
set_option maxHeartbeats 4000000 in
set_option maxRecDepth 100000 in
theorem v_X7_wait_22 {σ : SS} (C : Cx p l s m args meth c cX7_wait 3 wsX7_wait (some .int) RX7 g A) (hT : ∀ x ∈ c.exceptionTable.toList, False) (h : f_X7_wait_22 fu σ = some (.inr j, τ)) {H : Heap} {locs : List Loc} {ls : Array Slot} (hA : Aw g A s.heap (wX g σ) H locs) (hl : lv_has ls 3 []) : W p l e rxX7_wait s m args below meth c H locs 0 0 (vx_MQ below (QFi A) (Xw g A (wX g τ) j) args s 1 6 A) (F0 m 22 ls []) := by
  have hx := C.1.1
  have hb := C.1.2.1
  unfold f_X7_wait_22 at h
  obtain ⟨rfl, rfl⟩ := inr_inj h
  exact r_throw (j := 0) (rest := []) C hA hl.1 hT rfl (by decide +kernel) C.2.2.2.2.2.1.2.2.2.2.2.2.2.2.2.2.2.2.2.2.2.2.2.1 (by decide +kernel) (by decide +kernel) xi_X7_wait_0 xn_X7_0 C.2.2.2.2.2.1.2.2.2.2.2.1 xg_X7_0 dX7_wait_22 dX7_wait_25 dX7_wait_26 dX7_wait_28 dX7_wait_31 (Nat.le_of_ble_eq_true rfl) (Nat.le_of_ble_eq_true rfl) (Nat.le_of_ble_eq_true rfl) (Nat.le_of_ble_eq_true rfl)
set_option maxHeartbeats 4000000 in
set_option maxRecDepth 100000 in
theorem v_X7_wait_0 {σ : SS} {x1 : Int32} (C : Cx p l s m args meth c cX7_wait 3 wsX7_wait (some .int) RX7 g A) (hT : ∀ x ∈ c.exceptionTable.toList, False) (h : f_X7_wait fu σ x1 = some (.inr j, τ)) {H : Heap} {locs : List Loc} {ls : Array Slot} (hA : Aw g A s.heap (wX g σ) H locs) (hl : lv_has ls 3 [(0, .ref (g.2.1 0)), (1, .int x1)]) : W p l e rxX7_wait s m args below meth c H locs 0 0 (vx_MQ below (QFi A) (Xw g A (wX g τ) j) args s 1 6 A) (F0 m 0 ls []) := by
  have hx := C.1.1
  have hb := C.1.2.1
  unfold f_X7_wait at h
  refine lv_iload_n hx hb dX7_wait_0 rfl (lv_at hl 1 rfl) ?_
  refine lv_if_lt (tgt := 22) hx hb dX7_wait_1 (by decide) (fun c1 => ?_) (fun c1 => ?_)
  · replace h := (if_pos c1).symm.trans h
    exact v_X7_wait_22 C hT h hA (lv_sub hl [] rfl)
  · replace h := (if_neg c1).symm.trans h
    refine lv_iload_n hx hb dX7_wait_4 rfl (lv_at hl 1 rfl) ?_
    refine lv_bipush (v := 100) hx hb dX7_wait_5 (by decide) ?_
    refine lv_icmp_gt (tgt := 22) hx hb dX7_wait_7 (by decide) (fun c2 => ?_) (fun c2 => ?_)
    · replace h := (if_pos c2).symm.trans h
      exact v_X7_wait_22 C hT h hA (lv_sub hl [] rfl)
    · replace h := (if_neg c2).symm.trans h
      refine lv_aload_n hx hb dX7_wait_10 rfl (lv_at hl 0 rfl) ?_
      refine Xg_X7_now (v := (σ.1 0)) C hA rfl iX7_wait_X7 (by decide +kernel) dX7_wait_11 ?_
      refine lv_iload_n hx hb dX7_wait_14 rfl (lv_at hl 1 rfl) ?_
      refine lv_iadd hx hb dX7_wait_15 ?_
      refine lv_sipush (v := 1000) hx hb dX7_wait_16 (by decide) ?_
      refine lv_icmp_le (tgt := 32) hx hb dX7_wait_19 (by decide) (fun c3 => ?_) (fun c3 => ?_)
      · replace h := (if_pos c3).symm.trans h
        refine lv_iconst (v := 0) hx hb dX7_wait_32 (by decide) ?_
        refine lv_istore_n (lv' := [(2, .int (0 : Int32)), (0, .ref (g.2.1 0)), (1, .int x1)]) hx hb dX7_wait_33 rfl hl (by decide) rfl (fun ls hl => ?_)
        exact v_X7_wait_L34 C hT h hA (lv_sub hl [1, 2, 0] rfl)
      · replace h := (if_neg c3).symm.trans h
        exact v_X7_wait_22 C hT h hA (lv_sub hl [] rfl)
end
set_option maxRecDepth 100000 in
theorem k_X7_wait {l : Launch} {g : Gm} {fu : Nat} {σ : SS} {x1 : Int32} {v0 : Int32} {τ : SS} (hlt : l.stackTraces = false) (h : f_X7_wait fu σ x1 = some (.inl v0, τ)) (sz : Nat) : Met l yX7_wait wsX7_wait rmX7_wait (Pw g (wX g σ) [.ref (g.2.1 0), .int x1] sz) (Qi g (va_A (wX g σ) sz) (wX g τ) v0) 0 0 (va_A (wX g σ) sz) :=
  ofM (own := RX7) hlt (by decide) rfl rfl (Nat.le_of_ble_eq_true rfl) (fun p e s m below meth c hsz C hA ls hl => w_X7_wait_0 C h hA hl)
set_option maxRecDepth 100000 in
theorem kx_X7_wait {l : Launch} {g : Gm} {fu : Nat} {σ : SS} {x1 : Int32} {j : Nat} {τ : SS} (hlt : l.stackTraces = false) (h : f_X7_wait fu σ x1 = some (.inr j, τ)) (sz : Nat) : vx_Met l yX7_wait wsX7_wait rxX7_wait (Pw g (wX g σ) [.ref (g.2.1 0), .int x1] sz) (QFi (va_A (wX g σ) sz)) (Xw g (va_A (wX g σ) sz) (wX g τ) j) 1 6 (va_A (wX g σ) sz) :=
  ofX (own := RX7) hlt (by decide) rfl rfl (Nat.le_of_ble_eq_true rfl) (fun p e s m below meth c hsz C hT hA ls hl => v_X7_wait_0 C hT h hA hl)
abbrev rmX7_debt : Room := { frames := 1, cells := 0, slots := 0, locals := 21 }
abbrev rxX7_debt : Room := { frames := 6, cells := 1, slots := 6, locals := 90 }
theorem iX7_debt_X3 : ∀ x ∈ wsX30, x ∈ wsX7_debt := by decide +kernel
theorem iX7_debt_X7 : ∀ x ∈ wsX70, x ∈ wsX7_debt := by decide +kernel
set_option maxRecDepth 20000 in
theorem xi_X7_debt_0 : ∀ w ∈ (vx_atS RX7 70 "java/lang/IllegalArgumentException" xNames).filter goodWord, w ∈ wsX7_debt := by decide +kernel
set_option maxRecDepth 20000 in
theorem xi_X7_debt_2 : ∀ w ∈ (vx_atS RX7 211 "java/lang/IndexOutOfBoundsException" xNames).filter goodWord, w ∈ wsX7_debt := by decide +kernel
theorem nd_X7_debt : yX7_debt.cls = RX7 ∧ yX7_debt.cls ≠ "java/lang/invoke/MethodHandle" ∧ yX7_debt.cls ≠ "java/lang/invoke/VarHandle" ∧ (parseMethodDescriptor yX7_debt.desc).map (fun d => d.parameters.length) = some 2 := by decide +kernel
def f_X7_debt_15 (fu : Nat) (σ : SS) : Option (Int32 ⊕ Nat) :=
  some (.inr 2)
def f_X7_debt (fu : Nat) (σ : SS) (x1 : Int32) (x2 : Int32) : Option (Int32 ⊕ Nat) :=
  (if x1 < 0 then f_X7_debt_15 fu σ else (if x1 < (σ.1 15) then (if x2 = 0 then if inB x1 400 then some (.inl (σ.2.1 22 (x1).toNatClampNeg)) else none else (if x2 = 1 then if inB x1 400 then some (.inl (σ.2.1 23 (x1).toNatClampNeg)) else none else (if x2 = 2 then if inB x1 400 then some (.inl (σ.2.1 24 (x1).toNatClampNeg)) else none else (if x2 = 3 then bnd1 (f_X3_isLoan fu σ x1) (fun r6 => (if r6 = 0 then some (.inl (0 : Int32)) else some (.inl (1 : Int32)))) else (if x2 = 4 then if inB x1 400 then some (.inl (σ.2.1 25 (x1).toNatClampNeg)) else none else some (.inr 0)))))) else f_X7_debt_15 fu σ))
section
variable {p : Program} {l : Launch} {e : Env} {s : State} {m : MethodId} {args : Array Value} {below : List Frame} {meth : Method} {c : Code} {g : Gm} {A : Nat → Prop} {fu : Nat} {v0 : Int32} {τ : SS} {j : Nat}
set_option maxHeartbeats 4000000 in
set_option maxRecDepth 100000 in
theorem w_X7_debt_15 {σ : SS} (C : Cx p l s m args meth c cX7_debt 3 wsX7_debt (some .int) RX7 g A) (h : f_X7_debt_15 fu σ = some (.inl v0)) {H : Heap} {locs : List Loc} {ls : Array Slot} (hA : Aw g A s.heap (wX g σ) H locs) (hl : lv_has ls 3 []) : W p l e rmX7_debt s m args below meth c H locs 0 0 (MQ below (Qi g A (wX g σ) v0) args s 0 0 A) (F0 m 15 ls []) := by
  have hx := C.1.1
  have hb := C.1.2.1
  unfold f_X7_debt_15 at h
  cases h
set_option maxHeartbeats 4000000 in
set_option maxRecDepth 100000 in
theorem w_X7_debt_0 {σ : SS} {x1 : Int32} {x2 : Int32} (C : Cx p l s m args meth c cX7_debt 3 wsX7_debt (some .int) RX7 g A) (h : f_X7_debt fu σ x1 x2 = some (.inl v0)) {H : Heap} {locs : List Loc} {ls : Array Slot} (hA : Aw g A s.heap (wX g σ) H locs) (hl : lv_has ls 3 [(0, .ref (g.2.1 0)), (1, .int x1), (2, .int x2)]) : W p l e rmX7_debt s m args below meth c H locs 0 0 (MQ below (Qi g A (wX g σ) v0) args s 0 0 A) (F0 m 0 ls []) := by
  have hx := C.1.1
  have hb := C.1.2.1
  unfold f_X7_debt at h
  refine lv_iload_n hx hb dX7_debt_0 rfl (lv_at hl 1 rfl) ?_
  refine lv_if_lt (tgt := 15) hx hb dX7_debt_1 (by decide) (fun c1 => ?_) (fun c1 => ?_)
  · replace h := (if_pos c1).symm.trans h
    exact w_X7_debt_15 C h hA (lv_sub hl [] rfl)
  · replace h := (if_neg c1).symm.trans h
    refine lv_iload_n hx hb dX7_debt_4 rfl (lv_at hl 1 rfl) ?_
    refine lv_aload_n hx hb dX7_debt_5 rfl (lv_at hl 0 rfl) ?_
    refine Xg_X7_debts C hA iX7_debt_X7 (by decide +kernel) dX7_debt_6 ?_
    refine Xg_X3_size (v := (σ.1 15)) C hA rfl iX7_debt_X3 (by decide +kernel) dX7_debt_9 ?_
    refine lv_icmp_lt (tgt := 25) hx hb dX7_debt_12 (by decide) (fun c2 => ?_) (fun c2 => ?_)
    · replace h := (if_pos c2).symm.trans h
      refine lv_iload_n hx hb dX7_debt_25 rfl (lv_at hl 2 rfl) ?_
      by_cases sw0 : x2 = 0
      · replace h := (if_pos sw0).symm.trans h
        rw [sw0]
        refine lv_tableIn (tgt := 60) hx hb dX7_debt_26 (by decide) (by decide) rfl (by decide) ?_
        refine lv_aload_n hx hb dX7_debt_60 rfl (lv_at hl 0 rfl) ?_
        refine Xg_X7_debts C hA iX7_debt_X7 (by decide +kernel) dX7_debt_61 ?_
        refine Xg_X3_debtor C hA iX7_debt_X3 (by decide +kernel) dX7_debt_64 ?_
        refine lv_iload_n hx hb dX7_debt_67 rfl (lv_at hl 1 rfl) ?_
        obtain ⟨g3, h⟩ := gd h
        refine Xld_22 (v := (σ.2.1 22 (x1).toNatClampNeg)) C hA rfl g3 dX7_debt_68 ?_
        obtain rfl := inl_inj0 h
        exact r_iret C hA dX7_debt_69
      · replace h := (if_neg sw0).symm.trans h
        by_cases sw1 : x2 = 1
        · replace h := (if_pos sw1).symm.trans h
          rw [sw1]
          refine lv_tableIn (tgt := 70) hx hb dX7_debt_26 (by decide) (by decide) rfl (by decide) ?_
          refine lv_aload_n hx hb dX7_debt_70 rfl (lv_at hl 0 rfl) ?_
          refine Xg_X7_debts C hA iX7_debt_X7 (by decide +kernel) dX7_debt_71 ?_
          refine Xg_X3_creditor C hA iX7_debt_X3 (by decide +kernel) dX7_debt_74 ?_
          refine lv_iload_n hx hb dX7_debt_77 rfl (lv_at hl 1 rfl) ?_
          obtain ⟨g4, h⟩ := gd h
          refine Xld_23 (v := (σ.2.1 23 (x1).toNatClampNeg)) C hA rfl g4 dX7_debt_78 ?_
          obtain rfl := inl_inj0 h
          exact r_iret C hA dX7_debt_79
        · replace h := (if_neg sw1).symm.trans h
          by_cases sw2 : x2 = 2
          · replace h := (if_pos sw2).symm.trans h
            rw [sw2]
            refine lv_tableIn (tgt := 80) hx hb dX7_debt_26 (by decide) (by decide) rfl (by decide) ?_
            refine lv_aload_n hx hb dX7_debt_80 rfl (lv_at hl 0 rfl) ?_
            refine Xg_X7_debts C hA iX7_debt_X7 (by decide +kernel) dX7_debt_81 ?_
            refine Xg_X3_left C hA iX7_debt_X3 (by decide +kernel) dX7_debt_84 ?_
            refine lv_iload_n hx hb dX7_debt_87 rfl (lv_at hl 1 rfl) ?_
            obtain ⟨g5, h⟩ := gd h
            refine Xld_24 (v := (σ.2.1 24 (x1).toNatClampNeg)) C hA rfl g5 dX7_debt_88 ?_
            obtain rfl := inl_inj0 h
            exact r_iret C hA dX7_debt_89
          · replace h := (if_neg sw2).symm.trans h
            by_cases sw3 : x2 = 3
            · replace h := (if_pos sw3).symm.trans h
              rw [sw3]
              refine lv_tableIn (tgt := 90) hx hb dX7_debt_26 (by decide) (by decide) rfl (by decide) ?_
              refine lv_aload_n hx hb dX7_debt_90 rfl (lv_at hl 0 rfl) ?_
              refine Xg_X7_debts C hA iX7_debt_X7 (by decide +kernel) dX7_debt_91 ?_
              refine lv_iload_n hx hb dX7_debt_94 rfl (lv_at hl 1 rfl) ?_
              obtain ⟨r6, hc7, h⟩ := bd1 h
              refine r_callVi (r := r6) (w1 := wX g σ) (As := [.int x1]) (rest := []) C hA hl.1 (k_X3_isLoan C.2.2.2.2.2.2 hc7) (cwV 1 C.1.2.2.2.2 gX7_debt_X3_isLoan rfl rfl rfl nd_X3_isLoan ⟨Nat.le_of_ble_eq_true rfl, Nat.le_of_ble_eq_true rfl⟩) 5 rfl rfl rfl rfl (Nat.le_of_ble_eq_true rfl) dX7_debt_95 ⟨Nat.le_of_ble_eq_true rfl, Nat.le_of_ble_eq_true rfl⟩ (fun H locs hA => ?_)
              refine lv_if_eq (tgt := 105) hx hb dX7_debt_98 (by decide) (fun c8 => ?_) (fun c8 => ?_)
              · replace h := (if_pos c8).symm.trans h
                refine lv_iconst (v := 0) hx hb dX7_debt_105 (by decide) ?_
                obtain rfl := inl_inj0 h
                exact r_iret C hA dX7_debt_106
              · replace h := (if_neg c8).symm.trans h
                refine lv_iconst (v := 1) hx hb dX7_debt_101 (by decide) ?_
                refine lv_goto (tgt := 106) hx hb dX7_debt_102 (by decide) ?_
                obtain rfl := inl_inj0 h
                exact r_iret C hA dX7_debt_106
            · replace h := (if_neg sw3).symm.trans h
              by_cases sw4 : x2 = 4
              · replace h := (if_pos sw4).symm.trans h
                rw [sw4]
                refine lv_tableIn (tgt := 107) hx hb dX7_debt_26 (by decide) (by decide) rfl (by decide) ?_
                refine lv_aload_n hx hb dX7_debt_107 rfl (lv_at hl 0 rfl) ?_
                refine Xg_X7_debts C hA iX7_debt_X7 (by decide +kernel) dX7_debt_108 ?_
                refine Xg_X3_due C hA iX7_debt_X3 (by decide +kernel) dX7_debt_111 ?_
                refine lv_iload_n hx hb dX7_debt_114 rfl (lv_at hl 1 rfl) ?_
                obtain ⟨g9, h⟩ := gd h
                refine Xld_25 (v := (σ.2.1 25 (x1).toNatClampNeg)) C hA rfl g9 dX7_debt_115 ?_
                obtain rfl := inl_inj0 h
                exact r_iret C hA dX7_debt_116
              · replace h := (if_neg sw4).symm.trans h
                refine lv_tableOut (tgt := 117) hx hb dX7_debt_26 (sw_out4 sw0 sw1 sw2 sw3 sw4) (by decide) ?_
                cases h
    · replace h := (if_neg c2).symm.trans h
      exact w_X7_debt_15 C h hA (lv_sub hl [] rfl)
set_option maxHeartbeats 4000000 in
set_option maxRecDepth 100000 in
theorem v_X7_debt_15 {σ : SS} (C : Cx p l s m args meth c cX7_debt 3 wsX7_debt (some .int) RX7 g A) (hT : ∀ x ∈ c.exceptionTable.toList, False) (h : f_X7_debt_15 fu σ = some (.inr j)) {H : Heap} {locs : List Loc} {ls : Array Slot} (hA : Aw g A s.heap (wX g σ) H locs) (hl : lv_has ls 3 []) : W p l e rxX7_debt s m args below meth c H locs 0 0 (vx_MQ below (QFi A) (Xw g A (wX g σ) j) args s 1 6 A) (F0 m 15 ls []) := by
  have hx := C.1.1
  have hb := C.1.2.1
  unfold f_X7_debt_15 at h
  obtain rfl := inr_inj0 h
  exact r_throw (j := 2) (rest := []) C hA hl.1 hT rfl (by decide +kernel) C.2.2.2.2.2.1.2.2.2.2.2.2.2.2.2.2.2.2.2.2.2.2.2.2.1 (by decide +kernel) (by decide +kernel) xi_X7_debt_2 xn_X7_2 C.2.2.2.2.2.1.2.2.2.2.2.2.2.1 xg_X7_2 dX7_debt_15 dX7_debt_18 dX7_debt_19 dX7_debt_21 dX7_debt_24 (Nat.le_of_ble_eq_true rfl) (Nat.le_of_ble_eq_true rfl) (Nat.le_of_ble_eq_true rfl) (Nat.le_of_ble_eq_true rfl)
set_option maxHeartbeats 4000000 in
set_option maxRecDepth 100000 in
theorem v_X7_debt_0 {σ : SS} {x1 : Int32} {x2 : Int32} (C : Cx p l s m args meth c cX7_debt 3 wsX7_debt (some .int) RX7 g A) (hT : ∀ x ∈ c.exceptionTable.toList, False) (h : f_X7_debt fu σ x1 x2 = some (.inr j)) {H : Heap} {locs : List Loc} {ls : Array Slot} (hA : Aw g A s.heap (wX g σ) H locs) (hl : lv_has ls 3 [(0, .ref (g.2.1 0)), (1, .int x1), (2, .int x2)]) : W p l e rxX7_debt s m args below meth c H locs 0 0 (vx_MQ below (QFi A) (Xw g A (wX g σ) j) args s 1 6 A) (F0 m 0 ls []) := by
  have hx := C.1.1
  have hb := C.1.2.1
  unfold f_X7_debt at h
  refine lv_iload_n hx hb dX7_debt_0 rfl (lv_at hl 1 rfl) ?_
  refine lv_if_lt (tgt := 15) hx hb dX7_debt_1 (by decide) (fun c1 => ?_) (fun c1 => ?_)
  · replace h := (if_pos c1).symm.trans h
    exact v_X7_debt_15 C hT h hA (lv_sub hl [] rfl)
  · replace h := (if_neg c1).symm.trans h
    refine lv_iload_n hx hb dX7_debt_4 rfl (lv_at hl 1 rfl) ?_
    refine lv_aload_n hx hb dX7_debt_5 rfl (lv_at hl 0 rfl) ?_
    refine Xg_X7_debts C hA iX7_debt_X7 (by decide +kernel) dX7_debt_6 ?_
    refine Xg_X3_size (v := (σ.1 15)) C hA rfl iX7_debt_X3 (by decide +kernel) dX7_debt_9 ?_
    refine lv_icmp_lt (tgt := 25) hx hb dX7_debt_12 (by decide) (fun c2 => ?_) (fun c2 => ?_)
    · replace h := (if_pos c2).symm.trans h
      refine lv_iload_n hx hb dX7_debt_25 rfl (lv_at hl 2 rfl) ?_
      by_cases sw0 : x2 = 0
      · replace h := (if_pos sw0).symm.trans h
        rw [sw0]
        refine lv_tableIn (tgt := 60) hx hb dX7_debt_26 (by decide) (by decide) rfl (by decide) ?_
        refine lv_aload_n hx hb dX7_debt_60 rfl (lv_at hl 0 rfl) ?_
        refine Xg_X7_debts C hA iX7_debt_X7 (by decide +kernel) dX7_debt_61 ?_
        refine Xg_X3_debtor C hA iX7_debt_X3 (by decide +kernel) dX7_debt_64 ?_
        refine lv_iload_n hx hb dX7_debt_67 rfl (lv_at hl 1 rfl) ?_
        obtain ⟨g3, h⟩ := gd h
        refine Xld_22 (v := (σ.2.1 22 (x1).toNatClampNeg)) C hA rfl g3 dX7_debt_68 ?_
        cases h
      · replace h := (if_neg sw0).symm.trans h
        by_cases sw1 : x2 = 1
        · replace h := (if_pos sw1).symm.trans h
          rw [sw1]
          refine lv_tableIn (tgt := 70) hx hb dX7_debt_26 (by decide) (by decide) rfl (by decide) ?_
          refine lv_aload_n hx hb dX7_debt_70 rfl (lv_at hl 0 rfl) ?_
          refine Xg_X7_debts C hA iX7_debt_X7 (by decide +kernel) dX7_debt_71 ?_
          refine Xg_X3_creditor C hA iX7_debt_X3 (by decide +kernel) dX7_debt_74 ?_
          refine lv_iload_n hx hb dX7_debt_77 rfl (lv_at hl 1 rfl) ?_
          obtain ⟨g4, h⟩ := gd h
          refine Xld_23 (v := (σ.2.1 23 (x1).toNatClampNeg)) C hA rfl g4 dX7_debt_78 ?_
          cases h
        · replace h := (if_neg sw1).symm.trans h
          by_cases sw2 : x2 = 2
          · replace h := (if_pos sw2).symm.trans h
            rw [sw2]
            refine lv_tableIn (tgt := 80) hx hb dX7_debt_26 (by decide) (by decide) rfl (by decide) ?_
            refine lv_aload_n hx hb dX7_debt_80 rfl (lv_at hl 0 rfl) ?_
            refine Xg_X7_debts C hA iX7_debt_X7 (by decide +kernel) dX7_debt_81 ?_
            refine Xg_X3_left C hA iX7_debt_X3 (by decide +kernel) dX7_debt_84 ?_
            refine lv_iload_n hx hb dX7_debt_87 rfl (lv_at hl 1 rfl) ?_
            obtain ⟨g5, h⟩ := gd h
            refine Xld_24 (v := (σ.2.1 24 (x1).toNatClampNeg)) C hA rfl g5 dX7_debt_88 ?_
            cases h
          · replace h := (if_neg sw2).symm.trans h
            by_cases sw3 : x2 = 3
            · replace h := (if_pos sw3).symm.trans h
              rw [sw3]
              refine lv_tableIn (tgt := 90) hx hb dX7_debt_26 (by decide) (by decide) rfl (by decide) ?_
              refine lv_aload_n hx hb dX7_debt_90 rfl (lv_at hl 0 rfl) ?_
              refine Xg_X7_debts C hA iX7_debt_X7 (by decide +kernel) dX7_debt_91 ?_
              refine lv_iload_n hx hb dX7_debt_94 rfl (lv_at hl 1 rfl) ?_
              obtain ⟨r6, hc7, h⟩ := bd1 h
              refine r_callVi (r := r6) (w1 := wX g σ) (As := [.int x1]) (rest := []) C hA hl.1 (k_X3_isLoan C.2.2.2.2.2.2 hc7) (cwV 1 C.1.2.2.2.2 gX7_debt_X3_isLoan rfl rfl rfl nd_X3_isLoan ⟨Nat.le_of_ble_eq_true rfl, Nat.le_of_ble_eq_true rfl⟩) 5 rfl rfl rfl rfl (Nat.le_of_ble_eq_true rfl) dX7_debt_95 ⟨Nat.le_of_ble_eq_true rfl, Nat.le_of_ble_eq_true rfl⟩ (fun H locs hA => ?_)
              refine lv_if_eq (tgt := 105) hx hb dX7_debt_98 (by decide) (fun c8 => ?_) (fun c8 => ?_)
              · replace h := (if_pos c8).symm.trans h
                refine lv_iconst (v := 0) hx hb dX7_debt_105 (by decide) ?_
                cases h
              · replace h := (if_neg c8).symm.trans h
                refine lv_iconst (v := 1) hx hb dX7_debt_101 (by decide) ?_
                refine lv_goto (tgt := 106) hx hb dX7_debt_102 (by decide) ?_
                cases h
            · replace h := (if_neg sw3).symm.trans h
              by_cases sw4 : x2 = 4
              · replace h := (if_pos sw4).symm.trans h
                rw [sw4]
                refine lv_tableIn (tgt := 107) hx hb dX7_debt_26 (by decide) (by decide) rfl (by decide) ?_
                refine lv_aload_n hx hb dX7_debt_107 rfl (lv_at hl 0 rfl) ?_
                refine Xg_X7_debts C hA iX7_debt_X7 (by decide +kernel) dX7_debt_108 ?_
                refine Xg_X3_due C hA iX7_debt_X3 (by decide +kernel) dX7_debt_111 ?_
                refine lv_iload_n hx hb dX7_debt_114 rfl (lv_at hl 1 rfl) ?_
                obtain ⟨g9, h⟩ := gd h
                refine Xld_25 (v := (σ.2.1 25 (x1).toNatClampNeg)) C hA rfl g9 dX7_debt_115 ?_
                cases h
              · replace h := (if_neg sw4).symm.trans h
                refine lv_tableOut (tgt := 117) hx hb dX7_debt_26 (sw_out4 sw0 sw1 sw2 sw3 sw4) (by decide) ?_
                obtain rfl := inr_inj0 h
                exact r_throw (j := 0) (rest := []) C hA hl.1 hT rfl (by decide +kernel) C.2.2.2.2.2.1.2.2.2.2.2.2.2.2.2.2.2.2.2.2.2.2.2.2.2.1 (by decide +kernel) (by decide +kernel) xi_X7_debt_0 xn_X7_0 C.2.2.2.2.2.1.2.2.2.2.2.1 xg_X7_0 dX7_debt_117 dX7_debt_120 dX7_debt_121 dX7_debt_123 dX7_debt_126 (Nat.le_of_ble_eq_true rfl) (Nat.le_of_ble_eq_true rfl) (Nat.le_of_ble_eq_true rfl) (Nat.le_of_ble_eq_true rfl)
    · replace h := (if_neg c2).symm.trans h
      exact v_X7_debt_15 C hT h hA (lv_sub hl [] rfl)
end
set_option maxRecDepth 100000 in
theorem k_X7_debt {l : Launch} {g : Gm} {fu : Nat} {σ : SS} {x1 : Int32} {x2 : Int32} {v0 : Int32} (hlt : l.stackTraces = false) (h : f_X7_debt fu σ x1 x2 = some (.inl v0)) (sz : Nat) : Met l yX7_debt wsX7_debt rmX7_debt (Pw g (wX g σ) [.ref (g.2.1 0), .int x1, .int x2] sz) (Qi g (va_A (wX g σ) sz) (wX g σ) v0) 0 0 (va_A (wX g σ) sz) :=
  ofM (own := RX7) hlt (by decide) rfl rfl (Nat.le_of_ble_eq_true rfl) (fun p e s m below meth c hsz C hA ls hl => w_X7_debt_0 C h hA hl)
set_option maxRecDepth 100000 in
theorem kx_X7_debt {l : Launch} {g : Gm} {fu : Nat} {σ : SS} {x1 : Int32} {x2 : Int32} {j : Nat} (hlt : l.stackTraces = false) (h : f_X7_debt fu σ x1 x2 = some (.inr j)) (sz : Nat) : vx_Met l yX7_debt wsX7_debt rxX7_debt (Pw g (wX g σ) [.ref (g.2.1 0), .int x1, .int x2] sz) (QFi (va_A (wX g σ) sz)) (Xw g (va_A (wX g σ) sz) (wX g σ) j) 1 6 (va_A (wX g σ) sz) :=
  ofX (own := RX7) hlt (by decide) rfl rfl (Nat.le_of_ble_eq_true rfl) (fun p e s m below meth c hsz C hT hA ls hl => v_X7_debt_0 C hT h hA hl)
abbrev rmX7_about : Room := { frames := 1, cells := 0, slots := 0, locals := 24 }
abbrev rxX7_about : Room := { frames := 7, cells := 1, slots := 6, locals := 111 }
theorem iX7_about_X0 : ∀ x ∈ wsX00, x ∈ wsX7_about := by decide +kernel
theorem iX7_about_X7 : ∀ x ∈ wsX70, x ∈ wsX7_about := by decide +kernel
set_option maxRecDepth 20000 in
theorem xi_X7_about_0 : ∀ w ∈ (vx_atS RX7 70 "java/lang/IllegalArgumentException" xNames).filter goodWord, w ∈ wsX7_about := by decide +kernel
theorem nd_X7_about : yX7_about.cls = RX7 ∧ yX7_about.cls ≠ "java/lang/invoke/MethodHandle" ∧ yX7_about.cls ≠ "java/lang/invoke/VarHandle" ∧ (parseMethodDescriptor yX7_about.desc).map (fun d => d.parameters.length) = some 2 := by decide +kernel
def f_X7_about (fu : Nat) (σ : SS) (x1 : Int32) (x2 : Int32) : Option (Int32 ⊕ Nat) :=
  bndX0 (f_X7_checkChief fu σ x1) (fun r1 => (if x2 = 0 then if inB x1 12 then some (.inl (σ.2.1 19 (x1).toNatClampNeg)) else none else (if x2 = 1 then if inB x1 12 then (if (σ.2.1 21 (x1).toNatClampNeg) = 0 then some (.inl (0 : Int32)) else some (.inl (1 : Int32))) else none else (if x2 = 2 then bnd1 (f_X0_placeInRank fu σ x1) (fun r6 => some (.inl r6)) else some (.inr 0)))))
section
variable {p : Program} {l : Launch} {e : Env} {s : State} {m : MethodId} {args : Array Value} {below : List Frame} {meth : Method} {c : Code} {g : Gm} {A : Nat → Prop} {fu : Nat} {v0 : Int32} {τ : SS} {j : Nat}
set_option maxHeartbeats 4000000 in
set_option maxRecDepth 100000 in
theorem w_X7_about_0 {σ : SS} {x1 : Int32} {x2 : Int32} (C : Cx p l s m args meth c cX7_about 3 wsX7_about (some .int) RX7 g A) (h : f_X7_about fu σ x1 x2 = some (.inl v0)) {H : Heap} {locs : List Loc} {ls : Array Slot} (hA : Aw g A s.heap (wX g σ) H locs) (hl : lv_has ls 3 [(0, .ref (g.2.1 0)), (1, .int x1), (2, .int x2)]) : W p l e rmX7_about s m args below meth c H locs 0 0 (MQ below (Qi g A (wX g σ) v0) args s 0 0 A) (F0 m 0 ls []) := by
  have hx := C.1.1
  have hb := C.1.2.1
  unfold f_X7_about at h
  refine lv_aload_n hx hb dX7_about_0 rfl (lv_at hl 0 rfl) ?_
  refine lv_iload_n hx hb dX7_about_1 rfl (lv_at hl 1 rfl) ?_
  obtain ⟨r1, hc2, h⟩ := bdX0 h
  refine r_callVv (r := ()) (w1 := wX g σ) (As := [.int x1]) (rest := []) C hA hl.1 (k_X7_checkChief C.2.2.2.2.2.2 hc2) (cwV 1 C.1.2.2.2.2 gX7_about_X7_checkChief rfl rfl rfl nd_X7_checkChief ⟨Nat.le_of_ble_eq_true rfl, Nat.le_of_ble_eq_true rfl⟩) 0 rfl rfl rfl rfl (Nat.le_of_ble_eq_true rfl) dX7_about_2 ⟨Nat.le_of_ble_eq_true rfl, Nat.le_of_ble_eq_true rfl⟩ (fun H locs hA => ?_)
  refine lv_iload_n hx hb dX7_about_5 rfl (lv_at hl 2 rfl) ?_
  by_cases sw0 : x2 = 0
  · replace h := (if_pos sw0).symm.trans h
    rw [sw0]
    refine lv_tableIn (tgt := 32) hx hb dX7_about_6 (by decide) (by decide) rfl (by decide) ?_
    refine lv_aload_n hx hb dX7_about_32 rfl (lv_at hl 0 rfl) ?_
    refine Xg_X7_chiefs C hA iX7_about_X7 (by decide +kernel) dX7_about_33 ?_
    refine Xg_X0_blankets C hA iX7_about_X0 (by decide +kernel) dX7_about_36 ?_
    refine lv_iload_n hx hb dX7_about_39 rfl (lv_at hl 1 rfl) ?_
    obtain ⟨g3, h⟩ := gd h
    refine Xld_19 (v := (σ.2.1 19 (x1).toNatClampNeg)) C hA rfl g3 dX7_about_40 ?_
    obtain rfl := inl_inj0 h
    exact r_iret C hA dX7_about_41
  · replace h := (if_neg sw0).symm.trans h
    by_cases sw1 : x2 = 1
    · replace h := (if_pos sw1).symm.trans h
      rw [sw1]
      refine lv_tableIn (tgt := 42) hx hb dX7_about_6 (by decide) (by decide) rfl (by decide) ?_
      refine lv_aload_n hx hb dX7_about_42 rfl (lv_at hl 0 rfl) ?_
      refine Xg_X7_chiefs C hA iX7_about_X7 (by decide +kernel) dX7_about_43 ?_
      refine Xg_X0_lives C hA iX7_about_X0 (by decide +kernel) dX7_about_46 ?_
      refine lv_iload_n hx hb dX7_about_49 rfl (lv_at hl 1 rfl) ?_
      obtain ⟨g4, h⟩ := gd h
      refine Xld_21 (v := (σ.2.1 21 (x1).toNatClampNeg)) C hA rfl g4 dX7_about_50 ?_
      refine lv_if_eq (tgt := 58) hx hb dX7_about_51 (by decide) (fun c5 => ?_) (fun c5 => ?_)
      · replace h := (if_pos c5).symm.trans h
        refine lv_iconst (v := 0) hx hb dX7_about_58 (by decide) ?_
        obtain rfl := inl_inj0 h
        exact r_iret C hA dX7_about_59
      · replace h := (if_neg c5).symm.trans h
        refine lv_iconst (v := 1) hx hb dX7_about_54 (by decide) ?_
        refine lv_goto (tgt := 59) hx hb dX7_about_55 (by decide) ?_
        obtain rfl := inl_inj0 h
        exact r_iret C hA dX7_about_59
    · replace h := (if_neg sw1).symm.trans h
      by_cases sw2 : x2 = 2
      · replace h := (if_pos sw2).symm.trans h
        rw [sw2]
        refine lv_tableIn (tgt := 60) hx hb dX7_about_6 (by decide) (by decide) rfl (by decide) ?_
        refine lv_aload_n hx hb dX7_about_60 rfl (lv_at hl 0 rfl) ?_
        refine Xg_X7_chiefs C hA iX7_about_X7 (by decide +kernel) dX7_about_61 ?_
        refine lv_iload_n hx hb dX7_about_64 rfl (lv_at hl 1 rfl) ?_
        obtain ⟨r6, hc7, h⟩ := bd1 h
        refine r_callVi (r := r6) (w1 := wX g σ) (As := [.int x1]) (rest := []) C hA hl.1 (k_X0_placeInRank C.2.2.2.2.2.2 hc7) (cwV 1 C.1.2.2.2.2 gX7_about_X0_placeInRank rfl rfl rfl nd_X0_placeInRank ⟨Nat.le_of_ble_eq_true rfl, Nat.le_of_ble_eq_true rfl⟩) 4 rfl rfl rfl rfl (Nat.le_of_ble_eq_true rfl) dX7_about_65 ⟨Nat.le_of_ble_eq_true rfl, Nat.le_of_ble_eq_true rfl⟩ (fun H locs hA => ?_)
        obtain rfl := inl_inj0 h
        exact r_iret C hA dX7_about_68
      · replace h := (if_neg sw2).symm.trans h
        refine lv_tableOut (tgt := 69) hx hb dX7_about_6 (sw_out2 sw0 sw1 sw2) (by decide) ?_
        cases h
set_option maxHeartbeats 4000000 in
set_option maxRecDepth 100000 in
theorem v_X7_about_0 {σ : SS} {x1 : Int32} {x2 : Int32} (C : Cx p l s m args meth c cX7_about 3 wsX7_about (some .int) RX7 g A) (hT : ∀ x ∈ c.exceptionTable.toList, False) (h : f_X7_about fu σ x1 x2 = some (.inr j)) {H : Heap} {locs : List Loc} {ls : Array Slot} (hA : Aw g A s.heap (wX g σ) H locs) (hl : lv_has ls 3 [(0, .ref (g.2.1 0)), (1, .int x1), (2, .int x2)]) : W p l e rxX7_about s m args below meth c H locs 0 0 (vx_MQ below (QFi A) (Xw g A (wX g σ) j) args s 1 6 A) (F0 m 0 ls []) := by
  have hx := C.1.1
  have hb := C.1.2.1
  unfold f_X7_about at h
  refine lv_aload_n hx hb dX7_about_0 rfl (lv_at hl 0 rfl) ?_
  refine lv_iload_n hx hb dX7_about_1 rfl (lv_at hl 1 rfl) ?_
  rcases bdX0t h with ⟨r1, hc2, h⟩ | hc2
  rotate_left
  · exact r_xVv (w1 := wX g σ) (As := [.int x1]) (rest := []) C hA hl.1 hT (kx_X7_checkChief C.2.2.2.2.2.2 hc2) (cwV 1 C.1.2.2.2.2 gX7_about_X7_checkChief rfl rfl rfl nd_X7_checkChief ⟨Nat.le_of_ble_eq_true rfl, Nat.le_of_ble_eq_true rfl⟩) 0 rfl rfl rfl rfl (Nat.le_of_ble_eq_true rfl) dX7_about_2 ⟨Nat.le_of_ble_eq_true rfl, Nat.le_of_ble_eq_true rfl⟩
  refine r_callVv (r := ()) (w1 := wX g σ) (As := [.int x1]) (rest := []) C hA hl.1 (k_X7_checkChief C.2.2.2.2.2.2 hc2) (cwV 1 C.1.2.2.2.2 gX7_about_X7_checkChief rfl rfl rfl nd_X7_checkChief ⟨Nat.le_of_ble_eq_true rfl, Nat.le_of_ble_eq_true rfl⟩) 0 rfl rfl rfl rfl (Nat.le_of_ble_eq_true rfl) dX7_about_2 ⟨Nat.le_of_ble_eq_true rfl, Nat.le_of_ble_eq_true rfl⟩ (fun H locs hA => ?_)
  refine lv_iload_n hx hb dX7_about_5 rfl (lv_at hl 2 rfl) ?_
  by_cases sw0 : x2 = 0
  · replace h := (if_pos sw0).symm.trans h
    rw [sw0]
    refine lv_tableIn (tgt := 32) hx hb dX7_about_6 (by decide) (by decide) rfl (by decide) ?_
    refine lv_aload_n hx hb dX7_about_32 rfl (lv_at hl 0 rfl) ?_
    refine Xg_X7_chiefs C hA iX7_about_X7 (by decide +kernel) dX7_about_33 ?_
    refine Xg_X0_blankets C hA iX7_about_X0 (by decide +kernel) dX7_about_36 ?_
    refine lv_iload_n hx hb dX7_about_39 rfl (lv_at hl 1 rfl) ?_
    obtain ⟨g3, h⟩ := gd h
    refine Xld_19 (v := (σ.2.1 19 (x1).toNatClampNeg)) C hA rfl g3 dX7_about_40 ?_
    cases h
  · replace h := (if_neg sw0).symm.trans h
    by_cases sw1 : x2 = 1
    · replace h := (if_pos sw1).symm.trans h
      rw [sw1]
      refine lv_tableIn (tgt := 42) hx hb dX7_about_6 (by decide) (by decide) rfl (by decide) ?_
      refine lv_aload_n hx hb dX7_about_42 rfl (lv_at hl 0 rfl) ?_
      refine Xg_X7_chiefs C hA iX7_about_X7 (by decide +kernel) dX7_about_43 ?_
      refine Xg_X0_lives C hA iX7_about_X0 (by decide +kernel) dX7_about_46 ?_
      refine lv_iload_n hx hb dX7_about_49 rfl (lv_at hl 1 rfl) ?_
      obtain ⟨g4, h⟩ := gd h
      refine Xld_21 (v := (σ.2.1 21 (x1).toNatClampNeg)) C hA rfl g4 dX7_about_50 ?_
      refine lv_if_eq (tgt := 58) hx hb dX7_about_51 (by decide) (fun c5 => ?_) (fun c5 => ?_)
      · replace h := (if_pos c5).symm.trans h
        refine lv_iconst (v := 0) hx hb dX7_about_58 (by decide) ?_
        cases h
      · replace h := (if_neg c5).symm.trans h
        refine lv_iconst (v := 1) hx hb dX7_about_54 (by decide) ?_
        refine lv_goto (tgt := 59) hx hb dX7_about_55 (by decide) ?_
        cases h
    · replace h := (if_neg sw1).symm.trans h
      by_cases sw2 : x2 = 2
      · replace h := (if_pos sw2).symm.trans h
        rw [sw2]
        refine lv_tableIn (tgt := 60) hx hb dX7_about_6 (by decide) (by decide) rfl (by decide) ?_
        refine lv_aload_n hx hb dX7_about_60 rfl (lv_at hl 0 rfl) ?_
        refine Xg_X7_chiefs C hA iX7_about_X7 (by decide +kernel) dX7_about_61 ?_
        refine lv_iload_n hx hb dX7_about_64 rfl (lv_at hl 1 rfl) ?_
        obtain ⟨r6, hc7, h⟩ := bd1 h
        refine r_callVi (r := r6) (w1 := wX g σ) (As := [.int x1]) (rest := []) C hA hl.1 (k_X0_placeInRank C.2.2.2.2.2.2 hc7) (cwV 1 C.1.2.2.2.2 gX7_about_X0_placeInRank rfl rfl rfl nd_X0_placeInRank ⟨Nat.le_of_ble_eq_true rfl, Nat.le_of_ble_eq_true rfl⟩) 4 rfl rfl rfl rfl (Nat.le_of_ble_eq_true rfl) dX7_about_65 ⟨Nat.le_of_ble_eq_true rfl, Nat.le_of_ble_eq_true rfl⟩ (fun H locs hA => ?_)
        cases h
      · replace h := (if_neg sw2).symm.trans h
        refine lv_tableOut (tgt := 69) hx hb dX7_about_6 (sw_out2 sw0 sw1 sw2) (by decide) ?_
        obtain rfl := inr_inj0 h
        exact r_throw (j := 0) (rest := []) C hA hl.1 hT rfl (by decide +kernel) C.2.2.2.2.2.1.2.2.2.2.2.2.2.2.2.2.2.2.2.2.2.2.2.2.2.2.1 (by decide +kernel) (by decide +kernel) xi_X7_about_0 xn_X7_0 C.2.2.2.2.2.1.2.2.2.2.2.1 xg_X7_0 dX7_about_69 dX7_about_72 dX7_about_73 dX7_about_75 dX7_about_78 (Nat.le_of_ble_eq_true rfl) (Nat.le_of_ble_eq_true rfl) (Nat.le_of_ble_eq_true rfl) (Nat.le_of_ble_eq_true rfl)
end
set_option maxRecDepth 100000 in
theorem k_X7_about {l : Launch} {g : Gm} {fu : Nat} {σ : SS} {x1 : Int32} {x2 : Int32} {v0 : Int32} (hlt : l.stackTraces = false) (h : f_X7_about fu σ x1 x2 = some (.inl v0)) (sz : Nat) : Met l yX7_about wsX7_about rmX7_about (Pw g (wX g σ) [.ref (g.2.1 0), .int x1, .int x2] sz) (Qi g (va_A (wX g σ) sz) (wX g σ) v0) 0 0 (va_A (wX g σ) sz) :=
  ofM (own := RX7) hlt (by decide) rfl rfl (Nat.le_of_ble_eq_true rfl) (fun p e s m below meth c hsz C hA ls hl => w_X7_about_0 C h hA hl)
set_option maxRecDepth 100000 in
theorem kx_X7_about {l : Launch} {g : Gm} {fu : Nat} {σ : SS} {x1 : Int32} {x2 : Int32} {j : Nat} (hlt : l.stackTraces = false) (h : f_X7_about fu σ x1 x2 = some (.inr j)) (sz : Nat) : vx_Met l yX7_about wsX7_about rxX7_about (Pw g (wX g σ) [.ref (g.2.1 0), .int x1, .int x2] sz) (QFi (va_A (wX g σ) sz)) (Xw g (va_A (wX g σ) sz) (wX g σ) j) 1 6 (va_A (wX g σ) sz) :=
  ofX (own := RX7) hlt (by decide) rfl rfl (Nat.le_of_ble_eq_true rfl) (fun p e s m below meth c hsz C hT hA ls hl => v_X7_about_0 C hT h hA hl)
abbrev rmX7_fame : Room := { frames := 1, cells := 0, slots := 0, locals := 21 }
abbrev rxX7_fame : Room := { frames := 7, cells := 1, slots := 6, locals := 111 }
theorem iX7_fame_X0 : ∀ x ∈ wsX00, x ∈ wsX7_fame := by decide +kernel
theorem iX7_fame_X7 : ∀ x ∈ wsX70, x ∈ wsX7_fame := by decide +kernel
theorem nd_X7_fame : yX7_fame.cls = RX7 ∧ yX7_fame.cls ≠ "java/lang/invoke/MethodHandle" ∧ yX7_fame.cls ≠ "java/lang/invoke/VarHandle" ∧ (parseMethodDescriptor yX7_fame.desc).map (fun d => d.parameters.length) = some 1 := by decide +kernel
def f_X7_fame (fu : Nat) (σ : SS) (x1 : Int32) : Option (Int64 ⊕ Nat) :=
  bndX0 (f_X7_checkChief fu σ x1) (fun r1 => if inB x1 12 then some (.inl (σ.2.2 20 (x1).toNatClampNeg)) else none)
section
variable {p : Program} {l : Launch} {e : Env} {s : State} {m : MethodId} {args : Array Value} {below : List Frame} {meth : Method} {c : Code} {g : Gm} {A : Nat → Prop} {fu : Nat} {v0 : Int64} {τ : SS} {j : Nat}
set_option maxHeartbeats 4000000 in
set_option maxRecDepth 100000 in
theorem w_X7_fame_0 {σ : SS} {x1 : Int32} (C : Cx p l s m args meth c cX7_fame 2 wsX7_fame (some .long) RX7 g A) (h : f_X7_fame fu σ x1 = some (.inl v0)) {H : Heap} {locs : List Loc} {ls : Array Slot} (hA : Aw g A s.heap (wX g σ) H locs) (hl : lv_has ls 2 [(0, .ref (g.2.1 0)), (1, .int x1)]) : W p l e rmX7_fame s m args below meth c H locs 0 0 (MQ below (Ql g A (wX g σ) v0) args s 0 0 A) (F0 m 0 ls []) := by
  have hx := C.1.1
  have hb := C.1.2.1
  unfold f_X7_fame at h
  refine lv_aload_n hx hb dX7_fame_0 rfl (lv_at hl 0 rfl) ?_
  refine lv_iload_n hx hb dX7_fame_1 rfl (lv_at hl 1 rfl) ?_
  obtain ⟨r1, hc2, h⟩ := bdX0 h
  refine r_callVv (r := ()) (w1 := wX g σ) (As := [.int x1]) (rest := []) C hA hl.1 (k_X7_checkChief C.2.2.2.2.2.2 hc2) (cwV 1 C.1.2.2.2.2 gX7_fame_X7_checkChief rfl rfl rfl nd_X7_checkChief ⟨Nat.le_of_ble_eq_true rfl, Nat.le_of_ble_eq_true rfl⟩) 0 rfl rfl rfl rfl (Nat.le_of_ble_eq_true rfl) dX7_fame_2 ⟨Nat.le_of_ble_eq_true rfl, Nat.le_of_ble_eq_true rfl⟩ (fun H locs hA => ?_)
  refine lv_aload_n hx hb dX7_fame_5 rfl (lv_at hl 0 rfl) ?_
  refine Xg_X7_chiefs C hA iX7_fame_X7 (by decide +kernel) dX7_fame_6 ?_
  refine Xg_X0_fame C hA iX7_fame_X0 (by decide +kernel) dX7_fame_9 ?_
  refine lv_iload_n hx hb dX7_fame_12 rfl (lv_at hl 1 rfl) ?_
  obtain ⟨g3, h⟩ := gd h
  refine Xld_20 (v := (σ.2.2 20 (x1).toNatClampNeg)) C hA rfl g3 dX7_fame_13 ?_
  obtain rfl := inl_inj0 h
  exact r_lret C hA dX7_fame_14
set_option maxHeartbeats 4000000 in
set_option maxRecDepth 100000 in
theorem v_X7_fame_0 {σ : SS} {x1 : Int32} (C : Cx p l s m args meth c cX7_fame 2 wsX7_fame (some .long) RX7 g A) (hT : ∀ x ∈ c.exceptionTable.toList, False) (h : f_X7_fame fu σ x1 = some (.inr j)) {H : Heap} {locs : List Loc} {ls : Array Slot} (hA : Aw g A s.heap (wX g σ) H locs) (hl : lv_has ls 2 [(0, .ref (g.2.1 0)), (1, .int x1)]) : W p l e rxX7_fame s m args below meth c H locs 0 0 (vx_MQ below (QFl A) (Xw g A (wX g σ) j) args s 1 6 A) (F0 m 0 ls []) := by
  have hx := C.1.1
  have hb := C.1.2.1
  unfold f_X7_fame at h
  refine lv_aload_n hx hb dX7_fame_0 rfl (lv_at hl 0 rfl) ?_
  refine lv_iload_n hx hb dX7_fame_1 rfl (lv_at hl 1 rfl) ?_
  rcases bdX0t h with ⟨r1, hc2, h⟩ | hc2
  rotate_left
  · exact r_xVv (w1 := wX g σ) (As := [.int x1]) (rest := []) C hA hl.1 hT (kx_X7_checkChief C.2.2.2.2.2.2 hc2) (cwV 1 C.1.2.2.2.2 gX7_fame_X7_checkChief rfl rfl rfl nd_X7_checkChief ⟨Nat.le_of_ble_eq_true rfl, Nat.le_of_ble_eq_true rfl⟩) 0 rfl rfl rfl rfl (Nat.le_of_ble_eq_true rfl) dX7_fame_2 ⟨Nat.le_of_ble_eq_true rfl, Nat.le_of_ble_eq_true rfl⟩
  refine r_callVv (r := ()) (w1 := wX g σ) (As := [.int x1]) (rest := []) C hA hl.1 (k_X7_checkChief C.2.2.2.2.2.2 hc2) (cwV 1 C.1.2.2.2.2 gX7_fame_X7_checkChief rfl rfl rfl nd_X7_checkChief ⟨Nat.le_of_ble_eq_true rfl, Nat.le_of_ble_eq_true rfl⟩) 0 rfl rfl rfl rfl (Nat.le_of_ble_eq_true rfl) dX7_fame_2 ⟨Nat.le_of_ble_eq_true rfl, Nat.le_of_ble_eq_true rfl⟩ (fun H locs hA => ?_)
  refine lv_aload_n hx hb dX7_fame_5 rfl (lv_at hl 0 rfl) ?_
  refine Xg_X7_chiefs C hA iX7_fame_X7 (by decide +kernel) dX7_fame_6 ?_
  refine Xg_X0_fame C hA iX7_fame_X0 (by decide +kernel) dX7_fame_9 ?_
  refine lv_iload_n hx hb dX7_fame_12 rfl (lv_at hl 1 rfl) ?_
  obtain ⟨g3, h⟩ := gd h
  refine Xld_20 (v := (σ.2.2 20 (x1).toNatClampNeg)) C hA rfl g3 dX7_fame_13 ?_
  cases h
end
set_option maxRecDepth 100000 in
theorem k_X7_fame {l : Launch} {g : Gm} {fu : Nat} {σ : SS} {x1 : Int32} {v0 : Int64} (hlt : l.stackTraces = false) (h : f_X7_fame fu σ x1 = some (.inl v0)) (sz : Nat) : Met l yX7_fame wsX7_fame rmX7_fame (Pw g (wX g σ) [.ref (g.2.1 0), .int x1] sz) (Ql g (va_A (wX g σ) sz) (wX g σ) v0) 0 0 (va_A (wX g σ) sz) :=
  ofM (own := RX7) hlt (by decide) rfl rfl (Nat.le_of_ble_eq_true rfl) (fun p e s m below meth c hsz C hA ls hl => w_X7_fame_0 C h hA hl)
set_option maxRecDepth 100000 in
theorem kx_X7_fame {l : Launch} {g : Gm} {fu : Nat} {σ : SS} {x1 : Int32} {j : Nat} (hlt : l.stackTraces = false) (h : f_X7_fame fu σ x1 = some (.inr j)) (sz : Nat) : vx_Met l yX7_fame wsX7_fame rxX7_fame (Pw g (wX g σ) [.ref (g.2.1 0), .int x1] sz) (QFl (va_A (wX g σ) sz)) (Xw g (va_A (wX g σ) sz) (wX g σ) j) 1 6 (va_A (wX g σ) sz) :=
  ofX (own := RX7) hlt (by decide) rfl rfl (Nat.le_of_ble_eq_true rfl) (fun p e s m below meth c hsz C hT hA ls hl => v_X7_fame_0 C hT h hA hl)
abbrev rmX7_gather : Room := { frames := 3, cells := 0, slots := 0, locals := 81 }
abbrev rxX7_gather : Room := { frames := 7, cells := 1, slots := 6, locals := 111 }
theorem iX7_gather_X0 : ∀ x ∈ wsX00, x ∈ wsX7_gather := by decide +kernel
theorem iX7_gather_X7 : ∀ x ∈ wsX70, x ∈ wsX7_gather := by decide +kernel
theorem nd_X7_gather : yX7_gather.cls = RX7 ∧ yX7_gather.cls ≠ "java/lang/invoke/MethodHandle" ∧ yX7_gather.cls ≠ "java/lang/invoke/VarHandle" ∧ (parseMethodDescriptor yX7_gather.desc).map (fun d => d.parameters.length) = some 2 := by decide +kernel
def f_X7_gather (fu : Nat) (σ : SS) (x1 : Int32) (x2 : Int32) : Option ((Int64 ⊕ Nat) × SS) :=
  bndX (f_X7_checkChief fu σ x1) σ (fun r1 => if inB x1 12 then (if (σ.2.1 21 (x1).toNatClampNeg) = 0 then some (.inl (-1 : Int64), σ) else bnd (f_X4_callIn fu σ x2) (fun r5 t7 => bnd (f_X4_most fu t7 x1) (fun r8 t10 => some (.inl r8, t10)))) else none)
section
variable {p : Program} {l : Launch} {e : Env} {s : State} {m : MethodId} {args : Array Value} {below : List Frame} {meth : Method} {c : Code} {g : Gm} {A : Nat → Prop} {fu : Nat} {v0 : Int64} {τ : SS} {j : Nat}
set_option maxHeartbeats 4000000 in
set_option maxRecDepth 100000 in
theorem w_X7_gather_0 {σ : SS} {x1 : Int32} {x2 : Int32} (C : Cx p l s m args meth c cX7_gather 3 wsX7_gather (some .long) RX7 g A) (h : f_X7_gather fu σ x1 x2 = some (.inl v0, τ)) {H : Heap} {locs : List Loc} {ls : Array Slot} (hA : Aw g A s.heap (wX g σ) H locs) (hl : lv_has ls 3 [(0, .ref (g.2.1 0)), (1, .int x1), (2, .int x2)]) : W p l e rmX7_gather s m args below meth c H locs 0 0 (MQ below (Ql g A (wX g τ) v0) args s 0 0 A) (F0 m 0 ls []) := by
  have hx := C.1.1
  have hb := C.1.2.1
  unfold f_X7_gather at h
  refine lv_aload_n hx hb dX7_gather_0 rfl (lv_at hl 0 rfl) ?_
  refine lv_iload_n hx hb dX7_gather_1 rfl (lv_at hl 1 rfl) ?_
  obtain ⟨r1, hc2, h⟩ := bdX h
  refine r_callVv (r := ()) (w1 := wX g σ) (As := [.int x1]) (rest := []) C hA hl.1 (k_X7_checkChief C.2.2.2.2.2.2 hc2) (cwV 1 C.1.2.2.2.2 gX7_gather_X7_checkChief rfl rfl rfl nd_X7_checkChief ⟨Nat.le_of_ble_eq_true rfl, Nat.le_of_ble_eq_true rfl⟩) 0 rfl rfl rfl rfl (Nat.le_of_ble_eq_true rfl) dX7_gather_2 ⟨Nat.le_of_ble_eq_true rfl, Nat.le_of_ble_eq_true rfl⟩ (fun H locs hA => ?_)
  refine lv_aload_n hx hb dX7_gather_5 rfl (lv_at hl 0 rfl) ?_
  refine Xg_X7_chiefs C hA iX7_gather_X7 (by decide +kernel) dX7_gather_6 ?_
  refine Xg_X0_lives C hA iX7_gather_X0 (by decide +kernel) dX7_gather_9 ?_
  refine lv_iload_n hx hb dX7_gather_12 rfl (lv_at hl 1 rfl) ?_
  obtain ⟨g3, h⟩ := gd h
  refine Xld_21 (v := (σ.2.1 21 (x1).toNatClampNeg)) C hA rfl g3 dX7_gather_13 ?_
  refine lv_if_ne (tgt := 21) hx hb dX7_gather_14 (by decide) (fun c4 => ?_) (fun c4 => ?_)
  · replace h := (if_neg c4).symm.trans h
    refine lv_aload_n hx hb dX7_gather_21 rfl (lv_at hl 0 rfl) ?_
    refine Xg_X7_gathering C hA iX7_gather_X7 (by decide +kernel) dX7_gather_22 ?_
    refine lv_aload_n hx hb dX7_gather_25 rfl (lv_at hl 0 rfl) ?_
    refine Xg_X7_chiefs C hA iX7_gather_X7 (by decide +kernel) dX7_gather_26 ?_
    refine lv_aload_n hx hb dX7_gather_29 rfl (lv_at hl 0 rfl) ?_
    refine Xg_X7_debts C hA iX7_gather_X7 (by decide +kernel) dX7_gather_30 ?_
    refine lv_iload_n hx hb dX7_gather_33 rfl (lv_at hl 2 rfl) ?_
    obtain ⟨r5, t7, hc6, h⟩ := bd h
    refine r_callVv (r := r5) (w1 := wX g t7) (As := [.ref (g.2.1 4), .ref (g.2.1 5), .int x2]) (rest := []) C hA hl.1 (k_X4_callIn C.2.2.2.2.2.2 hc6) (cwV 3 C.1.2.2.2.2 gX7_gather_X4_callIn rfl rfl rfl nd_X4_callIn ⟨Nat.le_of_ble_eq_true rfl, Nat.le_of_ble_eq_true rfl⟩) 7 rfl rfl rfl rfl (Nat.le_of_ble_eq_true rfl) dX7_gather_34 ⟨Nat.le_of_ble_eq_true rfl, Nat.le_of_ble_eq_true rfl⟩ (fun H locs hA => ?_)
    refine lv_aload_n hx hb dX7_gather_37 rfl (lv_at hl 0 rfl) ?_
    refine Xg_X7_gathering C hA iX7_gather_X7 (by decide +kernel) dX7_gather_38 ?_
    refine lv_iload_n hx hb dX7_gather_41 rfl (lv_at hl 1 rfl) ?_
    obtain ⟨r8, t10, hc9, h⟩ := bd h
    refine r_callVl (r := r8) (w1 := wX g t10) (As := [.int x1]) (rest := []) C hA hl.1 (k_X4_most C.2.2.2.2.2.2 hc9) (cwV 1 C.1.2.2.2.2 gX7_gather_X4_most rfl rfl rfl nd_X4_most ⟨Nat.le_of_ble_eq_true rfl, Nat.le_of_ble_eq_true rfl⟩) 7 rfl rfl rfl rfl (Nat.le_of_ble_eq_true rfl) dX7_gather_42 ⟨Nat.le_of_ble_eq_true rfl, Nat.le_of_ble_eq_true rfl⟩ (fun H locs hA => ?_)
    obtain ⟨rfl, rfl⟩ := inl_inj h
    exact r_lret C hA dX7_gather_45
  · replace h := (if_pos c4).symm.trans h
    refine lv_ldc2 (v := (-1)) hx hb C.1.2.2.2.1 (C.1.2.2.2.2 (.constantLong RX7 242 (-1)) (by decide +kernel)) dX7_gather_17 ?_
    obtain ⟨rfl, rfl⟩ := inl_inj h
    exact r_lret C hA dX7_gather_20
set_option maxHeartbeats 4000000 in
set_option maxRecDepth 100000 in
theorem v_X7_gather_0 {σ : SS} {x1 : Int32} {x2 : Int32} (C : Cx p l s m args meth c cX7_gather 3 wsX7_gather (some .long) RX7 g A) (hT : ∀ x ∈ c.exceptionTable.toList, False) (h : f_X7_gather fu σ x1 x2 = some (.inr j, τ)) {H : Heap} {locs : List Loc} {ls : Array Slot} (hA : Aw g A s.heap (wX g σ) H locs) (hl : lv_has ls 3 [(0, .ref (g.2.1 0)), (1, .int x1), (2, .int x2)]) : W p l e rxX7_gather s m args below meth c H locs 0 0 (vx_MQ below (QFl A) (Xw g A (wX g τ) j) args s 1 6 A) (F0 m 0 ls []) := by
  have hx := C.1.1
  have hb := C.1.2.1
  unfold f_X7_gather at h
  refine lv_aload_n hx hb dX7_gather_0 rfl (lv_at hl 0 rfl) ?_
  refine lv_iload_n hx hb dX7_gather_1 rfl (lv_at hl 1 rfl) ?_
  rcases bdXt h with ⟨r1, hc2, h⟩ | ⟨hc2, rfl⟩
  rotate_left
  · exact r_xVv (w1 := wX g σ) (As := [.int x1]) (rest := []) C hA hl.1 hT (kx_X7_checkChief C.2.2.2.2.2.2 hc2) (cwV 1 C.1.2.2.2.2 gX7_gather_X7_checkChief rfl rfl rfl nd_X7_checkChief ⟨Nat.le_of_ble_eq_true rfl, Nat.le_of_ble_eq_true rfl⟩) 0 rfl rfl rfl rfl (Nat.le_of_ble_eq_true rfl) dX7_gather_2 ⟨Nat.le_of_ble_eq_true rfl, Nat.le_of_ble_eq_true rfl⟩
  refine r_callVv (r := ()) (w1 := wX g σ) (As := [.int x1]) (rest := []) C hA hl.1 (k_X7_checkChief C.2.2.2.2.2.2 hc2) (cwV 1 C.1.2.2.2.2 gX7_gather_X7_checkChief rfl rfl rfl nd_X7_checkChief ⟨Nat.le_of_ble_eq_true rfl, Nat.le_of_ble_eq_true rfl⟩) 0 rfl rfl rfl rfl (Nat.le_of_ble_eq_true rfl) dX7_gather_2 ⟨Nat.le_of_ble_eq_true rfl, Nat.le_of_ble_eq_true rfl⟩ (fun H locs hA => ?_)
  refine lv_aload_n hx hb dX7_gather_5 rfl (lv_at hl 0 rfl) ?_
  refine Xg_X7_chiefs C hA iX7_gather_X7 (by decide +kernel) dX7_gather_6 ?_
  refine Xg_X0_lives C hA iX7_gather_X0 (by decide +kernel) dX7_gather_9 ?_
  refine lv_iload_n hx hb dX7_gather_12 rfl (lv_at hl 1 rfl) ?_
  obtain ⟨g3, h⟩ := gd h
  refine Xld_21 (v := (σ.2.1 21 (x1).toNatClampNeg)) C hA rfl g3 dX7_gather_13 ?_
  refine lv_if_ne (tgt := 21) hx hb dX7_gather_14 (by decide) (fun c4 => ?_) (fun c4 => ?_)
  · replace h := (if_neg c4).symm.trans h
    refine lv_aload_n hx hb dX7_gather_21 rfl (lv_at hl 0 rfl) ?_
    refine Xg_X7_gathering C hA iX7_gather_X7 (by decide +kernel) dX7_gather_22 ?_
    refine lv_aload_n hx hb dX7_gather_25 rfl (lv_at hl 0 rfl) ?_
    refine Xg_X7_chiefs C hA iX7_gather_X7 (by decide +kernel) dX7_gather_26 ?_
    refine lv_aload_n hx hb dX7_gather_29 rfl (lv_at hl 0 rfl) ?_
    refine Xg_X7_debts C hA iX7_gather_X7 (by decide +kernel) dX7_gather_30 ?_
    refine lv_iload_n hx hb dX7_gather_33 rfl (lv_at hl 2 rfl) ?_
    obtain ⟨r5, t7, hc6, h⟩ := bd h
    refine r_callVv (r := r5) (w1 := wX g t7) (As := [.ref (g.2.1 4), .ref (g.2.1 5), .int x2]) (rest := []) C hA hl.1 (k_X4_callIn C.2.2.2.2.2.2 hc6) (cwV 3 C.1.2.2.2.2 gX7_gather_X4_callIn rfl rfl rfl nd_X4_callIn ⟨Nat.le_of_ble_eq_true rfl, Nat.le_of_ble_eq_true rfl⟩) 7 rfl rfl rfl rfl (Nat.le_of_ble_eq_true rfl) dX7_gather_34 ⟨Nat.le_of_ble_eq_true rfl, Nat.le_of_ble_eq_true rfl⟩ (fun H locs hA => ?_)
    refine lv_aload_n hx hb dX7_gather_37 rfl (lv_at hl 0 rfl) ?_
    refine Xg_X7_gathering C hA iX7_gather_X7 (by decide +kernel) dX7_gather_38 ?_
    refine lv_iload_n hx hb dX7_gather_41 rfl (lv_at hl 1 rfl) ?_
    obtain ⟨r8, t10, hc9, h⟩ := bd h
    refine r_callVl (r := r8) (w1 := wX g t10) (As := [.int x1]) (rest := []) C hA hl.1 (k_X4_most C.2.2.2.2.2.2 hc9) (cwV 1 C.1.2.2.2.2 gX7_gather_X4_most rfl rfl rfl nd_X4_most ⟨Nat.le_of_ble_eq_true rfl, Nat.le_of_ble_eq_true rfl⟩) 7 rfl rfl rfl rfl (Nat.le_of_ble_eq_true rfl) dX7_gather_42 ⟨Nat.le_of_ble_eq_true rfl, Nat.le_of_ble_eq_true rfl⟩ (fun H locs hA => ?_)
    cases h
  · replace h := (if_pos c4).symm.trans h
    refine lv_ldc2 (v := (-1)) hx hb C.1.2.2.2.1 (C.1.2.2.2.2 (.constantLong RX7 242 (-1)) (by decide +kernel)) dX7_gather_17 ?_
    cases h
end
set_option maxRecDepth 100000 in
theorem k_X7_gather {l : Launch} {g : Gm} {fu : Nat} {σ : SS} {x1 : Int32} {x2 : Int32} {v0 : Int64} {τ : SS} (hlt : l.stackTraces = false) (h : f_X7_gather fu σ x1 x2 = some (.inl v0, τ)) (sz : Nat) : Met l yX7_gather wsX7_gather rmX7_gather (Pw g (wX g σ) [.ref (g.2.1 0), .int x1, .int x2] sz) (Ql g (va_A (wX g σ) sz) (wX g τ) v0) 0 0 (va_A (wX g σ) sz) :=
  ofM (own := RX7) hlt (by decide) rfl rfl (Nat.le_of_ble_eq_true rfl) (fun p e s m below meth c hsz C hA ls hl => w_X7_gather_0 C h hA hl)
set_option maxRecDepth 100000 in
theorem kx_X7_gather {l : Launch} {g : Gm} {fu : Nat} {σ : SS} {x1 : Int32} {x2 : Int32} {j : Nat} {τ : SS} (hlt : l.stackTraces = false) (h : f_X7_gather fu σ x1 x2 = some (.inr j, τ)) (sz : Nat) : vx_Met l yX7_gather wsX7_gather rxX7_gather (Pw g (wX g σ) [.ref (g.2.1 0), .int x1, .int x2] sz) (QFl (va_A (wX g σ) sz)) (Xw g (va_A (wX g σ) sz) (wX g τ) j) 1 6 (va_A (wX g σ) sz) :=
  ofX (own := RX7) hlt (by decide) rfl rfl (Nat.le_of_ble_eq_true rfl) (fun p e s m below meth c hsz C hT hA ls hl => v_X7_gather_0 C hT h hA hl)
abbrev rmX7_hold : Room := { frames := 3, cells := 0, slots := 0, locals := 81 }
abbrev rxX7_hold : Room := { frames := 7, cells := 1, slots := 6, locals := 111 }
theorem iX7_hold_X0 : ∀ x ∈ wsX00, x ∈ wsX7_hold := by decide +kernel
theorem iX7_hold_X7 : ∀ x ∈ wsX70, x ∈ wsX7_hold := by decide +kernel
theorem nd_X7_hold : yX7_hold.cls = RX7 ∧ yX7_hold.cls ≠ "java/lang/invoke/MethodHandle" ∧ yX7_hold.cls ≠ "java/lang/invoke/VarHandle" ∧ (parseMethodDescriptor yX7_hold.desc).map (fun d => d.parameters.length) = some 2 := by decide +kernel
def f_X7_hold (fu : Nat) (σ : SS) (x1 : Int32) (x2 : Int32) : Option ((Int32 ⊕ Nat) × SS) :=
  bndX (f_X7_checkChief fu σ x1) σ (fun r1 => if inB x1 12 then (if (σ.2.1 21 (x1).toNatClampNeg) = 0 then some (.inl (-1), σ) else bnd (f_X4_callIn fu σ x2) (fun r5 t7 => bnd (f_X4_most fu t7 x1) (fun r8 t10 => bnd1 (f_X4_side fu t10) (fun r11 => some (.inl r11, t10))))) else none)
section
variable {p : Program} {l : Launch} {e : Env} {s : State} {m : MethodId} {args : Array Value} {below : List Frame} {meth : Method} {c : Code} {g : Gm} {A : Nat → Prop} {fu : Nat} {v0 : Int32} {τ : SS} {j : Nat}
set_option maxHeartbeats 4000000 in
set_option maxRecDepth 100000 in
theorem w_X7_hold_0 {σ : SS} {x1 : Int32} {x2 : Int32} (C : Cx p l s m args meth c cX7_hold 3 wsX7_hold (some .int) RX7 g A) (h : f_X7_hold fu σ x1 x2 = some (.inl v0, τ)) {H : Heap} {locs : List Loc} {ls : Array Slot} (hA : Aw g A s.heap (wX g σ) H locs) (hl : lv_has ls 3 [(0, .ref (g.2.1 0)), (1, .int x1), (2, .int x2)]) : W p l e rmX7_hold s m args below meth c H locs 0 0 (MQ below (Qi g A (wX g τ) v0) args s 0 0 A) (F0 m 0 ls []) := by
  have hx := C.1.1
  have hb := C.1.2.1
  unfold f_X7_hold at h
  refine lv_aload_n hx hb dX7_hold_0 rfl (lv_at hl 0 rfl) ?_
  refine lv_iload_n hx hb dX7_hold_1 rfl (lv_at hl 1 rfl) ?_
  obtain ⟨r1, hc2, h⟩ := bdX h
  refine r_callVv (r := ()) (w1 := wX g σ) (As := [.int x1]) (rest := []) C hA hl.1 (k_X7_checkChief C.2.2.2.2.2.2 hc2) (cwV 1 C.1.2.2.2.2 gX7_hold_X7_checkChief rfl rfl rfl nd_X7_checkChief ⟨Nat.le_of_ble_eq_true rfl, Nat.le_of_ble_eq_true rfl⟩) 0 rfl rfl rfl rfl (Nat.le_of_ble_eq_true rfl) dX7_hold_2 ⟨Nat.le_of_ble_eq_true rfl, Nat.le_of_ble_eq_true rfl⟩ (fun H locs hA => ?_)
  refine lv_aload_n hx hb dX7_hold_5 rfl (lv_at hl 0 rfl) ?_
  refine Xg_X7_chiefs C hA iX7_hold_X7 (by decide +kernel) dX7_hold_6 ?_
  refine Xg_X0_lives C hA iX7_hold_X0 (by decide +kernel) dX7_hold_9 ?_
  refine lv_iload_n hx hb dX7_hold_12 rfl (lv_at hl 1 rfl) ?_
  obtain ⟨g3, h⟩ := gd h
  refine Xld_21 (v := (σ.2.1 21 (x1).toNatClampNeg)) C hA rfl g3 dX7_hold_13 ?_
  refine lv_if_ne (tgt := 19) hx hb dX7_hold_14 (by decide) (fun c4 => ?_) (fun c4 => ?_)
  · replace h := (if_neg c4).symm.trans h
    refine lv_aload_n hx hb dX7_hold_19 rfl (lv_at hl 0 rfl) ?_
    refine Xg_X7_gathering C hA iX7_hold_X7 (by decide +kernel) dX7_hold_20 ?_
    refine lv_aload_n hx hb dX7_hold_23 rfl (lv_at hl 0 rfl) ?_
    refine Xg_X7_chiefs C hA iX7_hold_X7 (by decide +kernel) dX7_hold_24 ?_
    refine lv_aload_n hx hb dX7_hold_27 rfl (lv_at hl 0 rfl) ?_
    refine Xg_X7_debts C hA iX7_hold_X7 (by decide +kernel) dX7_hold_28 ?_
    refine lv_iload_n hx hb dX7_hold_31 rfl (lv_at hl 2 rfl) ?_
    obtain ⟨r5, t7, hc6, h⟩ := bd h
    refine r_callVv (r := r5) (w1 := wX g t7) (As := [.ref (g.2.1 4), .ref (g.2.1 5), .int x2]) (rest := []) C hA hl.1 (k_X4_callIn C.2.2.2.2.2.2 hc6) (cwV 3 C.1.2.2.2.2 gX7_hold_X4_callIn rfl rfl rfl nd_X4_callIn ⟨Nat.le_of_ble_eq_true rfl, Nat.le_of_ble_eq_true rfl⟩) 7 rfl rfl rfl rfl (Nat.le_of_ble_eq_true rfl) dX7_hold_32 ⟨Nat.le_of_ble_eq_true rfl, Nat.le_of_ble_eq_true rfl⟩ (fun H locs hA => ?_)
    refine lv_aload_n hx hb dX7_hold_35 rfl (lv_at hl 0 rfl) ?_
    refine Xg_X7_gathering C hA iX7_hold_X7 (by decide +kernel) dX7_hold_36 ?_
    refine lv_iload_n hx hb dX7_hold_39 rfl (lv_at hl 1 rfl) ?_
    obtain ⟨r8, t10, hc9, h⟩ := bd h
    refine r_callVl (r := r8) (w1 := wX g t10) (As := [.int x1]) (rest := []) C hA hl.1 (k_X4_most C.2.2.2.2.2.2 hc9) (cwV 1 C.1.2.2.2.2 gX7_hold_X4_most rfl rfl rfl nd_X4_most ⟨Nat.le_of_ble_eq_true rfl, Nat.le_of_ble_eq_true rfl⟩) 7 rfl rfl rfl rfl (Nat.le_of_ble_eq_true rfl) dX7_hold_40 ⟨Nat.le_of_ble_eq_true rfl, Nat.le_of_ble_eq_true rfl⟩ (fun H locs hA => ?_)
    refine lv_pop2_2 hx hb dX7_hold_43 rfl ?_
    refine lv_aload_n hx hb dX7_hold_44 rfl (lv_at hl 0 rfl) ?_
    refine Xg_X7_gathering C hA iX7_hold_X7 (by decide +kernel) dX7_hold_45 ?_
    obtain ⟨r11, hc12, h⟩ := bd1 h
    refine r_callVi (r := r11) (w1 := wX g t10) (As := []) (rest := []) C hA hl.1 (k_X4_side C.2.2.2.2.2.2 hc12) (cwV 0 C.1.2.2.2.2 gX7_hold_X4_side rfl rfl rfl nd_X4_side ⟨Nat.le_of_ble_eq_true rfl, Nat.le_of_ble_eq_true rfl⟩) 7 rfl rfl rfl rfl (Nat.le_of_ble_eq_true rfl) dX7_hold_48 ⟨Nat.le_of_ble_eq_true rfl, Nat.le_of_ble_eq_true rfl⟩ (fun H locs hA => ?_)
    obtain ⟨rfl, rfl⟩ := inl_inj h
    exact r_iret C hA dX7_hold_51
  · replace h := (if_pos c4).symm.trans h
    refine lv_iconst (v := (-1)) hx hb dX7_hold_17 (by decide) ?_
    obtain ⟨rfl, rfl⟩ := inl_inj h
    exact r_iret C hA dX7_hold_18
set_option maxHeartbeats 4000000 in
set_option maxRecDepth 100000 in
theorem v_X7_hold_0 {σ : SS} {x1 : Int32} {x2 : Int32} (C : Cx p l s m args meth c cX7_hold 3 wsX7_hold (some .int) RX7 g A) (hT : ∀ x ∈ c.exceptionTable.toList, False) (h : f_X7_hold fu σ x1 x2 = some (.inr j, τ)) {H : Heap} {locs : List Loc} {ls : Array Slot} (hA : Aw g A s.heap (wX g σ) H locs) (hl : lv_has ls 3 [(0, .ref (g.2.1 0)), (1, .int x1), (2, .int x2)]) : W p l e rxX7_hold s m args below meth c H locs 0 0 (vx_MQ below (QFi A) (Xw g A (wX g τ) j) args s 1 6 A) (F0 m 0 ls []) := by
  have hx := C.1.1
  have hb := C.1.2.1
  unfold f_X7_hold at h
  refine lv_aload_n hx hb dX7_hold_0 rfl (lv_at hl 0 rfl) ?_
  refine lv_iload_n hx hb dX7_hold_1 rfl (lv_at hl 1 rfl) ?_
  rcases bdXt h with ⟨r1, hc2, h⟩ | ⟨hc2, rfl⟩
  rotate_left
  · exact r_xVv (w1 := wX g σ) (As := [.int x1]) (rest := []) C hA hl.1 hT (kx_X7_checkChief C.2.2.2.2.2.2 hc2) (cwV 1 C.1.2.2.2.2 gX7_hold_X7_checkChief rfl rfl rfl nd_X7_checkChief ⟨Nat.le_of_ble_eq_true rfl, Nat.le_of_ble_eq_true rfl⟩) 0 rfl rfl rfl rfl (Nat.le_of_ble_eq_true rfl) dX7_hold_2 ⟨Nat.le_of_ble_eq_true rfl, Nat.le_of_ble_eq_true rfl⟩
  refine r_callVv (r := ()) (w1 := wX g σ) (As := [.int x1]) (rest := []) C hA hl.1 (k_X7_checkChief C.2.2.2.2.2.2 hc2) (cwV 1 C.1.2.2.2.2 gX7_hold_X7_checkChief rfl rfl rfl nd_X7_checkChief ⟨Nat.le_of_ble_eq_true rfl, Nat.le_of_ble_eq_true rfl⟩) 0 rfl rfl rfl rfl (Nat.le_of_ble_eq_true rfl) dX7_hold_2 ⟨Nat.le_of_ble_eq_true rfl, Nat.le_of_ble_eq_true rfl⟩ (fun H locs hA => ?_)
  refine lv_aload_n hx hb dX7_hold_5 rfl (lv_at hl 0 rfl) ?_
  refine Xg_X7_chiefs C hA iX7_hold_X7 (by decide +kernel) dX7_hold_6 ?_
  refine Xg_X0_lives C hA iX7_hold_X0 (by decide +kernel) dX7_hold_9 ?_
  refine lv_iload_n hx hb dX7_hold_12 rfl (lv_at hl 1 rfl) ?_
  obtain ⟨g3, h⟩ := gd h
  refine Xld_21 (v := (σ.2.1 21 (x1).toNatClampNeg)) C hA rfl g3 dX7_hold_13 ?_
  refine lv_if_ne (tgt := 19) hx hb dX7_hold_14 (by decide) (fun c4 => ?_) (fun c4 => ?_)
  · replace h := (if_neg c4).symm.trans h
    refine lv_aload_n hx hb dX7_hold_19 rfl (lv_at hl 0 rfl) ?_
    refine Xg_X7_gathering C hA iX7_hold_X7 (by decide +kernel) dX7_hold_20 ?_
    refine lv_aload_n hx hb dX7_hold_23 rfl (lv_at hl 0 rfl) ?_
    refine Xg_X7_chiefs C hA iX7_hold_X7 (by decide +kernel) dX7_hold_24 ?_
    refine lv_aload_n hx hb dX7_hold_27 rfl (lv_at hl 0 rfl) ?_
    refine Xg_X7_debts C hA iX7_hold_X7 (by decide +kernel) dX7_hold_28 ?_
    refine lv_iload_n hx hb dX7_hold_31 rfl (lv_at hl 2 rfl) ?_
    obtain ⟨r5, t7, hc6, h⟩ := bd h
    refine r_callVv (r := r5) (w1 := wX g t7) (As := [.ref (g.2.1 4), .ref (g.2.1 5), .int x2]) (rest := []) C hA hl.1 (k_X4_callIn C.2.2.2.2.2.2 hc6) (cwV 3 C.1.2.2.2.2 gX7_hold_X4_callIn rfl rfl rfl nd_X4_callIn ⟨Nat.le_of_ble_eq_true rfl, Nat.le_of_ble_eq_true rfl⟩) 7 rfl rfl rfl rfl (Nat.le_of_ble_eq_true rfl) dX7_hold_32 ⟨Nat.le_of_ble_eq_true rfl, Nat.le_of_ble_eq_true rfl⟩ (fun H locs hA => ?_)
    refine lv_aload_n hx hb dX7_hold_35 rfl (lv_at hl 0 rfl) ?_
    refine Xg_X7_gathering C hA iX7_hold_X7 (by decide +kernel) dX7_hold_36 ?_
    refine lv_iload_n hx hb dX7_hold_39 rfl (lv_at hl 1 rfl) ?_
    obtain ⟨r8, t10, hc9, h⟩ := bd h
    refine r_callVl (r := r8) (w1 := wX g t10) (As := [.int x1]) (rest := []) C hA hl.1 (k_X4_most C.2.2.2.2.2.2 hc9) (cwV 1 C.1.2.2.2.2 gX7_hold_X4_most rfl rfl rfl nd_X4_most ⟨Nat.le_of_ble_eq_true rfl, Nat.le_of_ble_eq_true rfl⟩) 7 rfl rfl rfl rfl (Nat.le_of_ble_eq_true rfl) dX7_hold_40 ⟨Nat.le_of_ble_eq_true rfl, Nat.le_of_ble_eq_true rfl⟩ (fun H locs hA => ?_)
    refine lv_pop2_2 hx hb dX7_hold_43 rfl ?_
    refine lv_aload_n hx hb dX7_hold_44 rfl (lv_at hl 0 rfl) ?_
    refine Xg_X7_gathering C hA iX7_hold_X7 (by decide +kernel) dX7_hold_45 ?_
    obtain ⟨r11, hc12, h⟩ := bd1 h
    refine r_callVi (r := r11) (w1 := wX g t10) (As := []) (rest := []) C hA hl.1 (k_X4_side C.2.2.2.2.2.2 hc12) (cwV 0 C.1.2.2.2.2 gX7_hold_X4_side rfl rfl rfl nd_X4_side ⟨Nat.le_of_ble_eq_true rfl, Nat.le_of_ble_eq_true rfl⟩) 7 rfl rfl rfl rfl (Nat.le_of_ble_eq_true rfl) dX7_hold_48 ⟨Nat.le_of_ble_eq_true rfl, Nat.le_of_ble_eq_true rfl⟩ (fun H locs hA => ?_)
    cases h
  · replace h := (if_pos c4).symm.trans h
    refine lv_iconst (v := (-1)) hx hb dX7_hold_17 (by decide) ?_
    cases h
end
set_option maxRecDepth 100000 in
theorem k_X7_hold {l : Launch} {g : Gm} {fu : Nat} {σ : SS} {x1 : Int32} {x2 : Int32} {v0 : Int32} {τ : SS} (hlt : l.stackTraces = false) (h : f_X7_hold fu σ x1 x2 = some (.inl v0, τ)) (sz : Nat) : Met l yX7_hold wsX7_hold rmX7_hold (Pw g (wX g σ) [.ref (g.2.1 0), .int x1, .int x2] sz) (Qi g (va_A (wX g σ) sz) (wX g τ) v0) 0 0 (va_A (wX g σ) sz) :=
  ofM (own := RX7) hlt (by decide) rfl rfl (Nat.le_of_ble_eq_true rfl) (fun p e s m below meth c hsz C hA ls hl => w_X7_hold_0 C h hA hl)
set_option maxRecDepth 100000 in
theorem kx_X7_hold {l : Launch} {g : Gm} {fu : Nat} {σ : SS} {x1 : Int32} {x2 : Int32} {j : Nat} {τ : SS} (hlt : l.stackTraces = false) (h : f_X7_hold fu σ x1 x2 = some (.inr j, τ)) (sz : Nat) : vx_Met l yX7_hold wsX7_hold rxX7_hold (Pw g (wX g σ) [.ref (g.2.1 0), .int x1, .int x2] sz) (QFi (va_A (wX g σ) sz)) (Xw g (va_A (wX g σ) sz) (wX g τ) j) 1 6 (va_A (wX g σ) sz) :=
  ofX (own := RX7) hlt (by decide) rfl rfl (Nat.le_of_ble_eq_true rfl) (fun p e s m below meth c hsz C hT hA ls hl => v_X7_hold_0 C hT h hA hl)

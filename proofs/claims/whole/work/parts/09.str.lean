section RowsS
variable {p : Program} {l : Launch} {e : Env} {R : Room} {s : State} {m : MethodId} {args : Array Value} {below : List Frame} {meth : Method} {c : Code} {H : Heap} {locs : List Loc} {cells slots : Nat} {Q : State → Prop}
variable {cc : ByteArray} {pc nL : Nat} {ls : Array Slot} {rest : List Value} {g : Gm} {A : Nat → Prop} {w : va_W} {Ts : List Cond} {own : String} {ret : Option FieldType}
/-- a call of an object that the world doesn't hold -/
theorem r_callRi {y : MethodName} {wsY : List Cond} {rmY : Room} {bytes : ByteArray} {maxL n index b mc ms : Nat} {retY : Option FieldType} {As : List Value} {w1 : va_W} {r : Int32} {CN : String} {st : List Value}
    (C : Cx p l s m args meth c cc nL Ts ret own g A) (h : Aw g A s.heap w H locs) (hl : ls.size = nL) (hM : ∀ sz, Met l y wsY rmY (Pw g w (.ref b :: As) sz) (Qi g (va_A w sz) w1 r) mc ms (va_A w sz))
    (cw : CallW R s args own CN index y bytes maxL retY wsY rmY mc ms n) (hrv : ∃ cell : Cell, H[b]? = some cell ∧ cell.vm.isStatics = false ∧ s.vm.findClass CN = some cell.cls) (hn : As.length = n) (hst : st = As.reverse ++ .ref b :: rest) (hW : (rest.map fun v => v.category).sum ≤ 8) (hdg : decode cc pc = .ok (.invokevirtual index, 3)) (hf : cells + mc ≤ R.cells ∧ slots + ms ≤ R.slots)
    (kk : ∀ (H1 : Heap) (locs1 : List Loc), Aw g A s.heap w1 H1 locs1 → W p l e R s m args below meth c H1 locs1 (cells + mc) (slots + ms) Q (F0 m (pc + 3) ls (.int r :: rest))) : W p l e R s m args below meth c H locs cells slots Q (F0 m pc ls st) := by
  refine va_calli (va_runV (As := As) (rest := rest) C.1 (hM H.size) cw ⟨Pw_blind, hrv, Aw_pre C h⟩ rfl hn hl hst (lv_room hW) hdg hf) h.2.2 (fun q _ hq => Aw_in C h rfl q hq) (Aw_in C h rfl) (fun r1 u t H1 locs1 ht hvm hw hB hz1 hk1 hS => ?_)
  cases hw
  exact kk H1 locs1 (Aw_back C h rfl ht hB hS)
theorem r_callSv {y : MethodName} {wsY : List Cond} {rmY : Room} {bytes : ByteArray} {maxL n index mc ms : Nat} {retY : Option FieldType} {As : List Value} {w1 : va_W} {r : Unit} {st : List Value}
    (C : Cx p l s m args meth c cc nL Ts ret own g A) (h : Aw g A s.heap w H locs) (hl : ls.size = nL) (hM : ∀ sz, Met l y wsY rmY (Pw g w As sz) (Qv g (va_A w sz) w1 r) mc ms (va_A w sz))
    (cw : CallB R s args own index y bytes maxL retY wsY rmY mc ms n ∧ (Cond.static y).before args s = true) (hn : As.length = n) (hst : st = As.reverse ++ rest) (hW : (rest.map fun v => v.category).sum ≤ 8) (hdg : decode cc pc = .ok (.invokestatic index, 3)) (hf : cells + mc ≤ R.cells ∧ slots + ms ≤ R.slots)
    (kk : ∀ (H1 : Heap) (locs1 : List Loc), Aw g A s.heap w1 H1 locs1 → W p l e R s m args below meth c H1 locs1 (cells + mc) (slots + ms) Q (F0 m (pc + 3) ls rest)) : W p l e R s m args below meth c H locs cells slots Q (F0 m pc ls st) := by
  refine va_callv (va_runS (As := As) (rest := rest) C.1 (hM H.size) cw ⟨Pw_blind, Aw_pre C h⟩ rfl hn hl hst (lv_room hW) hdg hf) h.2.2 (fun q _ hq => Aw_in C h rfl q hq) (Aw_in C h rfl) (fun u t H1 locs1 ht hvm hw hB hz1 hk1 hS => ?_)
  exact kk H1 locs1 (Aw_back C h rfl ht hB hS)
theorem r_nret {v : Int32} {ty : FieldType} (C : Cx p l s m args meth c cc nL Ts (some ty) own g A) (h : Aw g A s.heap w H locs) (hn : narrow ty (.int v) = .int v) (hdg : decode cc pc = .ok (.ireturn, 1)) : W p l e R s m args below meth c H locs cells slots (MQ below (Qi g A w v) args s cells slots A) (F0 m pc ls [.int v]) := by
  have hlocks := C.2.2.1
  exact W.zret C.1.1 C.1.2.1 C.2.1 hn (fun t ht hW => ⟨⟨v, (), rfl, rfl, by rw [ht]; exact h.1, va_K.moved hW.alike C.2.2.2.1, h.2.1⟩, h.2.2.F ht⟩) h.2.2.2.2 hdg
end RowsS
/-- the char of a literal at i -/
def chJ (k : Nat) (i : Int32) : Int32 := ((((bytJ.getD k []).getD i.toNatClampNeg 0) &&& 255).toUInt32 % 65536).toInt32
abbrev rmJ0 : Room := { frames := 0, cells := 0, slots := 0, locals := 0 }
abbrev rmJ0_length_8abf5 : Room := { frames := 1, cells := 0, slots := 0, locals := 20 }
abbrev rmJ0_checkIndex : Room := { frames := 1, cells := 0, slots := 0, locals := 22 }
abbrev rmJ1_charAt : Room := { frames := 2, cells := 0, slots := 0, locals := 43 }
abbrev rmJ0_charAt_5068e : Room := { frames := 3, cells := 0, slots := 0, locals := 64 }
theorem nd_J0_coder : yJ0_coder_7d493.cls = RJ0 ∧ yJ0_coder_7d493.cls ≠ "java/lang/invoke/MethodHandle" ∧ yJ0_coder_7d493.cls ≠ "java/lang/invoke/VarHandle" ∧ (parseMethodDescriptor yJ0_coder_7d493.desc).map (fun d => d.parameters.length) = some 0 := by decide +kernel
theorem nd_J0_isLatin1 : yJ0_isLatin1_aae02.cls = RJ0 ∧ yJ0_isLatin1_aae02.cls ≠ "java/lang/invoke/MethodHandle" ∧ yJ0_isLatin1_aae02.cls ≠ "java/lang/invoke/VarHandle" ∧ (parseMethodDescriptor yJ0_isLatin1_aae02.desc).map (fun d => d.parameters.length) = some 0 := by decide +kernel
theorem nd_J0_length_8abf5 : yJ0_length_8abf5.cls = RJ0 ∧ yJ0_length_8abf5.cls ≠ "java/lang/invoke/MethodHandle" ∧ yJ0_length_8abf5.cls ≠ "java/lang/invoke/VarHandle" ∧ (parseMethodDescriptor yJ0_length_8abf5.desc).map (fun d => d.parameters.length) = some 0 := by decide +kernel
theorem nd_J0_charAt_5068e : yJ0_charAt_5068e.cls = RJ0 ∧ yJ0_charAt_5068e.cls ≠ "java/lang/invoke/MethodHandle" ∧ yJ0_charAt_5068e.cls ≠ "java/lang/invoke/VarHandle" ∧ (parseMethodDescriptor yJ0_charAt_5068e.desc).map (fun d => d.parameters.length) = some 1 := by decide +kernel
theorem nd_J3_checkIndex : yJ3_checkIndex_8e157.cls ≠ "java/lang/invoke/MethodHandle" ∧ yJ3_checkIndex_8e157.cls ≠ "java/lang/invoke/VarHandle" ∧ (parseMethodDescriptor yJ3_checkIndex_8e157.desc).map (fun d => d.parameters.length) = some 3 := by decide +kernel
theorem nd_J0_checkIndex : yJ0_checkIndex_df160.cls ≠ "java/lang/invoke/MethodHandle" ∧ yJ0_checkIndex_df160.cls ≠ "java/lang/invoke/VarHandle" ∧ (parseMethodDescriptor yJ0_checkIndex_df160.desc).map (fun d => d.parameters.length) = some 2 := by decide +kernel
theorem nd_J1_charAt : yJ1_charAt_3b067.cls ≠ "java/lang/invoke/MethodHandle" ∧ yJ1_charAt_3b067.cls ≠ "java/lang/invoke/VarHandle" ∧ (parseMethodDescriptor yJ1_charAt_3b067.desc).map (fun d => d.parameters.length) = some 2 := by decide +kernel
set_option maxRecDepth 100000 in
theorem k_J0_coder {l : Launch} {g : Gm} {w : va_W} {k : Nat} (hlt : l.stackTraces = false) (hk : k < 4) (sz : Nat) : Met l yJ0_coder_7d493 wsJ0_coder_7d493 rmJ0 (Pw g w [.ref (g.2.2.2.1 k)] sz) (Qi g (va_A w sz) w 0) 0 0 (va_A w sz) := by
  refine ofM (own := RJ0) hlt (by decide) rfl rfl (Nat.le_of_ble_eq_true rfl) (fun p e s m below meth c hsz C hA ls hl => ?_)
  have hx := C.1.1
  have hb := C.1.2.1
  have hl : lv_has ls 1 [(0, .ref (g.2.2.2.1 k))] := hl
  refine va_gets hx hb C.2.2.2.2.2.1.2.1 hA.2.2 C.1.2.2.2.1 (C.1.2.2.2.2 (.fieldLink RJ0 38 "java/lang/String" "COMPACT_STRINGS" "Z") (by decide +kernel)) (fun x h => h) dJ0_coder_7d493_0 ?_
  refine lv_if_eq (tgt := 13) hx hb dJ0_coder_7d493_3 (by decide) (fun c1 => absurd c1 (by decide)) (fun c1 => ?_)
  refine lv_aload_n hx hb dJ0_coder_7d493_6 rfl (lv_at hl 0 rfl) ?_
  refine vk_getf hx hb (C.2.2.2.2.2.1.1.1 k hk).2.1 hA.2.2 C.1.2.2.2.1 (C.1.2.2.2.2 (.fieldLink RJ0 15 "java/lang/String" "coder" "B") (by decide +kernel)) (fun x h => h) dJ0_coder_7d493_7 ?_
  refine lv_goto (tgt := 14) hx hb dJ0_coder_7d493_10 (by decide) ?_
  exact r_nret C hA rfl dJ0_coder_7d493_14
set_option maxRecDepth 100000 in
theorem k_J0_isLatin1 {l : Launch} {g : Gm} {w : va_W} {k : Nat} (hlt : l.stackTraces = false) (hk : k < 4) (sz : Nat) : Met l yJ0_isLatin1_aae02 wsJ0_isLatin1_aae02 rmJ0 (Pw g w [.ref (g.2.2.2.1 k)] sz) (Qi g (va_A w sz) w 1) 0 0 (va_A w sz) := by
  refine ofM (own := RJ0) hlt (by decide) rfl rfl (Nat.le_of_ble_eq_true rfl) (fun p e s m below meth c hsz C hA ls hl => ?_)
  have hx := C.1.1
  have hb := C.1.2.1
  have hl : lv_has ls 1 [(0, .ref (g.2.2.2.1 k))] := hl
  refine va_gets hx hb C.2.2.2.2.2.1.2.1 hA.2.2 C.1.2.2.2.1 (C.1.2.2.2.2 (.fieldLink RJ0 38 "java/lang/String" "COMPACT_STRINGS" "Z") (by decide +kernel)) (fun x h => h) dJ0_isLatin1_aae02_0 ?_
  refine lv_if_eq (tgt := 17) hx hb dJ0_isLatin1_aae02_3 (by decide) (fun c1 => absurd c1 (by decide)) (fun c1 => ?_)
  refine lv_aload_n hx hb dJ0_isLatin1_aae02_6 rfl (lv_at hl 0 rfl) ?_
  refine vk_getf hx hb (C.2.2.2.2.2.1.1.1 k hk).2.1 hA.2.2 C.1.2.2.2.1 (C.1.2.2.2.2 (.fieldLink RJ0 15 "java/lang/String" "coder" "B") (by decide +kernel)) (fun x h => h) dJ0_isLatin1_aae02_7 ?_
  refine lv_if_ne (tgt := 17) hx hb dJ0_isLatin1_aae02_10 (by decide) (fun c1 => absurd rfl c1) (fun c1 => ?_)
  refine lv_iconst (v := 1) hx hb dJ0_isLatin1_aae02_13 (by decide) ?_
  refine lv_goto (tgt := 18) hx hb dJ0_isLatin1_aae02_14 (by decide) ?_
  exact r_nret C hA rfl dJ0_isLatin1_aae02_18
theorem lenJ_shr : ∀ k, k < 4 → Int32.ofNat (lenJ.getD k 0) >>> ((0 : Int32) &&& 31) = nI (lenJ.getD k 0) := by decide
set_option maxRecDepth 100000 in
theorem k_J0_length_8abf5 {l : Launch} {g : Gm} {w : va_W} {k : Nat} (hlt : l.stackTraces = false) (hk : k < 4) (sz : Nat) : Met l yJ0_length_8abf5 wsJ0_length_8abf5 rmJ0_length_8abf5 (Pw g w [.ref (g.2.2.2.1 k)] sz) (Qi g (va_A w sz) w (nI (lenJ.getD k 0))) 0 0 (va_A w sz) := by
  refine ofM (own := RJ0) hlt (by decide) rfl rfl (Nat.le_of_ble_eq_true rfl) (fun p e s m below meth c hsz C hA ls hl => ?_)
  have hx := C.1.1
  have hb := C.1.2.1
  have hl : lv_has ls 1 [(0, .ref (g.2.2.2.1 k))] := hl
  refine lv_aload_n hx hb dJ0_length_8abf5_0 rfl (lv_at hl 0 rfl) ?_
  refine vk_getf hx hb (C.2.2.2.2.2.1.1.1 k hk).2.2.1 hA.2.2 C.1.2.2.2.1 (C.1.2.2.2.2 (.fieldLink RJ0 9 "java/lang/String" "value" "[B") (by decide +kernel)) (fun x h => h) dJ0_length_8abf5_1 ?_
  refine va_tlen hx hb (C.2.2.2.2.2.1.1.1 k hk).2.2.2 hA.2.2 rfl dJ0_length_8abf5_4 ?_
  refine lv_aload_n hx hb dJ0_length_8abf5_5 rfl (lv_at hl 0 rfl) ?_
  refine r_callRi (r := 0) (w1 := w) (As := []) (rest := [.int (Int32.ofNat (lenJ.getD k 0))]) C hA hl.1 (k_J0_coder C.2.2.2.2.2.2 hk) (cwV 0 C.1.2.2.2.2 gJ0_length_8abf5_J0_coder_7d493 rfl rfl rfl nd_J0_coder ⟨Nat.le_of_ble_eq_true rfl, Nat.le_of_ble_eq_true rfl⟩) (vk_recv C.2.2.2.2.2.1.1 hk hA.2.2) rfl rfl (Nat.le_of_ble_eq_true rfl) dJ0_length_8abf5_6 ⟨Nat.le_of_ble_eq_true rfl, Nat.le_of_ble_eq_true rfl⟩ (fun H locs hA => ?_)
  refine lv_ishr hx hb dJ0_length_8abf5_9 ?_
  rw [lenJ_shr k hk]
  exact r_iret C hA dJ0_length_8abf5_10
set_option maxRecDepth 100000 in
theorem k_J3_null {l : Launch} {g : Gm} {w : va_W} {i n : Int32} (hlt : l.stackTraces = false) (h0 : ¬ i < 0) (h1 : i < n) (sz : Nat) : Met l yJ3_checkIndex_8e157 wsJ3_checkIndex_8e157 rmJ0 (Pw g w [.int i, .int n, .null] sz) (Qi g (va_A w sz) w i) 0 0 (va_A w sz) := by
  refine ofM (own := RJ3) hlt (by decide) rfl rfl (Nat.le_of_ble_eq_true rfl) (fun p e s m below meth c hsz C hA ls hl => ?_)
  have hx := C.1.1
  have hb := C.1.2.1
  have hl : lv_has ls 3 [(0, .int i), (1, .int n), (2, .null)] := hl
  refine lv_iload_n hx hb dJ3_checkIndex_8e157_0 rfl (lv_at hl 0 rfl) ?_
  refine lv_if_lt (tgt := 9) hx hb dJ3_checkIndex_8e157_1 (by decide) (fun c1 => absurd c1 h0) (fun c1 => ?_)
  refine lv_iload_n hx hb dJ3_checkIndex_8e157_4 rfl (lv_at hl 0 rfl) ?_
  refine lv_iload_n hx hb dJ3_checkIndex_8e157_5 rfl (lv_at hl 1 rfl) ?_
  refine lv_icmp_lt (tgt := 16) hx hb dJ3_checkIndex_8e157_6 (by decide) (fun c1 => ?_) (fun c1 => absurd h1 c1)
  refine lv_iload_n hx hb dJ3_checkIndex_8e157_16 rfl (lv_at hl 0 rfl) ?_
  exact r_iret C hA dJ3_checkIndex_8e157_17
set_option maxRecDepth 100000 in
theorem k_J3_ref {l : Launch} {g : Gm} {w : va_W} {i n : Int32} {t : Nat} (hlt : l.stackTraces = false) (h0 : ¬ i < 0) (h1 : i < n) (sz : Nat) : Met l yJ3_checkIndex_8e157 wsJ3_checkIndex_8e157 rmJ0 (Pw g w [.int i, .int n, .ref t] sz) (Qi g (va_A w sz) w i) 0 0 (va_A w sz) := by
  refine ofM (own := RJ3) hlt (by decide) rfl rfl (Nat.le_of_ble_eq_true rfl) (fun p e s m below meth c hsz C hA ls hl => ?_)
  have hx := C.1.1
  have hb := C.1.2.1
  have hl : lv_has ls 3 [(0, .int i), (1, .int n), (2, .ref t)] := hl
  refine lv_iload_n hx hb dJ3_checkIndex_8e157_0 rfl (lv_at hl 0 rfl) ?_
  refine lv_if_lt (tgt := 9) hx hb dJ3_checkIndex_8e157_1 (by decide) (fun c1 => absurd c1 h0) (fun c1 => ?_)
  refine lv_iload_n hx hb dJ3_checkIndex_8e157_4 rfl (lv_at hl 0 rfl) ?_
  refine lv_iload_n hx hb dJ3_checkIndex_8e157_5 rfl (lv_at hl 1 rfl) ?_
  refine lv_icmp_lt (tgt := 16) hx hb dJ3_checkIndex_8e157_6 (by decide) (fun c1 => ?_) (fun c1 => absurd h1 c1)
  refine lv_iload_n hx hb dJ3_checkIndex_8e157_16 rfl (lv_at hl 0 rfl) ?_
  exact r_iret C hA dJ3_checkIndex_8e157_17
set_option maxRecDepth 100000 in
theorem k_J0_checkIndex {l : Launch} {g : Gm} {w : va_W} {i n : Int32} (hlt : l.stackTraces = false) (h0 : ¬ i < 0) (h1 : i < n) (sz : Nat) : Met l yJ0_checkIndex_df160 wsJ0_checkIndex_df160 rmJ0_checkIndex (Pw g w [.int i, .int n] sz) (Qv g (va_A w sz) w ()) 0 0 (va_A w sz) := by
  refine ofM (own := RJ0) hlt (by decide) rfl rfl (Nat.le_of_ble_eq_true rfl) (fun p e s m below meth c hsz C hA ls hl => ?_)
  have hx := C.1.1
  have hb := C.1.2.1
  have hl : lv_has ls 2 [(0, .int i), (1, .int n)] := hl
  refine lv_iload_n hx hb dJ0_checkIndex_df160_0 rfl (lv_at hl 0 rfl) ?_
  refine lv_iload_n hx hb dJ0_checkIndex_df160_1 rfl (lv_at hl 1 rfl) ?_
  rcases C.2.2.2.2.2.1.2.2.1 with hZ | ⟨t, hZ⟩
  · refine va_gets hx hb hZ hA.2.2 C.1.2.2.2.1 (C.1.2.2.2.2 (.fieldLink RJ0 1053 "jdk/internal/util/Preconditions" "SIOOBE_FORMATTER" "Ljava/util/function/BiFunction;") (by decide +kernel)) (fun x h => h) dJ0_checkIndex_df160_2 ?_
    refine r_callSi (r := i) (w1 := w) (As := [.int i, .int n, .null]) (rest := []) C hA hl.1 (k_J3_null C.2.2.2.2.2.2 h0 h1) (va_cwS 3 C.1.2.2.2.2 gJ0_checkIndex_df160_J3_checkIndex_8e157 rfl rfl rfl nd_J3_checkIndex ⟨Nat.le_of_ble_eq_true rfl, Nat.le_of_ble_eq_true rfl⟩) rfl rfl (Nat.le_of_ble_eq_true rfl) dJ0_checkIndex_df160_5 ⟨Nat.le_of_ble_eq_true rfl, Nat.le_of_ble_eq_true rfl⟩ (fun H locs hA => ?_)
    refine lv_pop hx hb dJ0_checkIndex_df160_8 rfl ?_
    exact r_vret C hA dJ0_checkIndex_df160_9
  · refine va_gets hx hb hZ hA.2.2 C.1.2.2.2.1 (C.1.2.2.2.2 (.fieldLink RJ0 1053 "jdk/internal/util/Preconditions" "SIOOBE_FORMATTER" "Ljava/util/function/BiFunction;") (by decide +kernel)) (fun x h => h) dJ0_checkIndex_df160_2 ?_
    refine r_callSi (r := i) (w1 := w) (As := [.int i, .int n, .ref t]) (rest := []) C hA hl.1 (k_J3_ref C.2.2.2.2.2.2 h0 h1) (va_cwS 3 C.1.2.2.2.2 gJ0_checkIndex_df160_J3_checkIndex_8e157 rfl rfl rfl nd_J3_checkIndex ⟨Nat.le_of_ble_eq_true rfl, Nat.le_of_ble_eq_true rfl⟩) rfl rfl (Nat.le_of_ble_eq_true rfl) dJ0_checkIndex_df160_5 ⟨Nat.le_of_ble_eq_true rfl, Nat.le_of_ble_eq_true rfl⟩ (fun H locs hA => ?_)
    refine lv_pop hx hb dJ0_checkIndex_df160_8 rfl ?_
    exact r_vret C hA dJ0_checkIndex_df160_9
theorem inB_lt {i : Int32} {n : Nat} (hn : n < 2 ^ 31) (h : inB i n) : ¬ i < 0 ∧ i < Int32.ofNat n := by
  refine ⟨fun q => h (Or.inl q), ?_⟩
  obtain ⟨j, hj, rfl⟩ := vp_in_of h hn
  exact nI_lt hj hn
theorem lenJ_lt : ∀ k, k < 4 → lenJ.getD k 0 < 2 ^ 31 := by decide
set_option maxRecDepth 100000 in
theorem k_J1_charAt {l : Launch} {g : Gm} {w : va_W} {k : Nat} {i : Int32} (hlt : l.stackTraces = false) (hk : k < 4) (hi : inB i (lenJ.getD k 0)) (sz : Nat) : Met l yJ1_charAt_3b067 wsJ1_charAt_3b067 rmJ1_charAt (Pw g w [.ref (g.2.2.2.2.1 k), .int i] sz) (Qi g (va_A w sz) w (chJ k i)) 0 0 (va_A w sz) := by
  refine ofM (own := RJ1) hlt (by decide) rfl rfl (Nat.le_of_ble_eq_true rfl) (fun p e s m below meth c hsz C hA ls hl => ?_)
  have hx := C.1.1
  have hb := C.1.2.1
  have hl : lv_has ls 2 [(0, .ref (g.2.2.2.2.1 k)), (1, .int i)] := hl
  obtain ⟨h0, h1⟩ := inB_lt (lenJ_lt k hk) hi
  refine lv_iload_n hx hb dJ1_charAt_3b067_0 rfl (lv_at hl 1 rfl) ?_
  refine lv_aload_n hx hb dJ1_charAt_3b067_1 rfl (lv_at hl 0 rfl) ?_
  refine va_tlen hx hb (C.2.2.2.2.2.1.1.1 k hk).2.2.2 hA.2.2 rfl dJ1_charAt_3b067_2 ?_
  refine r_callSv (r := ()) (w1 := w) (As := [.int i, .int (Int32.ofNat (lenJ.getD k 0))]) (rest := []) C hA hl.1 (k_J0_checkIndex C.2.2.2.2.2.2 h0 h1) (va_cwS 2 C.1.2.2.2.2 gJ1_charAt_3b067_J0_checkIndex_df160 rfl rfl rfl nd_J0_checkIndex ⟨Nat.le_of_ble_eq_true rfl, Nat.le_of_ble_eq_true rfl⟩) rfl rfl (Nat.le_of_ble_eq_true rfl) dJ1_charAt_3b067_3 ⟨Nat.le_of_ble_eq_true rfl, Nat.le_of_ble_eq_true rfl⟩ (fun H locs hA => ?_)
  refine lv_aload_n hx hb dJ1_charAt_3b067_6 rfl (lv_at hl 0 rfl) ?_
  refine lv_iload_n hx hb dJ1_charAt_3b067_7 rfl (lv_at hl 1 rfl) ?_
  refine va_tb hx hb (C.2.2.2.2.2.1.1.1 k hk).2.2.2 hA.2.2 hi rfl dJ1_charAt_3b067_8 ?_
  refine lv_sipush (v := 255) hx hb dJ1_charAt_3b067_9 (by decide) ?_
  refine lv_iand hx hb dJ1_charAt_3b067_12 ?_
  refine lv_i2c (v := chJ k i) hx hb dJ1_charAt_3b067_13 rfl ?_
  exact r_nret C hA (pk_nc _) dJ1_charAt_3b067_14
set_option maxRecDepth 100000 in
theorem k_J0_charAt_5068e {l : Launch} {g : Gm} {w : va_W} {k : Nat} {i : Int32} (hlt : l.stackTraces = false) (hk : k < 4) (hi : inB i (lenJ.getD k 0)) (sz : Nat) : Met l yJ0_charAt_5068e wsJ0_charAt_5068e rmJ0_charAt_5068e (Pw g w [.ref (g.2.2.2.1 k), .int i] sz) (Qi g (va_A w sz) w (chJ k i)) 0 0 (va_A w sz) := by
  refine ofM (own := RJ0) hlt (by decide) rfl rfl (Nat.le_of_ble_eq_true rfl) (fun p e s m below meth c hsz C hA ls hl => ?_)
  have hx := C.1.1
  have hb := C.1.2.1
  have hl : lv_has ls 2 [(0, .ref (g.2.2.2.1 k)), (1, .int i)] := hl
  refine lv_aload_n hx hb dJ0_charAt_5068e_0 rfl (lv_at hl 0 rfl) ?_
  refine r_callRi (r := 1) (w1 := w) (As := []) (rest := []) C hA hl.1 (k_J0_isLatin1 C.2.2.2.2.2.2 hk) (cwV 0 C.1.2.2.2.2 gJ0_charAt_5068e_J0_isLatin1_aae02 rfl rfl rfl nd_J0_isLatin1 ⟨Nat.le_of_ble_eq_true rfl, Nat.le_of_ble_eq_true rfl⟩) (vk_recv C.2.2.2.2.2.1.1 hk hA.2.2) rfl rfl (Nat.le_of_ble_eq_true rfl) dJ0_charAt_5068e_1 ⟨Nat.le_of_ble_eq_true rfl, Nat.le_of_ble_eq_true rfl⟩ (fun H locs hA => ?_)
  refine lv_if_eq (tgt := 16) hx hb dJ0_charAt_5068e_4 (by decide) (fun c1 => absurd c1 (by decide)) (fun c1 => ?_)
  refine lv_aload_n hx hb dJ0_charAt_5068e_7 rfl (lv_at hl 0 rfl) ?_
  refine vk_getf hx hb (C.2.2.2.2.2.1.1.1 k hk).2.2.1 hA.2.2 C.1.2.2.2.1 (C.1.2.2.2.2 (.fieldLink RJ0 9 "java/lang/String" "value" "[B") (by decide +kernel)) (fun x h => h) dJ0_charAt_5068e_8 ?_
  refine lv_iload_n hx hb dJ0_charAt_5068e_11 rfl (lv_at hl 1 rfl) ?_
  refine r_callSi (r := chJ k i) (w1 := w) (As := [.ref (g.2.2.2.2.1 k), .int i]) (rest := []) C hA hl.1 (k_J1_charAt C.2.2.2.2.2.2 hk hi) (va_cwS 2 C.1.2.2.2.2 gJ0_charAt_5068e_J1_charAt_3b067 rfl rfl rfl nd_J1_charAt ⟨Nat.le_of_ble_eq_true rfl, Nat.le_of_ble_eq_true rfl⟩) rfl rfl (Nat.le_of_ble_eq_true rfl) dJ0_charAt_5068e_12 ⟨Nat.le_of_ble_eq_true rfl, Nat.le_of_ble_eq_true rfl⟩ (fun H locs hA => ?_)
  exact r_nret C hA (pk_nc _) dJ0_charAt_5068e_15

/-! Results that are a value or a throw -/
def sW (σ : SS) (a : Nat) (f : Nat → Int32) : SS := (σ.1, fun b => bif Nat.beq b a then f else σ.2.1 b, σ.2.2)
/-- a callee that only reads, whose throw goes on; the caller writes -/
def bndX {α β : Type} (o : Option (α ⊕ Nat)) (σ : SS) (k : α → Option ((β ⊕ Nat) × SS)) : Option ((β ⊕ Nat) × SS) := match o with
  | none => none
  | some (.inl x) => k x
  | some (.inr j) => some (.inr j, σ)
/-- the same, the caller only reads too -/
def bndX0 {α β : Type} (o : Option (α ⊕ Nat)) (k : α → Option (β ⊕ Nat)) : Option (β ⊕ Nat) := match o with
  | none => none
  | some (.inl x) => k x
  | some (.inr j) => some (.inr j)
theorem bdX {α β : Type} {o : Option (α ⊕ Nat)} {σ τ : SS} {k : α → Option ((β ⊕ Nat) × SS)} {v : β} (h : bndX o σ k = some (.inl v, τ)) : ∃ r : α, o = some (.inl r) ∧ k r = some (.inl v, τ) := by
  match o with
  | none => cases h
  | some (.inl x) => exact ⟨x, rfl, h⟩
  | some (.inr j) => cases h
theorem bdX0 {α β : Type} {o : Option (α ⊕ Nat)} {k : α → Option (β ⊕ Nat)} {v : β} (h : bndX0 o k = some (.inl v)) : ∃ r : α, o = some (.inl r) ∧ k r = some (.inl v) := by
  match o with
  | none => cases h
  | some (.inl x) => exact ⟨x, rfl, h⟩
  | some (.inr j) => cases h
theorem bdXt {α β : Type} {o : Option (α ⊕ Nat)} {σ τ : SS} {k : α → Option ((β ⊕ Nat) × SS)} {j : Nat} (h : bndX o σ k = some (.inr j, τ)) : (∃ r : α, o = some (.inl r) ∧ k r = some (.inr j, τ)) ∨ (o = some (.inr j) ∧ σ = τ) := by
  match o with
  | none => cases h
  | some (.inl x) => exact Or.inl ⟨x, rfl, h⟩
  | some (.inr i) => cases h; exact Or.inr ⟨rfl, rfl⟩
theorem bdX0t {α β : Type} {o : Option (α ⊕ Nat)} {k : α → Option (β ⊕ Nat)} {j : Nat} (h : bndX0 o k = some (.inr j)) : (∃ r : α, o = some (.inl r) ∧ k r = some (.inr j)) ∨ o = some (.inr j) := by
  match o with
  | none => cases h
  | some (.inl x) => exact Or.inl ⟨x, rfl, h⟩
  | some (.inr i) => cases h; exact Or.inr rfl
theorem inl_inj {α : Type} {a b : α} {s t : SS} (h : some ((Sum.inl a : α ⊕ Nat), s) = some (.inl b, t)) : a = b ∧ s = t := by cases h; exact ⟨rfl, rfl⟩
theorem inl_inj0 {α : Type} {a b : α} (h : some (Sum.inl a : α ⊕ Nat) = some (.inl b)) : a = b := by cases h; rfl
theorem inr_inj {α : Type} {a b : Nat} {s t : SS} (h : some ((Sum.inr a : α ⊕ Nat), s) = some (.inr b, t)) : a = b ∧ s = t := by cases h; exact ⟨rfl, rfl⟩
theorem inr_inj0 {α : Type} {a b : Nat} (h : some (Sum.inr a : α ⊕ Nat) = some (.inr b)) : a = b := by cases h; rfl
/-! Contracts of throwing -/
def Xw (g : Gm) (A : Nat → Prop) (w : va_W) (j : Nat) : String → State → State → Prop := vx_X (fun _ : Unit => True) (fun E _ t => E = en j ∧ Bw g A w () t) A
def QFi (A : Nat → Prop) : Array Value → State → Outcome → State → Prop := va_Qi (fun (_ : Int32) (_ : Unit) => False) (fun _ _ => True) A
def QFl (A : Nat → Prop) : Array Value → State → Outcome → State → Prop := va_Ql (fun (_ : Int64) (_ : Unit) => False) (fun _ _ => True) A
def QFv (A : Nat → Prop) : Array Value → State → Outcome → State → Prop := va_Qv (fun (_ : Unit) => False) (fun _ _ => True) A
theorem ofX {l : Launch} {y : MethodName} {ws ws' : List Cond} {rm : Room} {g : Gm} {w w1 : va_W} {av : List Value} {sz j : Nat} {Qc : Array Value → State → Outcome → State → Prop} {cc : ByteArray} {nL : Nat} {ret : Option FieldType} {own : String} {mc ms : Nat}
    (hlt : l.stackTraces = false) (hy : plainName y.cls = true) (ho : y.cls = own) (hw : ws = Cond.code y cc nL ret :: ws') (hlen : (lg_sl av).length ≤ nL)
    (body : ∀ (p : Program) (e : Env) (s : State) (m : MethodId) (below : List Frame) (meth : Method) (c : Code), s.heap.size = sz → Cx p l s m av.toArray meth c cc nL ws ret own g (va_A w sz) → (∀ x ∈ c.exceptionTable.toList, False) → Aw g (va_A w sz) s.heap w s.heap [] → ∀ ls : Array Slot, lv_has ls nL (lv_args 0 av) → W p l e rm s m av.toArray below meth c s.heap [] 0 0 (vx_MQ below Qc (Xw g (va_A w sz) w1 j) av.toArray s mc ms (va_A w sz)) (F0 m 0 ls [])) :
    vx_Met l y ws rm (Pw g w av sz) Qc (Xw g (va_A w sz) w1 j) mc ms (va_A w sz) := by
  refine vx_ofW (cc := cc) (maxL := nL) (ret := ret) hy hw ?_
  intro p e s m args below meth c s₁ B hml hT hv
  obtain ⟨rfl, hsz, hP, hK, hD0, hE⟩ := hv
  have hts := atoms_spec (ws := ws) B.pre
  have hown : s.vm.findClass own = some m.cls := by rw [← ho]; exact findClass_of_methodNamed B.named
  have hl := lv_entry av (n := nL) hlen
  rw [lg_entry_eq]
  exact body p e s m below meth c hsz ⟨⟨B.exec, B.bytes, hml, hown, hts⟩, B.returns, B.notSynchronized, hK, fun q h => Or.inr (by rw [← hsz]; exact h), hE, hlt⟩ hT ⟨hP, hD0.self, va_S.rf⟩ _ hl
section RowsX
variable {p : Program} {l : Launch} {e : Env} {R : Room} {s : State} {m : MethodId} {args : Array Value} {below : List Frame} {meth : Method} {c : Code} {H : Heap} {locs : List Loc} {cells slots : Nat} {Q : State → Prop} {Qc : Array Value → State → Outcome → State → Prop}
variable {cc : ByteArray} {pc nL : Nat} {ls : Array Slot} {rest : List Value} {g : Gm} {A : Nat → Prop} {w : va_W} {Ts : List Cond} {own : String} {ret : Option FieldType}
abbrev xNames : List String := ["java/lang/RuntimeException", "java/lang/Exception"]
theorem Xw_new {j : Nat} {cls : String} (C : Cx p l s m args meth c cc nL Ts ret own g A) (h : Aw g A s.heap w H locs) (hj : cls = en j) : ∀ t : State, s.vm.Alike t.vm → H.size ≤ t.heap.size → (∀ q : Nat, q < H.size → t.heap[q]? = H[q]?) → Xw g A w j cls s t := by
  intro t hvm hz hk
  refine ⟨(), trivial, ⟨hj, h.1.kept (fun k9 x hx => hk x.1 ((h.1 k9 x hx).lt)), va_K.moved hvm C.2.2.2.1, h.2.1⟩, Nat.le_trans h.2.2.1 hz, fun q h1 h2 => ?_⟩
  rw [hk q (Nat.lt_of_lt_of_le h1 h.2.2.1)]
  exact h.2.2.2.1 q h1 h2
theorem r_throw {j ik is ic sa : Nat} {cls text : String} (C : Cx p l s m args meth c cc nL Ts ret own g A) (h : Aw g A s.heap w H locs) (hl : ls.size = nL) (hT : ∀ x ∈ c.exceptionTable.toList, False) (hj : cls = en j) (hcls : Bundle.fit cls = true) (hstr : vk_R own is text sa s)
    (hk : Cond.classLink own ik cls ∈ Ts) (hini : Cond.initialized cls ∈ Ts) (hat : ∀ w ∈ (vx_atS own ic cls xNames).filter goodWord, w ∈ Ts) (hng : ∀ w ∈ (vx_atS own ic cls xNames).filter (fun w => !goodWord w), w ∈ [Cond.castable cls cls, Cond.declares (Bundle.initS "java/lang/RuntimeException"), Cond.declares (Bundle.initS "java/lang/Exception"), Cond.declares (Bundle.initS Bundle.tN)]) (hcs : va_Nw (.castable cls cls) s)
    (hgood : ∀ w ∈ Cond.classLink own ik cls :: Cond.initialized cls :: vx_atS own ic cls xNames, vx_ot w = true)
    (d0 : decode cc pc = .ok (.new ik, 3)) (d3 : decode cc (pc + 3) = .ok (.dup, 1)) (d4 : decode cc (pc + 4) = .ok (.ldc is, 2)) (d6 : decode cc (pc + 6) = .ok (.invokespecial ic, 3)) (d9 : decode cc (pc + 9) = .ok (.athrow, 1))
    (hRf : 5 < R.frames) (hRl : (rest.map fun v => v.category).sum + 82 ≤ R.locals) (hRc : 1 ≤ R.cells) (hRs : 6 ≤ R.slots) :
    W p l e R s m args below meth c H locs 0 0 (vx_MQ below Qc (Xw g A w j) args s 1 6 A) (F0 m pc ls rest) :=
  vx_throwS (A := A) (names := xNames) C.1.1 C.1.2.1 C.2.2.2.2.2.2 C.1.2.2.2.1 hcls (by decide) (C.1.2.2.2.2 _ hk) (C.1.2.2.2.2 _ hini) hstr (vx_hat (fun w hw => C.1.2.2.2.2 _ (hat w hw)) hng (vx_c (va_Nw.use rfl hcs) (vx_c (va_Nw.use rfl C.2.2.2.2.2.1.2.2.2.2.2.2.2.2.2.2.2.2.2.2.2.2.2.2.2.2.2.2.2.2.2.2.2.2.2.2.2.2.2.2.2.1) (vx_c (va_Nw.use rfl C.2.2.2.2.2.1.2.2.2.2.2.2.2.2.2.2.2.2.2.2.2.2.2.2.2.2.2.2.2.2.2.2.2.2.2.2.2.2.2.2.2.2.1) (vx_c (va_Nw.use rfl C.2.2.2.2.2.1.2.2.2.2.2.2.2.2.2.2.2.2.2.2.2.2.2.2.2.2.2.2.2.2.2.2.2.2.2.2.2.2.2.2.2.2.2.1) vx_n))))) hgood C.2.2.2.2.2.1.2.2.2.1 C.2.2.2.2.2.1.2.2.2.2.1 h.2.2 (hl.trans C.1.2.2.1.symm) d0 d3 d4 d6 d9 (fun x hx => absurd (hT x hx) id) hRf hRl (by omega) (by omega) C.2.2.1 (Xw_new C h hj) h.2.2.2.2 (Nat.le_refl _) (Nat.le_refl _)
theorem r_throwW {j ik is ic sa : Nat} {cls text : String} (C : Cx p l s m args meth c cc nL Ts ret own g A) (h : Aw g A s.heap w H locs) (hl : ls.size = nL) (hT : ∀ x ∈ c.exceptionTable.toList, False) (hj : cls = en j) (hcls : Bundle.fit cls = true) (hstr : vk_R own is text sa s)
    (hk : Cond.classLink own ik cls ∈ Ts) (hini : Cond.initialized cls ∈ Ts) (hat : ∀ w ∈ (vx_atS own ic cls xNames).filter goodWord, w ∈ Ts) (hng : ∀ w ∈ (vx_atS own ic cls xNames).filter (fun w => !goodWord w), w ∈ [Cond.castable cls cls, Cond.declares (Bundle.initS "java/lang/RuntimeException"), Cond.declares (Bundle.initS "java/lang/Exception"), Cond.declares (Bundle.initS Bundle.tN)]) (hcs : va_Nw (.castable cls cls) s)
    (hgood : ∀ w ∈ Cond.classLink own ik cls :: Cond.initialized cls :: vx_atS own ic cls xNames, vx_ot w = true)
    (d0 : decode cc pc = .ok (.new ik, 3)) (d3 : decode cc (pc + 3) = .ok (.dup, 1)) (d4 : decode cc (pc + 4) = .ok (.ldc_w is, 3)) (d7 : decode cc (pc + 7) = .ok (.invokespecial ic, 3)) (d10 : decode cc (pc + 10) = .ok (.athrow, 1))
    (hRf : 5 < R.frames) (hRl : (rest.map fun v => v.category).sum + 82 ≤ R.locals) (hRc : 1 ≤ R.cells) (hRs : 6 ≤ R.slots) :
    W p l e R s m args below meth c H locs 0 0 (vx_MQ below Qc (Xw g A w j) args s 1 6 A) (F0 m pc ls rest) :=
  vx_throwSW (A := A) (names := xNames) C.1.1 C.1.2.1 C.2.2.2.2.2.2 C.1.2.2.2.1 hcls (by decide) (C.1.2.2.2.2 _ hk) (C.1.2.2.2.2 _ hini) hstr (vx_hat (fun w hw => C.1.2.2.2.2 _ (hat w hw)) hng (vx_c (va_Nw.use rfl hcs) (vx_c (va_Nw.use rfl C.2.2.2.2.2.1.2.2.2.2.2.2.2.2.2.2.2.2.2.2.2.2.2.2.2.2.2.2.2.2.2.2.2.2.2.2.2.2.2.2.2.1) (vx_c (va_Nw.use rfl C.2.2.2.2.2.1.2.2.2.2.2.2.2.2.2.2.2.2.2.2.2.2.2.2.2.2.2.2.2.2.2.2.2.2.2.2.2.2.2.2.2.2.1) (vx_c (va_Nw.use rfl C.2.2.2.2.2.1.2.2.2.2.2.2.2.2.2.2.2.2.2.2.2.2.2.2.2.2.2.2.2.2.2.2.2.2.2.2.2.2.2.2.2.2.2.1) vx_n))))) hgood C.2.2.2.2.2.1.2.2.2.1 C.2.2.2.2.2.1.2.2.2.2.1 h.2.2 (hl.trans C.1.2.2.1.symm) d0 d3 d4 d7 d10 (fun x hx => absurd (hT x hx) id) hRf hRl (by omega) (by omega) C.2.2.1 (Xw_new C h hj) h.2.2.2.2 (Nat.le_refl _) (Nat.le_refl _)
/-- a callee throws, and it goes on to the caller -/
theorem r_xVv {y : MethodName} {wsY : List Cond} {rmY : Room} {bytes : ByteArray} {maxL n index b j : Nat} {retY : Option FieldType} {As : List Value} {w1 : va_W} {CN : String} {T : u_T} {N ci : Nat} {fs : List Value} {st : List Value}
    (C : Cx p l s m args meth c cc nL Ts ret own g A) (h : Aw g A s.heap w H locs) (hl : ls.size = nL) (hT : ∀ x ∈ c.exceptionTable.toList, False) (hM : ∀ sz, vx_Met l y wsY rmY (Pw g w (.ref b :: As) sz) (QFv (va_A w sz)) (Xw g (va_A w sz) w1 j) 1 6 (va_A w sz))
    (cw : CallW R s args own CN index y bytes maxL retY wsY rmY 1 6 n) (q0 : Nat) (he : w[q0]? = some (b, .inr (ci, fs))) (hc : vwCl[ci]? = some (CN, T, N)) (hn : As.length = n) (hst : st = As.reverse ++ .ref b :: rest) (hW : (rest.map fun v => v.category).sum ≤ 8) (hdg : decode cc pc = .ok (.invokevirtual index, 3)) (hf : 0 + 1 ≤ R.cells ∧ 0 + 6 ≤ R.slots) :
    W p l e R s m args below meth c H locs 0 0 (vx_MQ below Qc (Xw g A w1 j) args s 1 6 A) (F0 m pc ls st) := by
  refine vx_callv (vx_runV (As := As) (rest := rest) C.1 (hM H.size) cw ⟨Pw_blind, va_recv C.2.2.2.1 h.1 hc he, Aw_pre C h⟩ rfl hn hl hst (lv_room hW) hdg hf) h.2.2 (fun q _ hq => Aw_in C h rfl q hq) (Aw_in C h rfl) (fun q _ hq => Aw_in C h rfl q hq) (fun E ce q9 u t H1 locs1 ht hvm hp hB hz hk hS hce hcv hcl => ?_) (fun u t H1 locs1 ht hvm hw hB hz1 hk1 hS => absurd hw id)
  have hB2 := hB.2
  refine vx_out (fun x hx => absurd (hT x hx) id) C.2.2.1 hce hcv hcl (fun t2 ht2 hvm2 => ⟨(), trivial, ⟨hB.1, by rw [ht2, ← ht]; exact hB2.1, va_K.moved hvm2 C.2.2.2.1, hB2.2.2.weaken (fun _ _ _ q => Aw_in C h rfl _ q)⟩, hS.F ht2⟩) hS.2.2 (Nat.le_refl _) (Nat.le_refl _)
/-- arrays of arrays -/
theorem r_aald {n a : Nat} {cA : ClassId} {f : Nat → Option Nat} {i : Int32} {ty : FieldType} {v : Nat} (C : Cx p l s m args meth c cc nL Ts ret own g A) (h : Aw g A s.heap w H locs) (q0 t0 : Nat) (ha : w[q0]? = some (a, .inl (cA, n, .inr (.inr (.inr (.inr f)))))) (ht : (tysG g)[t0]? = some (cA, .array ty)) (hin : inB i n) (hv : f i.toNatClampNeg = some v) (hdg : decode cc pc = .ok (.aaload, 1))
    (kk : W p l e R s m args below meth c H locs cells slots Q (F0 m (pc + 1) ls (.ref v :: rest))) : W p l e R s m args below meth c H locs cells slots Q (F0 m pc ls (.int i :: .ref a :: rest)) := by
  have hlt : i.toNatClampNeg < n := Nat.not_le.mp fun q => hin (Or.inr q)
  have kk : W p l e R s m args below meth c H locs cells slots Q (F0 m (pc + 1) ls (va_rf (f i.toNatClampNeg) :: rest)) := by rw [hv]; exact kk
  exact W.aald (v := va_rf (f i.toNatClampNeg)) (ty := .array ty) C.1.1 C.1.2.1 (h.1 q0 _ ha) ((C.2.2.2.1.2 t0 _ ht).1 n (fun j => va_rf (f j))) rfl (fun q => by cases q) (by show ¬ (i < 0 ∨ (arrV _ _ _).slots.size ≤ _); rw [arrV_size]; exact hin) (by show (arrV _ _ _).slots[_]? = _; rw [arrV_read _ _ hlt]) rfl rfl hdg kk
end RowsX
theorem sw_out4 {x : Int32} (h0 : ¬ x = 0) (h1 : ¬ x = 1) (h2 : ¬ x = 2) (h3 : ¬ x = 3) (h4 : ¬ x = 4) : x.toInt < 0 ∨ 4 < x.toInt := by
  have e : ∀ y : Int32, ¬ x = y → x.toInt ≠ y.toInt := fun y h q => h (Int32.toInt_inj.mp q)
  have a0 := e 0 h0
  have a1 := e 1 h1
  have a2 := e 2 h2
  have a3 := e 3 h3
  have a4 := e 4 h4
  simp at a0 a1 a2 a3 a4
  omega
theorem sw_out2 {x : Int32} (h0 : ¬ x = 0) (h1 : ¬ x = 1) (h2 : ¬ x = 2) : x.toInt < 0 ∨ 2 < x.toInt := by
  have e : ∀ y : Int32, ¬ x = y → x.toInt ≠ y.toInt := fun y h q => h (Int32.toInt_inj.mp q)
  have a0 := e 0 h0
  have a1 := e 1 h1
  have a2 := e 2 h2
  simp at a0 a1 a2
  omega
theorem lk_out1 {x : Int32} {d a b : Int} (h0 : ¬ x = 0) (h1 : ¬ x = 1) : Op.lookupswitch.offset [(0, a), (1, b)] d x.toInt = d := by
  have e : ∀ y : Int32, ¬ x = y → x.toInt ≠ y.toInt := fun y h q => h (Int32.toInt_inj.mp q)
  have a0 := e 0 h0
  have a1 := e 1 h1
  simp at a0 a1
  simp [Op.lookupswitch.offset, Ne.symm a0, Ne.symm a1, a0, a1]

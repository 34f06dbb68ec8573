/-! The pure words: a state is int fields, int rows, long rows, by numbers; loops with fuel -/
abbrev SS : Type := (Nat → Int32) × (Nat → Nat → Int32) × (Nat → Nat → Int64)
def sI (σ : SS) (k : Nat) (v : Int32) : SS := (fun j => bif Nat.beq j k then v else σ.1 j, σ.2.1, σ.2.2)
def sA (σ : SS) (a j : Nat) (v : Int32) : SS := (σ.1, fun b => bif Nat.beq b a then upd (σ.2.1 b) j v else σ.2.1 b, σ.2.2)
def sL (σ : SS) (a j : Nat) (v : Int64) : SS := (σ.1, σ.2.1, fun b => bif Nat.beq b a then vp_updL (σ.2.2 b) j v else σ.2.2 b)
def bnd {α β : Type} (o : Option (α × SS)) (k : α → SS → Option β) : Option β := match o with
  | none => none
  | some x => k x.1 x.2
theorem bd {α β : Type} {o : Option (α × SS)} {k : α → SS → Option β} {R : β} (h : bnd o k = some R) : ∃ (r : α) (t : SS), o = some (r, t) ∧ k r t = some R := by
  cases o with
  | none => cases h
  | some x => exact ⟨x.1, x.2, rfl, h⟩
theorem gd {β : Type} {P : Prop} [Decidable P] {A : Option β} {R : β} (h : (if P then A else none) = some R) : P ∧ A = some R := by
  by_cases hp : P
  · exact ⟨hp, (if_pos hp).symm.trans h⟩
  · rw [if_neg hp] at h
    cases h
abbrev inB (i : Int32) (n : Nat) : Prop := ¬ (i < 0 ∨ n ≤ i.toNatClampNeg)
def loopN {X β : Type} (body : (SS → X → Option β) → SS → X → Option β) : Nat → SS → X → Option β
  | 0 => fun _ _ => none
  | n + 1 => body (loopN body n)
theorem loopW {X β : Type} {body : (SS → X → Option β) → SS → X → Option β} {R : β} {P : SS → X → Prop} (hb : ∀ k : SS → X → Option β, (∀ σ x, k σ x = some R → P σ x) → ∀ σ x, body k σ x = some R → P σ x) : ∀ (n : Nat) (σ : SS) (x : X), loopN body n σ x = some R → P σ x
  | 0, _, _, h => by cases h
  | n + 1, σ, x, h => hb (loopN body n) (loopW hb n) σ x h
/-! A method's surroundings, and the world at a point of it -/
def Cx (p : Program) (s : State) (m : MethodId) (args : Array Value) (meth : Method) (c : Code) (cc : ByteArray) (nL : Nat) (Ts : List Cond) (ret : Option FieldType) (own : String) (D : va_G) (tys : List (ClassId × FieldType)) (A : Nat → Prop) : Prop :=
  CallFix p m c cc nL s args Ts own ∧ meth.sig.returnType = ret ∧ meth.locks = false ∧ va_K D vwCl tys s ∧ ∀ q, s.heap.size ≤ q → A q
def Aw (D : va_G) (A : Nat → Prop) (H0 : Heap) (w : va_W) (H : Heap) (locs : List Loc) : Prop := va_P D vwCl w H ∧ va_D A w ∧ va_S A H0 H locs
def Pw (D : va_G) (tys : List (ClassId × FieldType)) (w : va_W) (av : List Value) (sz : Nat) : Array Value → State → Prop := va_Pc av (fun U => U.heap.size = sz ∧ va_P D vwCl w U.heap ∧ va_K D vwCl tys U ∧ va_D (fun _ => True) w)
def Bw (D : va_G) (tys : List (ClassId × FieldType)) (A : Nat → Prop) (w : va_W) : Unit → State → Prop := fun _ t => va_P D vwCl w t.heap ∧ va_K D vwCl tys t ∧ va_D A w
def Qi (D : va_G) (tys : List (ClassId × FieldType)) (A : Nat → Prop) (w : va_W) (r : Int32) : Array Value → State → Outcome → State → Prop := va_Qi (fun (v : Int32) (_ : Unit) => v = r) (Bw D tys A w) A
def Ql (D : va_G) (tys : List (ClassId × FieldType)) (A : Nat → Prop) (w : va_W) (r : Int64) : Array Value → State → Outcome → State → Prop := va_Ql (fun (v : Int64) (_ : Unit) => v = r) (Bw D tys A w) A
def Qv (D : va_G) (tys : List (ClassId × FieldType)) (A : Nat → Prop) (w : va_W) (_ : Unit) : Array Value → State → Outcome → State → Prop := va_Qv (fun (_ : Unit) => True) (Bw D tys A w) A
theorem Pw_blind {D : va_G} {tys : List (ClassId × FieldType)} {w : va_W} {av : List Value} {sz : Nat} : FrameBlind (Pw D tys w av sz) := by
  intro a U g mk q
  obtain ⟨q0, q1, qP, qK, qD⟩ := q
  exact ⟨q0, q1, qP, va_K.moved (u := U) (U := U.calling g mk a) (Vm.Alike.refl U.vm) qK, qD⟩
theorem ofM {l : Launch} {y : MethodName} {ws ws' : List Cond} {rm : Room} {D : va_G} {tys : List (ClassId × FieldType)} {w : va_W} {av : List Value} {sz : Nat} {Qc : Array Value → State → Outcome → State → Prop} {cc : ByteArray} {nL : Nat} {ret : Option FieldType} {own : String} {mc ms : Nat}
    (hy : plainName y.cls = true) (ho : y.cls = own) (hw : ws = Cond.code y cc nL ret :: ws') (hlen : (lg_sl av).length ≤ nL)
    (body : ∀ (p : Program) (e : Env) (s : State) (m : MethodId) (below : List Frame) (meth : Method) (c : Code), s.heap.size = sz → Cx p s m av.toArray meth c cc nL ws ret own D tys (va_A w sz) → Aw D (va_A w sz) s.heap w s.heap [] → ∀ ls : Array Slot, lv_has ls nL (lv_args 0 av) → W p l e rm s m av.toArray below meth c s.heap [] 0 0 (MQ below Qc av.toArray s mc ms (va_A w sz)) (F0 m 0 ls [])) :
    Met l y ws rm (Pw D tys w av sz) Qc mc ms (va_A w sz) := by
  refine Met.ofW (cc := cc) (maxL := nL) (ret := ret) hy hw ?_
  intro p e s m args below meth c s₁ B hml hv
  obtain ⟨rfl, hsz, hP, hK, hD0⟩ := hv
  have hts := atoms_spec (ws := ws) B.pre
  have hown : s.vm.findClass own = some m.cls := by rw [← ho]; exact findClass_of_methodNamed B.named
  have hl := lv_entry av (n := nL) hlen
  rw [lg_entry_eq]
  exact body p e s m below meth c hsz ⟨⟨B.exec, B.bytes, hml, hown, hts⟩, B.returns, B.notSynchronized, hK, fun q h => Or.inr (by rw [← hsz]; exact h)⟩ ⟨hP, hD0.self, va_S.rf⟩ _ hl
section RowsB
variable {p : Program} {l : Launch} {e : Env} {R : Room} {s : State} {m : MethodId} {args : Array Value} {below : List Frame} {meth : Method} {c : Code} {H : Heap} {locs : List Loc} {cells slots : Nat} {Q : State → Prop}
variable {cc : ByteArray} {pc nL : Nat} {ls : Array Slot} {rest : List Value} {D : va_G} {A : Nat → Prop} {tys : List (ClassId × FieldType)} {w : va_W} {Ts : List Cond} {own : String} {ret : Option FieldType}
theorem r_iret {v : Int32} (C : Cx p s m args meth c cc nL Ts (some .int) own D tys A) (h : Aw D A s.heap w H locs) (hdg : decode cc pc = .ok (.ireturn, 1)) : W p l e R s m args below meth c H locs cells slots (MQ below (Qi D tys A w v) args s cells slots A) (F0 m pc ls [.int v]) := by
  have hlocks := C.2.2.1
  exact W.iret C.1.1 C.1.2.1 C.2.1 (fun t ht hW => ⟨⟨v, (), rfl, rfl, by rw [ht]; exact h.1, va_K.moved hW.alike C.2.2.2.1, h.2.1⟩, h.2.2.F ht⟩) h.2.2.2.2 hdg
theorem r_zret {v : Int32} (C : Cx p s m args meth c cc nL Ts (some .boolean) own D tys A) (h : Aw D A s.heap w H locs) (hn : narrow .boolean (.int v) = .int v) (hdg : decode cc pc = .ok (.ireturn, 1)) : W p l e R s m args below meth c H locs cells slots (MQ below (Qi D tys A w v) args s cells slots A) (F0 m pc ls [.int v]) := by
  have hlocks := C.2.2.1
  exact W.zret C.1.1 C.1.2.1 C.2.1 hn (fun t ht hW => ⟨⟨v, (), rfl, rfl, by rw [ht]; exact h.1, va_K.moved hW.alike C.2.2.2.1, h.2.1⟩, h.2.2.F ht⟩) h.2.2.2.2 hdg
theorem r_lret {v : Int64} (C : Cx p s m args meth c cc nL Ts (some .long) own D tys A) (h : Aw D A s.heap w H locs) (hdg : decode cc pc = .ok (.lreturn, 1)) : W p l e R s m args below meth c H locs cells slots (MQ below (Ql D tys A w v) args s cells slots A) (F0 m pc ls [.long v]) := by
  have hlocks := C.2.2.1
  exact W.lret C.1.1 C.1.2.1 C.2.1 (fun t ht hW => ⟨⟨v, (), rfl, rfl, by rw [ht]; exact h.1, va_K.moved hW.alike C.2.2.2.1, h.2.1⟩, h.2.2.F ht⟩) h.2.2.2.2 hdg
theorem r_vret {u : Unit} (C : Cx p s m args meth c cc nL Ts none own D tys A) (h : Aw D A s.heap w H locs) (hdg : decode cc pc = .ok (.return_, 1)) : W p l e R s m args below meth c H locs cells slots (MQ below (Qv D tys A w u) args s cells slots A) (F0 m pc ls []) := by
  have hlocks := C.2.2.1
  exact W.vret C.1.1 C.1.2.1 C.2.1 (fun t ht hW => ⟨⟨(), rfl, trivial, by rw [ht]; exact h.1, va_K.moved hW.alike C.2.2.2.1, h.2.1⟩, h.2.2.F ht⟩) h.2.2.2.2 hdg
/-- a field is read: its value by its place in the world -/
theorem r_get {C0 ref : String} {T : u_T} {N ci index : Nat} {a : Nat} (C : Cx p s m args meth c cc nL Ts ret own D tys A) (h : Aw D A s.heap w H locs) (hin : ∀ x ∈ u_ws C0 T N, x ∈ Ts) (q0 k : Nat) {fs : List Value} (he : w[q0]? = some (a, .inr (ci, fs))) (hc : vwCl[ci]? = some (C0, T, N)) (hk : k < N) {v : Value} (hv : fs[k]? = some v) (hr : ref = (T k).1) (hl : Cond.fieldLink own index ref (T k).2.1 (T k).2.2.1 ∈ Ts) (hdg : decode cc pc = .ok (.getfield index, 3))
    (kk : W p l e R s m args below meth c H locs cells slots Q (F0 m (pc + 3) ls (v :: rest))) : W p l e R s m args below meth c H locs cells slots Q (F0 m pc ls (.ref a :: rest)) :=
  va_get (D := D) (ci := ci) (v := v) (C := C0) (T := T) (N := N) C.1.1 C.1.2.1 C.1.2.2.2.2 hin C.1.2.2.2.1 C.2.2.2.1 h.1 q0 he hc k hk (C.1.2.2.2.2 _ hl) (fun x h9 => by rw [hr]; exact h9) hv hdg kk
/-- a field is written -/
theorem r_put {C0 ref : String} {T : u_T} {N ci index : Nat} {a : Nat} (C : Cx p s m args meth c cc nL Ts ret own D tys A) (h : Aw D A s.heap w H locs) (hin : ∀ x ∈ u_ws C0 T N, x ∈ Ts) (ty0 : Nat → FieldType) (hty : ∀ k, k < N → parseFieldDescriptor (T k).2.2.1 = some (ty0 k)) (hnm : ∀ a, a < N → ∀ b, b < N → a ≠ b → (T a).2.1 ≠ (T b).2.1) (q0 k : Nat) {fs : List Value} (he : w[q0]? = some (a, .inr (ci, fs))) (hc : vwCl[ci]? = some (C0, T, N)) (hk : k < N) {v : Int32} (hd : parseFieldDescriptor (T k).2.2.1 = some .int) (hf : (T k).2.2.2 = false) (hfl : k < fs.length) (hr : ref = (T k).1) (hl : Cond.fieldLink own index ref (T k).2.1 (T k).2.2.1 ∈ Ts) (hdg : decode cc pc = .ok (.putfield index, 3)) {w1 : va_W} (hw : w.set q0 (a, .inr (ci, fs.set k (.int v))) = w1)
    (kk : ∀ (H1 : Heap) (locs1 : List Loc), Aw D A s.heap w1 H1 locs1 → W p l e R s m args below meth c H1 locs1 cells slots Q (F0 m (pc + 3) ls rest)) : W p l e R s m args below meth c H locs cells slots Q (F0 m pc ls (.int v :: .ref a :: rest)) := by
  subst hw
  exact va_put (D := D) (ci := ci) (v := .int v) (ty := .int) (C := C0) (T := T) (N := N) C.1.1 C.1.2.1 C.1.2.2.2.2 hin ty0 hty hnm C.1.2.2.2.1 C.2.2.2.1 h.1 h.2.1 h.2.2 q0 he hc k hk (C.1.2.2.2.2 _ hl) (fun x h9 => by rw [hr]; exact h9) hf hd rfl rfl hfl hdg (fun H1 locs1 hP hD hS => kk H1 locs1 ⟨hP, hD, hS⟩)
theorem r_iald {n a : Nat} {cA : ClassId} {f : Nat → Int32} {i : Int32} (C : Cx p s m args meth c cc nL Ts ret own D tys A) (h : Aw D A s.heap w H locs) (q0 t0 : Nat) (ha : w[q0]? = some (a, .inl (cA, n, .inl f))) (ht : tys[t0]? = some (cA, .int)) (hin : inB i n) (hdg : decode cc pc = .ok (.iaload, 1))
    (kk : W p l e R s m args below meth c H locs cells slots Q (F0 m (pc + 1) ls (.int (f i.toNatClampNeg) :: rest))) : W p l e R s m args below meth c H locs cells slots Q (F0 m pc ls (.int i :: .ref a :: rest)) := va_iald C.1.1 C.1.2.1 C.2.2.2.1 h.1 q0 t0 ha ht hin hdg kk
theorem r_bald {n a : Nat} {cA : ClassId} {f : Nat → Int32} {i : Int32} (C : Cx p s m args meth c cc nL Ts ret own D tys A) (h : Aw D A s.heap w H locs) (q0 t0 : Nat) (ha : w[q0]? = some (a, .inl (cA, n, .inl f))) (ht : tys[t0]? = some (cA, .byte)) (hin : inB i n) (hdg : decode cc pc = .ok (.baload, 1))
    (kk : W p l e R s m args below meth c H locs cells slots Q (F0 m (pc + 1) ls (.int (f i.toNatClampNeg) :: rest))) : W p l e R s m args below meth c H locs cells slots Q (F0 m pc ls (.int i :: .ref a :: rest)) := va_bald C.1.1 C.1.2.1 C.2.2.2.1 h.1 q0 t0 ha ht hin hdg kk
theorem r_zald {n a : Nat} {cA : ClassId} {f : Nat → Int32} {i : Int32} (C : Cx p s m args meth c cc nL Ts ret own D tys A) (h : Aw D A s.heap w H locs) (q0 t0 : Nat) (ha : w[q0]? = some (a, .inl (cA, n, .inl f))) (ht : tys[t0]? = some (cA, .boolean)) (hin : inB i n) (hdg : decode cc pc = .ok (.baload, 1))
    (kk : W p l e R s m args below meth c H locs cells slots Q (F0 m (pc + 1) ls (.int (f i.toNatClampNeg) :: rest))) : W p l e R s m args below meth c H locs cells slots Q (F0 m pc ls (.int i :: .ref a :: rest)) := va_zald C.1.1 C.1.2.1 C.2.2.2.1 h.1 q0 t0 ha ht hin hdg kk
theorem r_lald {n a : Nat} {cA : ClassId} {f : Nat → Int64} {i : Int32} (C : Cx p s m args meth c cc nL Ts ret own D tys A) (h : Aw D A s.heap w H locs) (q0 t0 : Nat) (ha : w[q0]? = some (a, .inl (cA, n, .inr (.inl f)))) (ht : tys[t0]? = some (cA, .long)) (hin : inB i n) (hdg : decode cc pc = .ok (.laload, 1))
    (kk : W p l e R s m args below meth c H locs cells slots Q (F0 m (pc + 1) ls (.long (f i.toNatClampNeg) :: rest))) : W p l e R s m args below meth c H locs cells slots Q (F0 m pc ls (.int i :: .ref a :: rest)) := va_lald C.1.1 C.1.2.1 C.2.2.2.1 h.1 q0 t0 ha ht hin hdg kk
theorem r_iast {n a : Nat} {cA : ClassId} {f : Nat → Int32} {i x : Int32} {w1 : va_W} (C : Cx p s m args meth c cc nL Ts ret own D tys A) (h : Aw D A s.heap w H locs) (q0 t0 : Nat) (ha : w[q0]? = some (a, .inl (cA, n, .inl f))) (ht : tys[t0]? = some (cA, .int)) (hin : inB i n) (hdg : decode cc pc = .ok (.iastore, 1)) (hw : w.set q0 (a, .inl (cA, n, .inl (upd f i.toNatClampNeg x))) = w1)
    (kk : ∀ (H1 : Heap) (locs1 : List Loc), Aw D A s.heap w1 H1 locs1 → W p l e R s m args below meth c H1 locs1 cells slots Q (F0 m (pc + 1) ls rest)) : W p l e R s m args below meth c H locs cells slots Q (F0 m pc ls (.int x :: .int i :: .ref a :: rest)) := by
  subst hw
  exact va_iast C.1.1 C.1.2.1 C.2.2.2.1 h.1 h.2.1 h.2.2 q0 t0 ha ht hin hdg (fun H1 locs1 hP hD hS => kk H1 locs1 ⟨hP, hD, hS⟩)
theorem r_bast {n a : Nat} {cA : ClassId} {f : Nat → Int32} {i x : Int32} {w1 : va_W} (C : Cx p s m args meth c cc nL Ts ret own D tys A) (h : Aw D A s.heap w H locs) (q0 t0 : Nat) (ha : w[q0]? = some (a, .inl (cA, n, .inl f))) (ht : tys[t0]? = some (cA, .byte)) (hin : inB i n) (hdg : decode cc pc = .ok (.bastore, 1)) (hw : w.set q0 (a, .inl (cA, n, .inl (upd f i.toNatClampNeg (vp_nar .byte x)))) = w1)
    (kk : ∀ (H1 : Heap) (locs1 : List Loc), Aw D A s.heap w1 H1 locs1 → W p l e R s m args below meth c H1 locs1 cells slots Q (F0 m (pc + 1) ls rest)) : W p l e R s m args below meth c H locs cells slots Q (F0 m pc ls (.int x :: .int i :: .ref a :: rest)) := by
  subst hw
  exact va_bast C.1.1 C.1.2.1 C.2.2.2.1 h.1 h.2.1 h.2.2 q0 t0 ha ht hin hdg (fun H1 locs1 hP hD hS => kk H1 locs1 ⟨hP, hD, hS⟩)
theorem r_zast {n a : Nat} {cA : ClassId} {f : Nat → Int32} {i x : Int32} {w1 : va_W} (C : Cx p s m args meth c cc nL Ts ret own D tys A) (h : Aw D A s.heap w H locs) (q0 t0 : Nat) (ha : w[q0]? = some (a, .inl (cA, n, .inl f))) (ht : tys[t0]? = some (cA, .boolean)) (hin : inB i n) (hdg : decode cc pc = .ok (.bastore, 1)) (hw : w.set q0 (a, .inl (cA, n, .inl (upd f i.toNatClampNeg (vp_nar .boolean x)))) = w1)
    (kk : ∀ (H1 : Heap) (locs1 : List Loc), Aw D A s.heap w1 H1 locs1 → W p l e R s m args below meth c H1 locs1 cells slots Q (F0 m (pc + 1) ls rest)) : W p l e R s m args below meth c H locs cells slots Q (F0 m pc ls (.int x :: .int i :: .ref a :: rest)) := by
  subst hw
  exact va_zast C.1.1 C.1.2.1 C.2.2.2.1 h.1 h.2.1 h.2.2 q0 t0 ha ht hin hdg (fun H1 locs1 hP hD hS => kk H1 locs1 ⟨hP, hD, hS⟩)
theorem r_last {n a : Nat} {cA : ClassId} {f : Nat → Int64} {i : Int32} {x : Int64} {w1 : va_W} (C : Cx p s m args meth c cc nL Ts ret own D tys A) (h : Aw D A s.heap w H locs) (q0 t0 : Nat) (ha : w[q0]? = some (a, .inl (cA, n, .inr (.inl f)))) (ht : tys[t0]? = some (cA, .long)) (hin : inB i n) (hdg : decode cc pc = .ok (.lastore, 1)) (hw : w.set q0 (a, .inl (cA, n, .inr (.inl (vp_updL f i.toNatClampNeg x)))) = w1)
    (kk : ∀ (H1 : Heap) (locs1 : List Loc), Aw D A s.heap w1 H1 locs1 → W p l e R s m args below meth c H1 locs1 cells slots Q (F0 m (pc + 1) ls rest)) : W p l e R s m args below meth c H locs cells slots Q (F0 m pc ls (.long x :: .int i :: .ref a :: rest)) := by
  subst hw
  exact va_last C.1.1 C.1.2.1 C.2.2.2.1 h.1 h.2.1 h.2.2 q0 t0 ha ht hin hdg (fun H1 locs1 hP hD hS => kk H1 locs1 ⟨hP, hD, hS⟩)
theorem Aw_in {sz : Nat} (C : Cx p s m args meth c cc nL Ts ret own D tys A) (h : Aw D A s.heap w H locs) (hs : H.size = sz) : ∀ q, va_A w sz q → A q := by
  intro q hq
  rcases hq with ⟨k, e, hk⟩ | hq
  · exact h.2.1.2 k _ hk
  · exact C.2.2.2.2 q (Nat.le_trans h.2.2.1 (by omega))
theorem Aw_pre {As : List Value} (C : Cx p s m args meth c cc nL Ts ret own D tys A) (h : Aw D A s.heap w H locs) : ∀ U : State, U.heap = H → s.WarmedH U.vm → Pw D tys w As H.size As.toArray U := fun U hU hW => ⟨rfl, by rw [hU], by rw [hU]; exact h.1, va_K.moved hW.alike C.2.2.2.1, h.2.1.weaken (fun _ _ _ _ => trivial)⟩
theorem Aw_back {sz : Nat} {w1 : va_W} {t : State} {H1 : Heap} {locs1 : List Loc} (C : Cx p s m args meth c cc nL Ts ret own D tys A) (h : Aw D A s.heap w H locs) (hs : H.size = sz) (ht : t.heap = H1) (hB : Bw D tys (va_A w sz) w1 () t) (hS : va_S A s.heap H1 locs1) : Aw D A s.heap w1 H1 locs1 :=
  ⟨by rw [← ht]; exact hB.1, hB.2.2.weaken (fun _ _ _ q => Aw_in C h hs _ q), hS⟩
/-- a call within the same world: the method of an object that lies at place q0 -/
theorem r_callVi {y : MethodName} {wsY : List Cond} {rmY : Room} {bytes : ByteArray} {maxL n index b mc ms : Nat} {retY : Option FieldType} {As : List Value} {w1 : va_W} {r : Int32} {CN : String} {T : u_T} {N ci : Nat} {fs : List Value} {st : List Value}
    (C : Cx p s m args meth c cc nL Ts ret own D tys A) (h : Aw D A s.heap w H locs) (hl : ls.size = nL) (hM : ∀ sz, Met l y wsY rmY (Pw D tys w (.ref b :: As) sz) (Qi D tys (va_A w sz) w1 r) mc ms (va_A w sz))
    (cw : CallW R s args own CN index y bytes maxL retY wsY rmY mc ms n) (q0 : Nat) (he : w[q0]? = some (b, .inr (ci, fs))) (hc : vwCl[ci]? = some (CN, T, N)) (hn : As.length = n) (hst : st = As.reverse ++ .ref b :: rest) (hW : (rest.map fun v => v.category).sum ≤ 8) (hdg : decode cc pc = .ok (.invokevirtual index, 3)) (hf : cells + mc ≤ R.cells ∧ slots + ms ≤ R.slots)
    (kk : ∀ (H1 : Heap) (locs1 : List Loc), Aw D A s.heap w1 H1 locs1 → W p l e R s m args below meth c H1 locs1 (cells + mc) (slots + ms) Q (F0 m (pc + 3) ls (.int r :: rest))) : W p l e R s m args below meth c H locs cells slots Q (F0 m pc ls st) := by
  refine va_calli (va_runV (As := As) (rest := rest) C.1 (hM H.size) cw ⟨Pw_blind, va_recv C.2.2.2.1 h.1 hc he, Aw_pre C h⟩ rfl hn hl hst (lv_room hW) hdg hf) h.2.2 (fun q _ hq => Aw_in C h rfl q hq) (Aw_in C h rfl) (fun r1 u t H1 locs1 ht hvm hw hB hz1 hk1 hS => ?_)
  cases hw
  exact kk H1 locs1 (Aw_back C h rfl ht hB hS)
theorem r_callVl {y : MethodName} {wsY : List Cond} {rmY : Room} {bytes : ByteArray} {maxL n index b mc ms : Nat} {retY : Option FieldType} {As : List Value} {w1 : va_W} {r : Int64} {CN : String} {T : u_T} {N ci : Nat} {fs : List Value} {st : List Value}
    (C : Cx p s m args meth c cc nL Ts ret own D tys A) (h : Aw D A s.heap w H locs) (hl : ls.size = nL) (hM : ∀ sz, Met l y wsY rmY (Pw D tys w (.ref b :: As) sz) (Ql D tys (va_A w sz) w1 r) mc ms (va_A w sz))
    (cw : CallW R s args own CN index y bytes maxL retY wsY rmY mc ms n) (q0 : Nat) (he : w[q0]? = some (b, .inr (ci, fs))) (hc : vwCl[ci]? = some (CN, T, N)) (hn : As.length = n) (hst : st = As.reverse ++ .ref b :: rest) (hW : (rest.map fun v => v.category).sum ≤ 8) (hdg : decode cc pc = .ok (.invokevirtual index, 3)) (hf : cells + mc ≤ R.cells ∧ slots + ms ≤ R.slots)
    (kk : ∀ (H1 : Heap) (locs1 : List Loc), Aw D A s.heap w1 H1 locs1 → W p l e R s m args below meth c H1 locs1 (cells + mc) (slots + ms) Q (F0 m (pc + 3) ls (.long r :: rest))) : W p l e R s m args below meth c H locs cells slots Q (F0 m pc ls st) := by
  refine va_calll (va_runV (As := As) (rest := rest) C.1 (hM H.size) cw ⟨Pw_blind, va_recv C.2.2.2.1 h.1 hc he, Aw_pre C h⟩ rfl hn hl hst (lv_room hW) hdg hf) h.2.2 (fun q _ hq => Aw_in C h rfl q hq) (Aw_in C h rfl) (fun r1 u t H1 locs1 ht hvm hw hB hz1 hk1 hS => ?_)
  cases hw
  exact kk H1 locs1 (Aw_back C h rfl ht hB hS)
theorem r_callVv {y : MethodName} {wsY : List Cond} {rmY : Room} {bytes : ByteArray} {maxL n index b mc ms : Nat} {retY : Option FieldType} {As : List Value} {w1 : va_W} {r : Unit} {CN : String} {T : u_T} {N ci : Nat} {fs : List Value} {st : List Value}
    (C : Cx p s m args meth c cc nL Ts ret own D tys A) (h : Aw D A s.heap w H locs) (hl : ls.size = nL) (hM : ∀ sz, Met l y wsY rmY (Pw D tys w (.ref b :: As) sz) (Qv D tys (va_A w sz) w1 r) mc ms (va_A w sz))
    (cw : CallW R s args own CN index y bytes maxL retY wsY rmY mc ms n) (q0 : Nat) (he : w[q0]? = some (b, .inr (ci, fs))) (hc : vwCl[ci]? = some (CN, T, N)) (hn : As.length = n) (hst : st = As.reverse ++ .ref b :: rest) (hW : (rest.map fun v => v.category).sum ≤ 8) (hdg : decode cc pc = .ok (.invokevirtual index, 3)) (hf : cells + mc ≤ R.cells ∧ slots + ms ≤ R.slots)
    (kk : ∀ (H1 : Heap) (locs1 : List Loc), Aw D A s.heap w1 H1 locs1 → W p l e R s m args below meth c H1 locs1 (cells + mc) (slots + ms) Q (F0 m (pc + 3) ls rest)) : W p l e R s m args below meth c H locs cells slots Q (F0 m pc ls st) := by
  refine va_callv (va_runV (As := As) (rest := rest) C.1 (hM H.size) cw ⟨Pw_blind, va_recv C.2.2.2.1 h.1 hc he, Aw_pre C h⟩ rfl hn hl hst (lv_room hW) hdg hf) h.2.2 (fun q _ hq => Aw_in C h rfl q hq) (Aw_in C h rfl) (fun u t H1 locs1 ht hvm hw hB hz1 hk1 hS => ?_)
  exact kk H1 locs1 (Aw_back C h rfl ht hB hS)
theorem r_callSi {y : MethodName} {wsY : List Cond} {rmY : Room} {bytes : ByteArray} {maxL n index mc ms : Nat} {retY : Option FieldType} {As : List Value} {w1 : va_W} {r : Int32} {st : List Value}
    (C : Cx p s m args meth c cc nL Ts ret own D tys A) (h : Aw D A s.heap w H locs) (hl : ls.size = nL) (hM : ∀ sz, Met l y wsY rmY (Pw D tys w As sz) (Qi D tys (va_A w sz) w1 r) mc ms (va_A w sz))
    (cw : CallB R s args own index y bytes maxL retY wsY rmY mc ms n ∧ (Cond.static y).before args s = true) (hn : As.length = n) (hst : st = As.reverse ++ rest) (hW : (rest.map fun v => v.category).sum ≤ 8) (hdg : decode cc pc = .ok (.invokestatic index, 3)) (hf : cells + mc ≤ R.cells ∧ slots + ms ≤ R.slots)
    (kk : ∀ (H1 : Heap) (locs1 : List Loc), Aw D A s.heap w1 H1 locs1 → W p l e R s m args below meth c H1 locs1 (cells + mc) (slots + ms) Q (F0 m (pc + 3) ls (.int r :: rest))) : W p l e R s m args below meth c H locs cells slots Q (F0 m pc ls st) := by
  refine va_calli (va_runS (As := As) (rest := rest) C.1 (hM H.size) cw ⟨Pw_blind, Aw_pre C h⟩ rfl hn hl hst (lv_room hW) hdg hf) h.2.2 (fun q _ hq => Aw_in C h rfl q hq) (Aw_in C h rfl) (fun r1 u t H1 locs1 ht hvm hw hB hz1 hk1 hS => ?_)
  cases hw
  exact kk H1 locs1 (Aw_back C h rfl ht hB hS)
end RowsB

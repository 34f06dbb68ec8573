theorem arr_at {ty : FieldType} {args : Array Value} {s : State} (h : (Cond.arrayClass ty).before args s = true) : ∃ c : ClassId, ArrOfT s c ty ∧ s.vm.findClass ("[" ++ ty.toString) = some c := by
  obtain ⟨c, k, comp, h1, h2, h3⟩ := Cond.arrayClass_spec h
  exact ⟨c, fun n z => ⟨(fun q hq => by cases hq), k, h2, comp, h3⟩, h1⟩
theorem arr_at2 {ty : FieldType} {args : Array Value} {s : State} (h : (Cond.arrayOver (.array ty)).before args s = true) : ∃ c : ClassId, ArrOfT s c (.array ty) ∧ s.vm.findClass ("[" ++ (FieldType.array ty).toString) = some c := by
  obtain ⟨comp, c, k, h1, h2, h3, h4, h5⟩ := Jvm.Stand.arrayOver_specB h
  exact ⟨c, fun n z => ⟨(fun q hq => by cases hq), k, h3, comp, h4⟩, h5⟩
theorem str_at {own tx : String} {k : Nat} {args : Array Value} {s : State} (h1 : (Cond.stringRef own k tx).before args s = true) (h2 : (Cond.exactly (.string own k) "java/lang/String").before args s = true) : ∃ a : Nat, vk_R own k tx a s := by
  obtain ⟨a, c, cell, kk, e1, -⟩ := Cond.exactly_spec (args := args) (first := s) (o := none) (s := s) (idx := []) h2
  exact ⟨a, vk_R.of h1 e1⟩
theorem str_eq {own own2 tx : String} {k k2 a : Nat} {args : Array Value} {s : State} (h1 : (Cond.stringRef own k tx).before args s = true) (h2 : (Cond.eq (.string own k) (.string own2 k2)).before args s = true) (h3 : (Term.string own2 k2).eval args s none [] s = some (.ref a)) : vk_R own k tx a s := by
  obtain ⟨y, e1, e2⟩ := Cond.eq_one (args := args) (first := s) (o := none) (s := s) (idx := []) h2
  cases Option.some.inj (h3.symm.trans e2)
  exact vk_R.of h1 e1
theorem str_ne {o n d : String} {A : Nat → Prop} {U : State} {H : Heap} {a1 a2 v1 v2 N1 N2 : Nat} {f1 f2 : Nat → Value} (h1 : va_OF o n d (.ref v1) a1 A U H) (h2 : va_OF o n d (.ref v2) a2 A U H) (t1 : va_T .byte v1 N1 f1 A U H) (t2 : va_T .byte v2 N2 f2 A U H) (j : Nat) (hj1 : j < N1) (hj2 : j < N2) (hne : f1 j ≠ f2 j) : a1 ≠ a2 := by
  intro e
  subst e
  obtain ⟨cf, k, i, f, cell, e1, -, e2, -, e3, -⟩ := h1
  obtain ⟨cf2, k2, i2, g2, cell2, d1, -, d2, -, d3, -⟩ := h2
  cases Option.some.inj (e1.symm.trans d1)
  cases Option.some.inj (e2.symm.trans d2)
  cases Option.some.inj (e3.symm.trans d3)
  obtain ⟨c1, b1, -, -, -, -, b2, -⟩ := t1
  obtain ⟨c2, g1, -, -, -, -, g3, -⟩ := t2
  cases Option.some.inj (b1.symm.trans g1)
  exact hne (Option.some.inj ((b2 j hj1).symm.trans (g3 j hj2)))

set_option maxRecDepth 20000 in
theorem st_return {b : Nat} {s : State} (hs : ∀ c ∈ flatC (Jvm.Cond.and given_1 narrow_1), c.before #[Value.ref b] s = true) : ∃ k v : Nat, (va_O "java/lang/String" k (fun q : Nat => s.heap.size ≤ q) s s.heap ∧ va_OF "java/lang/String" "coder" "B" (.int 0) k (fun q : Nat => s.heap.size ≤ q) s s.heap ∧ va_OF "java/lang/String" "value" "[B" (.ref v) k (fun q : Nat => s.heap.size ≤ q) s s.heap ∧ va_T .byte v 6 (fun j => .int (([114, 101, 116, 117, 114, 110] : List Int32).getD j 0)) (fun q : Nat => s.heap.size ≤ q) s s.heap) ∧ (Term.string "FeastLedgerModel" 129).eval #[Value.ref b] s none [] s = some (.ref k) := by
  obtain ⟨adK, adV, h1, h2⟩ := vk_Sof (args := #[Value.ref b]) (s := s) (N := 1) (tm := fun _ => (.string "FeastLedgerModel" 129)) (len := [6]) (byt := [[114, 101, 116, 117, 114, 110]]) (A := fun q : Nat => s.heap.size ≤ q) (by decide) (fun _ _ => hs _ (by decide +kernel)) (fun _ _ => hs _ (by decide +kernel)) (fun _ _ => hs _ (by decide +kernel)) (fun k hk => match k, hk with | 0, _ => hs _ (by decide +kernel))
    (fun k hk j hj => match k, hk, j, hj with
      | 0, _, 0, _ => hs _ (by decide +kernel)
      | 0, _, 1, _ => hs _ (by decide +kernel)
      | 0, _, 2, _ => hs _ (by decide +kernel)
      | 0, _, 3, _ => hs _ (by decide +kernel)
      | 0, _, 4, _ => hs _ (by decide +kernel)
      | 0, _, 5, _ => hs _ (by decide +kernel))
    (fun i j hi hj e => absurd (show i = j by omega) e) (fun a h1 h2 => absurd h1 (Nat.not_lt.mpr h2))
  exact ⟨adK 0, adV 0, h1.1 0 (by decide), h2 0 (by decide)⟩
set_option maxRecDepth 20000 in
theorem st_loan {b : Nat} {s : State} (hs : ∀ c ∈ flatC (Jvm.Cond.and given_1 narrow_1), c.before #[Value.ref b] s = true) : ∃ k v : Nat, (va_O "java/lang/String" k (fun q : Nat => s.heap.size ≤ q) s s.heap ∧ va_OF "java/lang/String" "coder" "B" (.int 0) k (fun q : Nat => s.heap.size ≤ q) s s.heap ∧ va_OF "java/lang/String" "value" "[B" (.ref v) k (fun q : Nat => s.heap.size ≤ q) s s.heap ∧ va_T .byte v 4 (fun j => .int (([108, 111, 97, 110] : List Int32).getD j 0)) (fun q : Nat => s.heap.size ≤ q) s s.heap) ∧ (Term.string "FeastLedgerModel" 144).eval #[Value.ref b] s none [] s = some (.ref k) := by
  obtain ⟨adK, adV, h1, h2⟩ := vk_Sof (args := #[Value.ref b]) (s := s) (N := 1) (tm := fun _ => (.string "FeastLedgerModel" 144)) (len := [4]) (byt := [[108, 111, 97, 110]]) (A := fun q : Nat => s.heap.size ≤ q) (by decide) (fun _ _ => hs _ (by decide +kernel)) (fun _ _ => hs _ (by decide +kernel)) (fun _ _ => hs _ (by decide +kernel)) (fun k hk => match k, hk with | 0, _ => hs _ (by decide +kernel))
    (fun k hk j hj => match k, hk, j, hj with
      | 0, _, 0, _ => hs _ (by decide +kernel)
      | 0, _, 1, _ => hs _ (by decide +kernel)
      | 0, _, 2, _ => hs _ (by decide +kernel)
      | 0, _, 3, _ => hs _ (by decide +kernel))
    (fun i j hi hj e => absurd (show i = j by omega) e) (fun a h1 h2 => absurd h1 (Nat.not_lt.mpr h2))
  exact ⟨adK 0, adV 0, h1.1 0 (by decide), h2 0 (by decide)⟩
set_option maxRecDepth 20000 in
theorem st_witness {b : Nat} {s : State} (hs : ∀ c ∈ flatC (Jvm.Cond.and given_1 narrow_1), c.before #[Value.ref b] s = true) : ∃ k v : Nat, (va_O "java/lang/String" k (fun q : Nat => s.heap.size ≤ q) s s.heap ∧ va_OF "java/lang/String" "coder" "B" (.int 0) k (fun q : Nat => s.heap.size ≤ q) s s.heap ∧ va_OF "java/lang/String" "value" "[B" (.ref v) k (fun q : Nat => s.heap.size ≤ q) s s.heap ∧ va_T .byte v 7 (fun j => .int (([119, 105, 116, 110, 101, 115, 115] : List Int32).getD j 0)) (fun q : Nat => s.heap.size ≤ q) s s.heap) ∧ (Term.string "FeastLedgerModel" 146).eval #[Value.ref b] s none [] s = some (.ref k) := by
  obtain ⟨adK, adV, h1, h2⟩ := vk_Sof (args := #[Value.ref b]) (s := s) (N := 1) (tm := fun _ => (.string "FeastLedgerModel" 146)) (len := [7]) (byt := [[119, 105, 116, 110, 101, 115, 115]]) (A := fun q : Nat => s.heap.size ≤ q) (by decide) (fun _ _ => hs _ (by decide +kernel)) (fun _ _ => hs _ (by decide +kernel)) (fun _ _ => hs _ (by decide +kernel)) (fun k hk => match k, hk with | 0, _ => hs _ (by decide +kernel))
    (fun k hk j hj => match k, hk, j, hj with
      | 0, _, 0, _ => hs _ (by decide +kernel)
      | 0, _, 1, _ => hs _ (by decide +kernel)
      | 0, _, 2, _ => hs _ (by decide +kernel)
      | 0, _, 3, _ => hs _ (by decide +kernel)
      | 0, _, 4, _ => hs _ (by decide +kernel)
      | 0, _, 5, _ => hs _ (by decide +kernel)
      | 0, _, 6, _ => hs _ (by decide +kernel))
    (fun i j hi hj e => absurd (show i = j by omega) e) (fun a h1 h2 => absurd h1 (Nat.not_lt.mpr h2))
  exact ⟨adK 0, adV 0, h1.1 0 (by decide), h2 0 (by decide)⟩
set_option maxRecDepth 20000 in
theorem st_within {b : Nat} {s : State} (hs : ∀ c ∈ flatC (Jvm.Cond.and given_1 narrow_1), c.before #[Value.ref b] s = true) : ∃ k v : Nat, (va_O "java/lang/String" k (fun q : Nat => s.heap.size ≤ q) s s.heap ∧ va_OF "java/lang/String" "coder" "B" (.int 0) k (fun q : Nat => s.heap.size ≤ q) s s.heap ∧ va_OF "java/lang/String" "value" "[B" (.ref v) k (fun q : Nat => s.heap.size ≤ q) s s.heap ∧ va_T .byte v 6 (fun j => .int (([119, 105, 116, 104, 105, 110] : List Int32).getD j 0)) (fun q : Nat => s.heap.size ≤ q) s s.heap) ∧ (Term.string "FeastLedgerModel" 142).eval #[Value.ref b] s none [] s = some (.ref k) := by
  obtain ⟨adK, adV, h1, h2⟩ := vk_Sof (args := #[Value.ref b]) (s := s) (N := 1) (tm := fun _ => (.string "FeastLedgerModel" 142)) (len := [6]) (byt := [[119, 105, 116, 104, 105, 110]]) (A := fun q : Nat => s.heap.size ≤ q) (by decide) (fun _ _ => hs _ (by decide +kernel)) (fun _ _ => hs _ (by decide +kernel)) (fun _ _ => hs _ (by decide +kernel)) (fun k hk => match k, hk with | 0, _ => hs _ (by decide +kernel))
    (fun k hk j hj => match k, hk, j, hj with
      | 0, _, 0, _ => hs _ (by decide +kernel)
      | 0, _, 1, _ => hs _ (by decide +kernel)
      | 0, _, 2, _ => hs _ (by decide +kernel)
      | 0, _, 3, _ => hs _ (by decide +kernel)
      | 0, _, 4, _ => hs _ (by decide +kernel)
      | 0, _, 5, _ => hs _ (by decide +kernel))
    (fun i j hi hj e => absurd (show i = j by omega) e) (fun a h1 h2 => absurd h1 (Nat.not_lt.mpr h2))
  exact ⟨adK 0, adV 0, h1.1 0 (by decide), h2 0 (by decide)⟩
set_option maxRecDepth 20000 in
set_option maxHeartbeats 4000000 in
theorem geo_start {b : Nat} {s : State} (hts : ∀ w ∈ lw_tbl, w.before #[Value.ref b] s = true) (hgv : (Jvm.Cond.and given_1 narrow_1).before #[Value.ref b] s = true) : ∃ g : Gm, va_K g.1 vwCl (tysG g) s ∧ Ev g (fun q : Nat => s.heap.size ≤ q) s s.heap ∧ NestF s := by
  have hs := flat_of_before _ hgv
  have hts2 : ∀ w ∈ wsL_law, w.before #[Value.ref b] s = true := fun w h => hts w (wsL_law_in w h)
  obtain ⟨c0, iS0, hK0⟩ := u_known (C := RX0) (T := TX0) (N := 4) (n := 4) hts inX0 (hts (.instantiable RX0 4) (by decide +kernel))
  obtain ⟨c1, iS1, hK1⟩ := u_known (C := RX1) (T := TX1) (N := 4) (n := 4) hts inX1 (hts (.instantiable RX1 4) (by decide +kernel))
  obtain ⟨c2, iS2, hK2⟩ := u_known (C := RX2) (T := TX2) (N := 8) (n := 8) hts inX2 (hts (.instantiable RX2 8) (by decide +kernel))
  obtain ⟨c3, iS3, hK3⟩ := u_known (C := RX3) (T := TX3) (N := 5) (n := 5) hts inX3 (hts (.instantiable RX3 5) (by decide +kernel))
  obtain ⟨c4, iS4, hK4⟩ := u_known (C := RX4) (T := TX4) (N := 5) (n := 5) hts inX4 (hts (.instantiable RX4 5) (by decide +kernel))
  obtain ⟨c5, iS5, hK5⟩ := u_known (C := RX5) (T := TX5) (N := 2) (n := 2) hts inX5 (hts (.instantiable RX5 2) (by decide +kernel))
  obtain ⟨c6, iS6, hK6⟩ := u_known (C := RX6) (T := TX6) (N := 11) (n := 11) hts inX6 (hts (.instantiable RX6 11) (by decide +kernel))
  obtain ⟨c7, iS7, hK7⟩ := u_known (C := RX7) (T := TX7) (N := 9) (n := 9) hts inX7 (hts (.instantiable RX7 9) (by decide +kernel))
  obtain ⟨c8, iS8, hK8⟩ := u_known (C := RX8) (T := TX8) (N := 31) (n := 31) hts inX8 (hts (.instantiable RX8 31) (by decide +kernel))
  obtain ⟨dC, dI, hKc⟩ : ∃ (dC : Nat → ClassId) (dI : Nat → Nat → Nat), ∀ (k : Nat) (q : vw_C), vwCl[k]? = some q → u_Kn s q.1 q.2.1 q.2.2 (dC k) (dI k) := by
    refine ⟨fun k => if k = 0 then c0 else if k = 1 then c1 else if k = 2 then c2 else if k = 3 then c3 else if k = 4 then c4 else if k = 5 then c5 else if k = 6 then c6 else if k = 7 then c7 else c8, fun k => if k = 0 then iS0 else if k = 1 then iS1 else if k = 2 then iS2 else if k = 3 then iS3 else if k = 4 then iS4 else if k = 5 then iS5 else if k = 6 then iS6 else if k = 7 then iS7 else iS8, ?_⟩
    intro k q hq
    match k, hq with
    | 0, hq => cases hq; exact hK0
    | 1, hq => cases hq; exact hK1
    | 2, hq => cases hq; exact hK2
    | 3, hq => cases hq; exact hK3
    | 4, hq => cases hq; exact hK4
    | 5, hq => cases hq; exact hK5
    | 6, hq => cases hq; exact hK6
    | 7, hq => cases hq; exact hK7
    | 8, hq => cases hq; exact hK8
    | k + 9, hq => simp [vwCl] at hq
  obtain ⟨a0, A0, B0⟩ := arr_at (ty := .int) (hts (.arrayClass .int) (by decide +kernel))
  obtain ⟨a1, A1, B1⟩ := arr_at (ty := .long) (hts (.arrayClass .long) (by decide +kernel))
  obtain ⟨a2, A2, B2⟩ := arr_at (ty := .boolean) (hts (.arrayClass .boolean) (by decide +kernel))
  obtain ⟨a3, A3, B3⟩ := arr_at (ty := .byte) (hts (.arrayClass .byte) (by decide +kernel))
  obtain ⟨a4, A4, B4⟩ := arr_at2 (ty := .long) (hts (.arrayOver (.array .long)) (by decide +kernel))
  obtain ⟨k0, v0, S0, E0⟩ := st_return hs
  obtain ⟨k1, v1, S1, E1⟩ := st_loan hs
  obtain ⟨k2, v2, S2, E2⟩ := st_witness hs
  obtain ⟨k3, v3, S3, E3⟩ := st_within hs
  obtain ⟨m0, f0⟩ := str_at (hts (.stringRef RX7 68 "blankets are 0 to 1,000,000") (by decide +kernel)) (hs (.exactly (.string "FeastLedger" 68) "java/lang/String") (by decide +kernel))
  obtain ⟨m1, f1⟩ := str_at (hts (.stringRef RX7 78 "there were 12 chiefs") (by decide +kernel)) (hs (.exactly (.string "FeastLedger" 78) "java/lang/String") (by decide +kernel))
  obtain ⟨m2, f2⟩ := str_at (hts (.stringRef RX7 92 "a text within the tape, from a year of 0 to 1,000") (by decide +kernel)) (hs (.exactly (.string "FeastLedger" 92) "java/lang/String") (by decide +kernel))
  obtain ⟨m3, f3⟩ := str_at (hts (.stringRef RX7 95 "there are 20 customs") (by decide +kernel)) (hs (.exactly (.string "FeastLedger" 95) "java/lang/String") (by decide +kernel))
  obtain ⟨m4, f4⟩ := str_at (hts (.stringRef RX7 143 "a worth is 1 to 1,000,000") (by decide +kernel)) (hs (.exactly (.string "FeastLedger" 143) "java/lang/String") (by decide +kernel))
  obtain ⟨m5, f5⟩ := str_at (hts (.stringRef RX7 149 "there were 30 coppers") (by decide +kernel)) (hs (.exactly (.string "FeastLedger" 149) "java/lang/String") (by decide +kernel))
  obtain ⟨m6, f6⟩ := str_at (hts (.stringRef RX7 160 "the copper is that chief's own") (by decide +kernel)) (hs (.exactly (.string "FeastLedger" 160) "java/lang/String") (by decide +kernel))
  obtain ⟨m7, f7⟩ := str_at (hts (.stringRef RX7 168 "of a copper 0 and 1 are told") (by decide +kernel)) (hs (.exactly (.string "FeastLedger" 168) "java/lang/String") (by decide +kernel))
  obtain ⟨m8, f8⟩ := str_at (hts (.stringRef RX7 189 "a chief is not its own heir") (by decide +kernel)) (hs (.exactly (.string "FeastLedger" 189) "java/lang/String") (by decide +kernel))
  obtain ⟨m9, f9⟩ := str_at (hts (.stringRef RX7 201 "0 to 100 years go by, up to the year 1,000") (by decide +kernel)) (hs (.exactly (.string "FeastLedger" 201) "java/lang/String") (by decide +kernel))
  obtain ⟨m10, f10⟩ := str_at (hts (.stringRef RX7 209 "no such debt") (by decide +kernel)) (hs (.exactly (.string "FeastLedger" 209) "java/lang/String") (by decide +kernel))
  obtain ⟨m11, f11⟩ := str_at (hts (.stringRef RX7 228 "of a debt 0 to 4 are told") (by decide +kernel)) (hs (.exactly (.string "FeastLedger" 228) "java/lang/String") (by decide +kernel))
  obtain ⟨m12, f12⟩ := str_at (hts (.stringRef RX7 236 "of a chief 0 to 2 are told") (by decide +kernel)) (hs (.exactly (.string "FeastLedger" 236) "java/lang/String") (by decide +kernel))
  obtain ⟨m13, f13⟩ := str_at (hts (.stringRef RX7 258 "no such chief") (by decide +kernel)) (hs (.exactly (.string "FeastLedger" 258) "java/lang/String") (by decide +kernel))
  obtain ⟨m14, f14⟩ := str_at (hts (.stringRef RX7 260 "that chief died") (by decide +kernel)) (hs (.exactly (.string "FeastLedger" 260) "java/lang/String") (by decide +kernel))
  obtain ⟨m15, f15⟩ := str_at (hts (.stringRef RX7 262 "no such copper") (by decide +kernel)) (hs (.exactly (.string "FeastLedger" 262) "java/lang/String") (by decide +kernel))
  obtain ⟨m16, f16⟩ := str_at (hts (.stringRef RX7 264 "at least 1, from one chief to another one") (by decide +kernel)) (hs (.exactly (.string "FeastLedger" 264) "java/lang/String") (by decide +kernel))
  obtain ⟨m17, f17⟩ := str_at (hts (.stringRef RX7 266 "guests and witnesses are chiefs, each one once") (by decide +kernel)) (hs (.exactly (.string "FeastLedger" 266) "java/lang/String") (by decide +kernel))
  obtain ⟨m18, f18⟩ := str_at (hts (.stringRef RX7 269 "a size is 1 to 100,000") (by decide +kernel)) (hs (.exactly (.string "FeastLedger" 269) "java/lang/String") (by decide +kernel))
  have f19 : vk_R RX6 53 "return" k0 s := str_eq (hts (.stringRef RX6 53 "return") (by decide +kernel)) (hs (.eq (.string "FeastLedger$TextReader" 53) (.string "FeastLedgerModel" 129)) (by decide +kernel)) E0
  have f20 : vk_R RX6 59 "loan" k1 s := str_eq (hts (.stringRef RX6 59 "loan") (by decide +kernel)) (hs (.eq (.string "FeastLedger$TextReader" 59) (.string "FeastLedgerModel" 144)) (by decide +kernel)) E1
  have f21 : vk_R RX6 61 "witness" k2 s := str_eq (hts (.stringRef RX6 61 "witness") (by decide +kernel)) (hs (.eq (.string "FeastLedger$TextReader" 61) (.string "FeastLedgerModel" 146)) (by decide +kernel)) E2
  have f22 : vk_R RX6 92 "within" k3 s := str_eq (hts (.stringRef RX6 92 "within") (by decide +kernel)) (hs (.eq (.string "FeastLedger$TextReader" 92) (.string "FeastLedgerModel" 142)) (by decide +kernel)) E3
  have f23 : vk_R RX8 129 "return" k0 s := vk_R.of (hts (.stringRef RX8 129 "return") (by decide +kernel)) E0
  have f24 : vk_R RX8 142 "within" k3 s := vk_R.of (hts (.stringRef RX8 142 "within") (by decide +kernel)) E3
  have f25 : vk_R RX8 144 "loan" k1 s := vk_R.of (hts (.stringRef RX8 144 "loan") (by decide +kernel)) E1
  have f26 : vk_R RX8 146 "witness" k2 s := vk_R.of (hts (.stringRef RX8 146 "witness") (by decide +kernel)) E2
  have f27 : va_Nw (.declares (Bundle.initS "java/lang/RuntimeException")) s := va_Nw.of rfl (hts _ (by decide +kernel : Cond.declares (Bundle.initS "java/lang/RuntimeException") ∈ lw_tbl))
  have f28 : va_Nw (.declares (Bundle.initS "java/lang/Exception")) s := va_Nw.of rfl (hts _ (by decide +kernel : Cond.declares (Bundle.initS "java/lang/Exception") ∈ lw_tbl))
  have f29 : va_Nw (.declares (Bundle.initS Bundle.tN)) s := va_Nw.of rfl (hts _ (by decide +kernel : Cond.declares (Bundle.initS Bundle.tN) ∈ lw_tbl))
  have f30 : va_Nc "java/lang/IllegalArgumentException" "java/lang/IndexOutOfBoundsException" s := va_Nc.of (hs (.not (.castable "java/lang/IllegalArgumentException" "java/lang/IndexOutOfBoundsException")) (by decide +kernel))
  have f31 : va_Nc "java/lang/IllegalStateException" "java/lang/IndexOutOfBoundsException" s := va_Nc.of (hs (.not (.castable "java/lang/IllegalStateException" "java/lang/IndexOutOfBoundsException")) (by decide +kernel))
  have f32 : va_Nc "java/lang/IllegalStateException" "java/lang/IllegalArgumentException" s := va_Nc.of (hs (.not (.castable "java/lang/IllegalStateException" "java/lang/IllegalArgumentException")) (by decide +kernel))
  have f33 : va_AOA .long s := va_AOA.of (hts (.arrayOver (.array .long)) (by decide +kernel))
  have hA0 : ∀ a : Nat, a < s.heap.size → ¬ (fun q : Nat => s.heap.size ≤ q) a := fun a h1 h2 => absurd h1 (Nat.not_lt.mpr h2)
  refine ⟨((dC, dI), fun _ => 0, fun k => bif Nat.beq k 0 then a0 else bif Nat.beq k 1 then a1 else bif Nat.beq k 2 then a2 else bif Nat.beq k 3 then a3 else a4, fun k => bif Nat.beq k 0 then k0 else bif Nat.beq k 1 then k1 else bif Nat.beq k 2 then k2 else k3, fun k => bif Nat.beq k 0 then v0 else bif Nat.beq k 1 then v1 else bif Nat.beq k 2 then v2 else v3, fun k => bif Nat.beq k 0 then m0 else bif Nat.beq k 1 then m1 else bif Nat.beq k 2 then m2 else bif Nat.beq k 3 then m3 else bif Nat.beq k 4 then m4 else bif Nat.beq k 5 then m5 else bif Nat.beq k 6 then m6 else bif Nat.beq k 7 then m7 else bif Nat.beq k 8 then m8 else bif Nat.beq k 9 then m9 else bif Nat.beq k 10 then m10 else bif Nat.beq k 11 then m11 else bif Nat.beq k 12 then m12 else bif Nat.beq k 13 then m13 else bif Nat.beq k 14 then m14 else bif Nat.beq k 15 then m15 else bif Nat.beq k 16 then m16 else bif Nat.beq k 17 then m17 else bif Nat.beq k 18 then m18 else 0), ⟨hKc, ?_⟩, ⟨?_, ?_, ?_, ?_, ?_, ?_, ?_, ?_, ?_⟩, ?_⟩
  · intro k q hq
    match k, hq with
    | 0, hq => cases hq; exact ⟨A0, B0⟩
    | 1, hq => cases hq; exact ⟨A1, B1⟩
    | 2, hq => cases hq; exact ⟨A2, B2⟩
    | 3, hq => cases hq; exact ⟨A3, B3⟩
    | 4, hq => cases hq; exact ⟨A4, B4⟩
    | k + 5, hq => simp [tysG] at hq
  · refine ⟨fun i hi => match i, hi with
      | 0, _ => S0
      | 1, _ => S1
      | 2, _ => S2
      | 3, _ => S3, ?_⟩
    intro i j hi hj e
    match i, hi, j, hj, e with
    | 0, _, 0, _, _ => rfl
    | 0, _, 1, _, e => exact absurd e (str_ne S0.2.2.1 S1.2.2.1 S0.2.2.2 S1.2.2.2 0 (by decide) (by decide) (by decide))
    | 0, _, 2, _, e => exact absurd e (str_ne S0.2.2.1 S2.2.2.1 S0.2.2.2 S2.2.2.2 0 (by decide) (by decide) (by decide))
    | 0, _, 3, _, e => exact absurd e (str_ne S0.2.2.1 S3.2.2.1 S0.2.2.2 S3.2.2.2 0 (by decide) (by decide) (by decide))
    | 1, _, 0, _, e => exact absurd e (str_ne S1.2.2.1 S0.2.2.1 S1.2.2.2 S0.2.2.2 0 (by decide) (by decide) (by decide))
    | 1, _, 1, _, _ => rfl
    | 1, _, 2, _, e => exact absurd e (str_ne S1.2.2.1 S2.2.2.1 S1.2.2.2 S2.2.2.2 0 (by decide) (by decide) (by decide))
    | 1, _, 3, _, e => exact absurd e (str_ne S1.2.2.1 S3.2.2.1 S1.2.2.2 S3.2.2.2 0 (by decide) (by decide) (by decide))
    | 2, _, 0, _, e => exact absurd e (str_ne S2.2.2.1 S0.2.2.1 S2.2.2.2 S0.2.2.2 0 (by decide) (by decide) (by decide))
    | 2, _, 1, _, e => exact absurd e (str_ne S2.2.2.1 S1.2.2.1 S2.2.2.2 S1.2.2.2 0 (by decide) (by decide) (by decide))
    | 2, _, 2, _, _ => rfl
    | 2, _, 3, _, e => exact absurd e (str_ne S2.2.2.1 S3.2.2.1 S2.2.2.2 S3.2.2.2 3 (by decide) (by decide) (by decide))
    | 3, _, 0, _, e => exact absurd e (str_ne S3.2.2.1 S0.2.2.1 S3.2.2.2 S0.2.2.2 0 (by decide) (by decide) (by decide))
    | 3, _, 1, _, e => exact absurd e (str_ne S3.2.2.1 S1.2.2.1 S3.2.2.2 S1.2.2.2 0 (by decide) (by decide) (by decide))
    | 3, _, 2, _, e => exact absurd e (str_ne S3.2.2.1 S2.2.2.1 S3.2.2.2 S2.2.2.2 3 (by decide) (by decide) (by decide))
    | 3, _, 3, _, _ => rfl
  · exact va_Zof (hts (.laysStatic "java/lang/String" "COMPACT_STRINGS" "Z") (by decide +kernel)) (hts (.initialized "java/lang/String") (by decide +kernel)) (va_eqt (hs (.eq (.static "java/lang/String" "COMPACT_STRINGS" "Z") (.int 1)) (by decide +kernel))) hA0
  · exact va_Zqof (hts (.laysStatic "jdk/internal/util/Preconditions" "SIOOBE_FORMATTER" "Ljava/util/function/BiFunction;") (by decide +kernel)) (hts (.initialized "jdk/internal/util/Preconditions") (by decide +kernel)) (hs (.isRef (.static "jdk/internal/util/Preconditions" "SIOOBE_FORMATTER" "Ljava/util/function/BiFunction;")) (by decide +kernel)) hA0
  · exact vx_Zqof (hts (.laysStatic Bundle.tN "UNASSIGNED_STACK" Bundle.steD) (by decide +kernel)) (hts (.initialized Bundle.tN) (by decide +kernel)) (hs (.isRef (.static Bundle.tN "UNASSIGNED_STACK" Bundle.steD)) (by decide +kernel)) hA0
  · exact vx_Zqof (hts (.laysStatic Bundle.tN "SUPPRESSED_SENTINEL" Bundle.listD) (by decide +kernel)) (hts (.initialized Bundle.tN) (by decide +kernel)) (hs (.isRef (.static Bundle.tN "SUPPRESSED_SENTINEL" Bundle.listD)) (by decide +kernel)) hA0
  · exact va_Nw.of rfl (hts (.castable "java/lang/IllegalArgumentException" "java/lang/IllegalArgumentException") (by decide +kernel))
  · exact va_Nw.of rfl (hts (.castable "java/lang/IllegalStateException" "java/lang/IllegalStateException") (by decide +kernel))
  · exact va_Nw.of rfl (hts (.castable "java/lang/IndexOutOfBoundsException" "java/lang/IndexOutOfBoundsException") (by decide +kernel))
  · exact ⟨f0, f1, f2, f3, f4, f5, f6, f7, f8, f9, f10, f11, f12, f13, f14, f15, f16, f17, f18, f19, f20, f21, f22, f23, f24, f25, f26, f27, f28, f29, f30, f31, f32, f33⟩
  · exact ⟨va_Nw.of rfl (hts (.methodLinkNest RX7 9 yX5_init "FeastLedger") (by decide +kernel)), va_Nw.of rfl (hts (.methodLinkNest RX7 18 yX6_init "FeastLedger") (by decide +kernel)), va_Nw.of rfl (hts (.methodLinkNest RX7 25 yX2_init "FeastLedger") (by decide +kernel)), va_Nw.of rfl (hts (.methodLinkNest RX7 32 yX0_init "FeastLedger") (by decide +kernel)), va_Nw.of rfl (hts (.methodLinkNest RX7 39 yX3_init "FeastLedger") (by decide +kernel)), va_Nw.of rfl (hts (.methodLinkNest RX7 46 yX1_init "FeastLedger") (by decide +kernel)), va_Nw.of rfl (hts (.methodLinkNest RX7 53 yX4_init "FeastLedger") (by decide +kernel))⟩

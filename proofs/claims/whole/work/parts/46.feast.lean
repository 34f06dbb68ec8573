/-! feast -/
def dS (al : Nat → Nat) (u host : Nat) : Nat → Nat
  | 0 => if al host = 0 then 1 else 0
  | k + 1 => if u.testBit k = true ∧ al k = 0 then 1 else dS al u host k
theorem dS_s (al : Nat → Nat) (u host k : Nat) : dS al u host (k + 1) = if u.testBit k = true ∧ al k = 0 then 1 else dS al u host k := rfl
theorem dS_le (al : Nat → Nat) (u host k : Nat) : dS al u host k ≤ 1 := by
  induction k with
  | zero => unfold dS; split <;> omega
  | succ k ih => rw [dS_s]; split <;> omega
theorem dS_mono {al : Nat → Nat} {u host k : Nat} (h : dS al u host k ≠ 0) : ∀ m, dS al u host (k + m) ≠ 0 := by
  intro m
  induction m with
  | zero => exact h
  | succ m ih =>
    show dS al u host (k + m + 1) ≠ 0
    rw [dS_s]
    split
    · omega
    · exact ih
def tkS (g u sz sh : Nat) : Nat → Nat
  | 0 => 0
  | k + 1 => tkS g u sz sh k + (if u.testBit k = true then (if g.testBit k = true then sz else sh) else 0)
theorem tkS_s (g u sz sh k : Nat) : tkS g u sz sh (k + 1) = tkS g u sz sh k + (if u.testBit k = true then (if g.testBit k = true then sz else sh) else 0) := rfl
theorem tkS_mono (g u sz sh k : Nat) : ∀ m, tkS g u sz sh k ≤ tkS g u sz sh (k + m) := by
  intro m
  induction m with
  | zero => exact Nat.le_refl _
  | succ m ih =>
    show _ ≤ tkS g u sz sh (k + m + 1)
    rw [tkS_s]
    omega
theorem tkS_le {g u sz sh : Nat} (h1 : sz ≤ 100000) (h2 : sh ≤ 100000) (k : Nat) : tkS g u sz sh k ≤ 100000 * k := by
  induction k with
  | zero => exact Nat.le_refl _
  | succ k ih =>
    rw [tkS_s]
    have : (if u.testBit k = true then (if g.testBit k = true then sz else sh) else 0) ≤ 100000 := by
      split
      · split <;> omega
      · omega
    omega
theorem tkS_pop {g w : Nat} (hd : ∀ c, ¬ (g.testBit c = true ∧ w.testBit c = true)) (sz sh k : Nat) : tkS g (g ||| w) sz sh k = popS g k * sz + popS w k * sh := by
  induction k with
  | zero => simp [tkS, popS]
  | succ k ih =>
    rw [tkS_s, ih, Nat.testBit_or]
    show _ = (popS g k + (if g.testBit k = true then 1 else 0)) * sz + (popS w k + (if w.testBit k = true then 1 else 0)) * sh
    have := hd k
    cases h1 : g.testBit k <;> cases h2 : w.testBit k
    · simp
    · simp [Nat.add_mul]
      omega
    · simp [Nat.add_mul]
      omega
    · exact absurd ⟨h1, h2⟩ this
def mdS (f : Nat → Nat) (g : Nat) : Nat → Nat
  | 0 => 0
  | k + 1 => mdS f g k + (if g.testBit k = true ∧ f k ≠ 0 then 1 else 0)
theorem mdS_s (f : Nat → Nat) (g k : Nat) : mdS f g (k + 1) = mdS f g k + (if g.testBit k = true ∧ f k ≠ 0 then 1 else 0) := rfl
theorem mdS_le (f : Nat → Nat) (g k : Nat) : mdS f g k ≤ k := by
  induction k with
  | zero => exact Nat.le_refl _
  | succ k ih => rw [mdS_s]; split <;> omega
theorem mdS_mono (f : Nat → Nat) (g k : Nat) : ∀ m, mdS f g k ≤ mdS f g (k + m) := by
  intro m
  induction m with
  | zero => exact Nat.le_refl _
  | succ m ih =>
    show _ ≤ mdS f g (k + m + 1)
    rw [mdS_s]
    omega
theorem X_share {σ : SS} {a : AS} {fu : Nat} (h1 : RX σ a) (h4 : Inv a) : f_X2_witnessShare fu σ (frc a) = some (nI (ctm a 5)) := by
  rcases frc_cases h4 with ⟨e1, e⟩ | ⟨j, hj, hj2, e1, e⟩
  · rw [e1, f_X2_witnessShare, if_pos rfl, e 5]
    rfl
  · obtain ⟨c1, c2, c3, c4, c5, c6⟩ := h1.2.2.1 j hj
    have e3 : ctm a 5 = a.2 8 j := e 5
    rw [e1, f_X2_witnessShare, if_neg (q_m1 (by omega)), if_pos ((q_in (by omega)).mpr hj2), q_cl (by omega), c4, e3]
theorem chk_X {σ : SS} {a : AS} {fu u host : Nat} (h1 : RX σ a) (h4 : Inv a) (hu : u < 4096) : ∀ m i fuel, i + m = a.1 0 → m < fuel → dS (a.2 1) u host i = 0 → loopN (fun k82 σ x => f_X7_checkFeast_82 fu k82 σ x.1 x.2) fuel σ (nI u, nI i) = some (if dS (a.2 1) u host (a.1 0) = 0 then .inl () else .inr 1) := by
  have hn : a.1 0 ≤ 12 := h4.1
  intro m
  induction m with
  | zero =>
    intro i fuel hi hf hz
    obtain ⟨f, rfl⟩ : ∃ f, fuel = f + 1 := ⟨fuel - 1, by omega⟩
    have hii : i = a.1 0 := by omega
    show f_X7_checkFeast_82 fu _ σ (nI u) (nI i) = _
    rw [← hii, if_pos hz, f_X7_checkFeast_82, h1.1.1, hii, if_pos ((q_le (by omega) (by omega)).mpr (Nat.le_refl _))]
  | succ m ih =>
    intro i fuel hi hf hz
    obtain ⟨f, rfl⟩ : ∃ f, fuel = f + 1 := ⟨fuel - 1, by omega⟩
    have ai := h4.2.2.2.2.2.2.2.2.2.2 i
    show f_X7_checkFeast_82 fu (loopN _ f) σ (nI u) (nI i) = _
    rw [f_X7_checkFeast_82, h1.1.1, if_neg (fun z => by have := (q_le (by omega) (by omega)).mp z; omega), X_isIn hu (by omega), bnd1_some]
    simp only [f_X7_checkFeast_110, q_inc]
    by_cases b : u.testBit i = true
    · have e1 : (if u.testBit i = true then (1 : Int32) else 0) = 1 := if_pos b
      rw [e1, if_neg i10]
      by_cases c : a.2 1 i = 0
      · have hne : dS (a.2 1) u host (i + 1 + m) ≠ 0 := dS_mono (by rw [dS_s, if_pos ⟨b, c⟩]; omega) m
        rw [show i + 1 + m = a.1 0 by omega] at hne
        rw [lv_no (by omega) (by rw [(h1.2.1 i (by omega)).2, c]), bndX0_no, if_neg hne]
      · rw [lv_ok (by omega) (h1.2.1 i (by omega)).2 ai c, bndX0_ok]
        exact ih (i + 1) f (by omega) (by omega) (by rw [dS_s, if_neg (fun z => c z.2)]; exact hz)
    · have e1 : (if u.testBit i = true then (1 : Int32) else 0) = 0 := if_neg b
      rw [e1, if_pos rfl]
      exact ih (i + 1) f (by omega) (by omega) (by rw [dS_s, if_neg (fun z => b z.1)]; exact hz)
def mfl (a : AS) (host sz c : Nat) : Nat := ask (ctm a 0) (ctm a 1) (sz - owA a host c)
theorem X_mdF {σ : SS} {a : AS} {fu g host sz : Nat} (hfu : 1000 ≤ fu) (h1 : RX σ a) (h4 : Inv a) (hg : g < 4096) (hh : host < a.1 0) (hs : sz ≤ 100000) : f_X7_debtsMadeByFeast fu σ (nI host) (nI g) (nI sz) = some (nI (mdS (mfl a host sz) g (a.1 0))) := by
  have hn : a.1 0 ≤ 12 := h4.1
  unfold f_X7_debtsMadeByFeast f_X7_debtsMadeByFeast_L6
  refine up_loop (X := Int32 × Int32 × Int32 × Int32 × Int32) (a.1 0) (fun _ => σ) (fun i => (nI host, nI g, nI sz, nI (mdS (mfl a host sz) g i), nI i)) _ (fun i k hi => ?_) (fun k => ?_) fu (by omega)
  · show f_X7_debtsMadeByFeast_6 fu k σ (nI host) (nI g) (nI sz) (nI (mdS (mfl a host sz) g i)) (nI i) = k σ (nI host, nI g, nI sz, nI (mdS (mfl a host sz) g (i + 1)), nI (i + 1))
    rw [f_X7_debtsMadeByFeast_6, h1.1.1, if_neg (fun z => by have := (q_le (by omega) (by omega)).mp z; omega), X_isIn hg (by omega), bnd1_some, X_makes hfu h1 h4 hh hi (by omega), bnd1_some, mdS_s]
    simp only [f_X7_debtsMadeByFeast_40, q_inc]
    by_cases b : g.testBit i = true
    · have e1 : (if g.testBit i = true then (1 : Int32) else 0) = 1 := if_pos b
      rw [e1, if_neg i10]
      by_cases z : mfl a host sz i = 0
      · have e2 : (if ask (ctm a 0) (ctm a 1) (sz - owA a host i) = 0 then (0 : Int32) else 1) = 0 := if_pos z
        rw [e2, if_neg (fun y => y.2 z), nI0a]
        rfl
      · have e2 : (if ask (ctm a 0) (ctm a 1) (sz - owA a host i) = 0 then (0 : Int32) else 1) = 1 := if_neg z
        rw [e2, if_pos ⟨b, z⟩, q_inc]
    · have e1 : (if g.testBit i = true then (1 : Int32) else 0) = 0 := if_neg b
      rw [e1, if_pos rfl, if_neg (fun y => b y.1)]
      rfl
  · show f_X7_debtsMadeByFeast_6 fu k σ (nI host) (nI g) (nI sz) _ (nI (a.1 0)) = _
    rw [f_X7_debtsMadeByFeast_6, h1.1.1, if_pos ((q_le (by omega) (by omega)).mpr (Nat.le_refl _))]
theorem M_fe1 {τ : SS} {a : AS} {fu g w host sz : Nat} (hfu : 1000 ≤ fu) (hM : RM τ a) (h4 : Inv a) (h5 : InvB a) (hg : g < 4096) (hw : w < 4096) (hh : host < a.1 0) (hs : sz ≤ 100000) : f_X8_feast_L125 fu τ (nI host, nI g, nI sz, nI w, τ.2.1 3 host, 0, 0, 0) = if dS (a.2 1) (g ||| w) host (a.1 0) = 0 then (if tkS g (g ||| w) sz (ctm a 5) (a.1 0) ≤ a.2 0 host then (if a.1 4 + mdS (mfl a host sz) g (a.1 0) ≤ 400 then f_X8_feast_L293 fu (sA τ 1 host (nI (a.2 0 host - tkS g (g ||| w) sz (ctm a 5) (a.1 0)))) (nI host, nI g, nI sz, nI w, lN (tkS g (g ||| w) sz (ctm a 5) (a.1 0)), 0) else some (-2, τ)) else some (-1, τ)) else some (0, sI τ 0 3) := by
  have hn : a.1 0 ≤ 12 := h4.1
  have hd : a.1 4 ≤ 400 := h4.2.2.2.2.1
  have hgw : g ||| w < 4096 := Nat.or_lt_two_pow (n := 12) hg hw
  have hsh : ctm a 5 ≤ 1000 := ctm_le h4 (by omega)
  have t5 : f_X8_term fu τ (5 : Int32) = some (nI (ctm a 5)) := M_term (k := 5) hfu hM h4 (by omega)
  have e0 : τ.2.1 3 host = nI (dS (a.2 1) (g ||| w) host 0) := by
    rw [(hM.2.1 host (by omega)).2]
    unfold dS
    by_cases z : a.2 1 host = 0
    · rw [if_pos ⟨hh, z⟩, if_pos z]
      rfl
    · rw [if_neg (fun y => z y.2), if_neg z]
      rfl
  rw [e0]
  unfold f_X8_feast_L125
  refine up_loop (X := Int32 × Int32 × Int32 × Int32 × Int32 × Int64 × Int32 × Int32) (a.1 0) (fun _ => τ) (fun i => (nI host, nI g, nI sz, nI w, nI (dS (a.2 1) (g ||| w) host i), lN (tkS g (g ||| w) sz (ctm a 5) i), nI (mdS (mfl a host sz) g i), nI i)) _ (fun i k hi => ?_) (fun k => ?_) fu (by omega)
  · show f_X8_feast_125 fu k τ (nI host) (nI g) (nI sz) (nI w) (nI (dS (a.2 1) (g ||| w) host i)) (lN (tkS g (g ||| w) sz (ctm a 5) i)) (nI (mdS (mfl a host sz) g i)) (nI i) = k τ (nI host, nI g, nI sz, nI w, nI (dS (a.2 1) (g ||| w) host (i + 1)), lN (tkS g (g ||| w) sz (ctm a 5) (i + 1)), nI (mdS (mfl a host sz) g (i + 1)), nI (i + 1))
    have hA := ask_le (ctm a 0) (ctm a 1) (sz - owA a host i)
    have hdl := dS_le (a.2 1) (g ||| w) host i
    have inn : inB (nI i) 12 := (q_in (by omega)).mpr (by omega)
    have e193 : ∀ (d : Int32) (v : Nat), f_X8_feast_193 fu k τ (nI host) (nI g) (nI sz) (nI w) d (nI (mdS (mfl a host sz) g i)) (nI i) (lN v) (lN (tkS g (g ||| w) sz (ctm a 5) i)) = k τ (nI host, nI g, nI sz, nI w, d, lN (tkS g (g ||| w) sz (ctm a 5) i + v), nI (mdS (mfl a host sz) g (i + 1)), nI (i + 1)) := by
      intro d v
      rw [f_X8_feast_193, M_isIn hg (by omega), bnd1_some, nI_l (by omega), M_made hfu hM h4 hh hi (by omega), bnd1_some, mdS_s]
      simp only [f_X8_feast_225, f_X8_feast_226, f_X8_feast_229, q_inc, lN_add, nI0a]
      by_cases b : g.testBit i = true
      · have e1 : (if g.testBit i = true then (1 : Int32) else 0) = 1 := if_pos b
        rw [e1, if_neg i10]
        by_cases z : mfl a host sz i = 0
        · rw [if_pos ((lc0 (by omega)).mpr (by unfold mfl at z; omega)), if_neg (fun y => y.2 z)]
          rfl
        · rw [if_neg (fun y => by have := (lc_le (b := 0) (by omega) (by omega)).mp y; unfold mfl at z; omega), if_pos ⟨b, z⟩]
      · have e1 : (if g.testBit i = true then (1 : Int32) else 0) = 0 := if_neg b
        rw [e1, if_pos rfl, if_neg (fun y => b y.1)]
        rfl
    have e169 : ∀ d : Int32, f_X8_feast_169 fu k τ (nI host) (nI g) (nI sz) (nI w) (lN (tkS g (g ||| w) sz (ctm a 5) i)) (nI (mdS (mfl a host sz) g i)) (nI i) d = k τ (nI host, nI g, nI sz, nI w, d, lN (tkS g (g ||| w) sz (ctm a 5) i + (if g.testBit i = true then sz else ctm a 5)), nI (mdS (mfl a host sz) g (i + 1)), nI (i + 1)) := by
      intro d
      rw [f_X8_feast_169, M_isIn hg (by omega), bnd1_some, t5, bnd1_some, nI_l (by omega), nI_l (by omega), e193, e193]
      by_cases b : g.testBit i = true
      · have e1 : (if g.testBit i = true then (1 : Int32) else 0) = 1 := if_pos b
        rw [e1, if_neg i10, if_pos b]
      · have e1 : (if g.testBit i = true then (1 : Int32) else 0) = 0 := if_neg b
        rw [e1, if_pos rfl, if_neg b]
    rw [f_X8_feast_125, hM.1.1, if_neg (fun z => by have := (q_le (by omega) (by omega)).mp z; omega), bs_or, M_isIn hgw (by omega), bnd1_some, if_pos inn, q_cl (by omega), (hM.2.1 i (by omega)).2, dS_s, tkS_s, f_X8_feast_164, e169, e169, f_X8_feast_229, q_inc]
    by_cases b : (g ||| w).testBit i = true
    · have e1 : (if (g ||| w).testBit i = true then (1 : Int32) else 0) = 1 := if_pos b
      rw [e1, if_neg i10, if_pos b]
      by_cases c : a.2 1 i = 0
      · have e2 : (if i < a.1 0 ∧ a.2 1 i = 0 then (1 : Int32) else 0) = 1 := if_pos ⟨hi, c⟩
        have eD : (if (g ||| w).testBit i = true ∧ a.2 1 i = 0 then 1 else dS (a.2 1) (g ||| w) host i) = 1 := if_pos ⟨b, c⟩
        rw [e2, if_neg i10, eD]
        simp only [ite_self]
        rfl
      · have e2 : (if i < a.1 0 ∧ a.2 1 i = 0 then (1 : Int32) else 0) = 0 := if_neg (fun z => c z.2)
        have eD : (if (g ||| w).testBit i = true ∧ a.2 1 i = 0 then 1 else dS (a.2 1) (g ||| w) host i) = dS (a.2 1) (g ||| w) host i := if_neg (fun z => c z.2)
        rw [e2, eD]
        by_cases y : dS (a.2 1) (g ||| w) host i = 0
        · rw [y, if_pos (show nI 0 = (0 : Int32) from rfl), if_pos rfl]
          rfl
        · rw [show dS (a.2 1) (g ||| w) host i = 1 by omega, if_neg (show ¬ nI 1 = (0 : Int32) by decide)]
          rfl
    · have e1 : (if (g ||| w).testBit i = true then (1 : Int32) else 0) = 0 := if_neg b
      have bg : ¬ g.testBit i = true := by
        intro z
        apply b
        rw [Nat.testBit_or, z]
        rfl
      rw [e1, if_pos rfl, if_neg b, if_neg (fun z => b z.1), mdS_s, if_neg (fun z => bg z.1)]
      rfl
  · show f_X8_feast_125 fu k τ (nI host) (nI g) (nI sz) (nI w) (nI (dS (a.2 1) (g ||| w) host (a.1 0))) (lN (tkS g (g ||| w) sz (ctm a 5) (a.1 0))) (nI (mdS (mfl a host sz) g (a.1 0))) (nI (a.1 0)) = _
    have hdl := dS_le (a.2 1) (g ||| w) host (a.1 0)
    have htk := tkS_le (g := g) (u := g ||| w) (sz := sz) (sh := ctm a 5) hs (by omega) (a.1 0)
    have hmd := mdS_le (mfl a host sz) g (a.1 0)
    have hbh := InvB_one h5 h4 (show host < 12 by omega)
    rw [f_X8_feast_125, hM.1.1, if_pos ((q_le (by omega) (by omega)).mpr (Nat.le_refl _))]
    by_cases z : dS (a.2 1) (g ||| w) host (a.1 0) = 0
    · rw [z, if_pos rfl, show nI 0 = (0 : Int32) from rfl, b_ok, bnd_some, if_pos rfl, if_pos ((q_in (by omega)).mpr (by omega)), q_cl (by omega), (hM.2.1 host (by omega)).1, nI_l (by omega), hM.1.2.2.2.2.1, q_add, lN_i]
      by_cases c : tkS g (g ||| w) sz (ctm a 5) (a.1 0) ≤ a.2 0 host
      · rw [if_pos c, if_pos ((lc_le (by omega) (by omega)).mpr c), q_sub c]
        by_cases d : a.1 4 + mdS (mfl a host sz) g (a.1 0) ≤ 400
        · rw [if_pos d, if_pos (show nI (a.1 4 + mdS (mfl a host sz) g (a.1 0)) ≤ (400 : Int32) from (q_le (b := 400) (by omega) (by omega)).mpr d)]
        · rw [if_neg d, if_neg (show ¬ nI (a.1 4 + mdS (mfl a host sz) g (a.1 0)) ≤ (400 : Int32) from fun y => d ((q_le (b := 400) (by omega) (by omega)).mp y))]
      · rw [if_neg c, if_neg (fun y => c ((lc_le (by omega) (by omega)).mp y))]
    · rw [if_neg z, show dS (a.2 1) (g ||| w) host (a.1 0) = 1 by omega, show nI 1 = (1 : Int32) from rfl, b_no, bnd_some, if_neg i10]
theorem EQ_0 {a b : AS} {i u v : Nat} (h : EQ a b) : EQ (aA a 0 i u) (aA b 0 i v) := ⟨h.1, fun r r0 r1 => by
  funext c
  rw [aA_2, aA_2, if_neg (fun z => r0 z.1), if_neg (fun z => r0 z.1), h.2 r r0 r1]⟩
theorem EQ_0l {a b : AS} {i u : Nat} (h : EQ a b) : EQ (aA a 0 i u) b := ⟨h.1, fun r r0 r1 => by
  funext c
  rw [aA_2, if_neg (fun z => r0 z.1), h.2 r r0 r1]⟩
theorem mv_host {a : AS} {i j n : Nat} (hij : i ≠ j) : (mvB a i j n).2 0 i = a.2 0 i - n := by
  unfold mvB
  rw [aA_2, if_neg (fun z => hij z.2), aA_2, if_pos ⟨rfl, rfl⟩]
theorem mv_other {a : AS} {i j n c : Nat} (h1 : c ≠ i) : (mvB a i j n).2 0 c = (aA a 0 j (a.2 0 j + n)).2 0 c := by
  unfold mvB
  rw [aA_2, aA_2, aA_2]
  by_cases e : c = j
  · rw [if_pos ⟨rfl, e⟩, if_pos ⟨rfl, e⟩]
  · rw [if_neg (fun z => e z.2), if_neg (fun z => h1 z.2), if_neg (fun z => e z.2)]
/-- what holds between the class's state and the reference's within the feast -/
def FI (a b : AS) (host H rem : Nat) : Prop := a.2 0 host = H + rem ∧ b.2 0 host = H ∧ (∀ c, c ≠ host → b.2 0 c = a.2 0 c) ∧ b.2 14 = a.2 14
theorem fe_both {fu g w host sz sh H n M : Nat} {f : Nat → Nat} (hfu : 1000 ≤ fu) (hg : g < 4096) (hw : w < 4096) (hgh : ¬ (g ||| w).testBit host = true) (hs : sz ≤ 100000) (hs1 : sh ≤ 1000) (hM400 : M = mdS f g n) (total : Int32) (T : Nat) (hT : T = tkS g (g ||| w) sz sh n) (tL : Int64) (htL : tL.toInt32 = total) : ∀ (m i fuel : Nat) (σ τ : SS) (a b : AS), RG σ τ a b → FI a b host H (T - tkS g (g ||| w) sz sh i) → a.1 0 = n → host < n → i + m = n → m < fuel → a.1 4 + (M - mdS f g i) ≤ 400 → ctm a 5 = sh → (∀ c, i ≤ c → c < n → mfl a host sz c = f c) → ∃ (σ' τ' : SS), loopN (fun k85 σ x => f_X7_feast_85 fu k85 σ x.1 x.2.1 x.2.2.1 x.2.2.2.1 x.2.2.2.2.1 x.2.2.2.2.2.1 x.2.2.2.2.2.2) fuel σ (nI host, nI g, nI sz, nI w, nI sh, total, nI i) = some (.inl total, σ') ∧ loopN (fun k293 σ x => f_X8_feast_293 fu k293 σ x.1 x.2.1 x.2.2.1 x.2.2.2.1 x.2.2.2.2.1 x.2.2.2.2.2) fuel τ (nI host, nI g, nI sz, nI w, tL, nI i) = some (total, τ') ∧ Rel σ' τ' ∧ τ'.1 0 = τ.1 0 := by
  intro m
  induction m with
  | zero =>
    intro i fuel σ τ a b hR hF hn hh hi hf h400 hsh hmf
    obtain ⟨f0, rfl⟩ : ∃ f, fuel = f + 1 := ⟨fuel - 1, by omega⟩
    obtain ⟨h1, hM, h3, h4, h5, h6, hE⟩ := hR
    have hn12 : a.1 0 ≤ 12 := h4.1
    have hb0 : b.1 0 = a.1 0 := by rw [hE.1]
    have hii : i = n := by omega
    have eb : b = a := by
      refine EQ_same hE ?_ hF.2.2.2
      funext c
      by_cases e : c = host
      · rw [e, hF.2.1, hF.1, hT, hii]
        omega
      · exact hF.2.2.1 c e
    refine ⟨σ, τ, ?_, ?_, ⟨a, h1, by rw [← eb]; exact hM, h3, h4, h5⟩, rfl⟩
    · show f_X7_feast_85 fu _ σ (nI host) (nI g) (nI sz) (nI w) (nI sh) total (nI i) = _
      rw [f_X7_feast_85, h1.1.1, hn, hii, if_pos ((q_le (by omega) (by omega)).mpr (Nat.le_refl _))]
    · show f_X8_feast_293 fu _ τ (nI host) (nI g) (nI sz) (nI w) tL (nI i) = _
      rw [f_X8_feast_293, hM.1.1, hb0, hn, hii, if_pos ((q_le (by omega) (by omega)).mpr (Nat.le_refl _)), htL]
  | succ m ih =>
    intro i fuel σ τ a b hR hF hn hh hi hf h400 hsh hmf
    obtain ⟨f0, rfl⟩ : ∃ f, fuel = f + 1 := ⟨fuel - 1, by omega⟩
    have hR0 := hR
    obtain ⟨h1, hM, h3, h4, h5, h6, hE⟩ := hR
    have hn12 : a.1 0 ≤ 12 := h4.1
    have hb0 : b.1 0 = a.1 0 := by rw [hE.1]
    have inn : inB (nI i) 12 := (q_in (by omega)).mpr (by omega)
    have inh : inB (nI host) 12 := (q_in (by omega)).mpr (by omega)
    have hgw : g ||| w < 4096 := Nat.or_lt_two_pow (n := 12) hg hw
    have t5 : f_X8_term fu τ (5 : Int32) = some (nI sh) := by
      have := M_term (k := 5) hfu hM h6 (by omega)
      rw [EQ_ct hE (by omega), hsh] at this
      exact this
    have htk := tkS_mono g (g ||| w) sz sh (i + 1) m
    rw [show i + 1 + m = n by omega, ← hT] at htk
    have hmd := mdS_mono f g (i + 1) m
    rw [show i + 1 + m = n by omega, ← hM400] at hmd
    rw [tkS_s] at htk
    rw [mdS_s] at hmd
    have hub : (g ||| w).testBit i = (g.testBit i || w.testBit i) := Nat.testBit_or g w i
    show ∃ (σ' τ' : SS), f_X7_feast_85 fu (loopN (fun k85 σ x => f_X7_feast_85 fu k85 σ x.1 x.2.1 x.2.2.1 x.2.2.2.1 x.2.2.2.2.1 x.2.2.2.2.2.1 x.2.2.2.2.2.2) f0) σ (nI host) (nI g) (nI sz) (nI w) (nI sh) total (nI i) = some (.inl total, σ') ∧ f_X8_feast_293 fu (loopN (fun k293 σ x => f_X8_feast_293 fu k293 σ x.1 x.2.1 x.2.2.1 x.2.2.2.1 x.2.2.2.2.1 x.2.2.2.2.2) f0) τ (nI host) (nI g) (nI sz) (nI w) tL (nI i) = some (total, τ') ∧ Rel σ' τ' ∧ τ'.1 0 = τ.1 0
    have hleX : ¬ nI (a.1 0) ≤ nI i := fun z => by have := (q_le (by omega) (by omega)).mp z; omega
    have hleM : ¬ nI (b.1 0) ≤ nI i := fun z => by have := (q_le (by omega) (by omega)).mp z; omega
    rw [f_X7_feast_85, h1.1.1, if_neg hleX, X_isIn hg (by omega), bnd1_some, X_isIn hw (by omega), bnd1_some, f_X8_feast_293, hM.1.1, if_neg hleM, M_isIn hg (by omega), bnd1_some, M_isIn hw (by omega), bnd1_some, t5, bnd1_some, if_pos inn, if_pos inn, q_cl (show i < 2000000000 by omega)]
    simp only [f_X7_feast_151, f_X8_feast_359, q_inc]
    have bi : τ.2.1 1 i = nI (b.2 0 i) := (hM.2.1 i (by omega)).1
    by_cases gb : g.testBit i = true
    · have ub : (g ||| w).testBit i = true := by rw [hub, gb]; rfl
      have hih : host ≠ i := fun z => hgh (by rw [z]; exact ub)
      have e1 : (if g.testBit i = true then (1 : Int32) else 0) = 1 := if_pos gb
      rw [if_pos ub, if_pos gb] at htk
      have hge : sz ≤ a.2 0 host := by rw [hF.1]; omega
      rw [e1, if_neg i10, if_neg i10, f_X0_moveBlankets, if_pos inh, if_pos inn, q_cl (show host < 2000000000 by omega), q_cl (show i < 2000000000 by omega), bnd_some, bi, q_add]
      have R : RG _ _ (mvB a host i sz) (aA b 0 i (b.2 0 i + sz)) := ⟨RX_mv (n := sz) h1 (show host < 12 by omega) (show i < 12 by omega) hih hge, RM_b (j := i) (v := b.2 0 i + sz) hM, RC_eq h3 rfl rfl rfl rfl rfl rfl, Inv_mv h4 (by omega) (by omega), InvB_mv h5 (by omega) (by omega) hih hge, Inv_b h6 (by omega), EQ_0 (EQ_0l hE)⟩
      have hfi : mfl a host sz i = f i := hmf i (Nat.le_refl _) (by omega)
      have hroom : ask (ctm a 0) (ctm a 1) (sz - owA a host i) ≠ 0 → a.1 4 < 400 := by
        intro z
        have z2 : f i ≠ 0 := by rw [← hfi]; exact z
        rw [if_pos ⟨gb, z2⟩] at hmd
        omega
      obtain ⟨v, σ', τ', a', b', g1, g2, g3, g4, g5, g6⟩ := gives_both (n := sz) (x := host) (y := i) hfu R (show host < a.1 0 by omega) (show i < a.1 0 by omega) hih (by omega) hroom
      rw [g1, bnd_some, g2, bnd_some]
      have r0 : a'.2 0 = (mvB a host i sz).2 0 := g4.2.2.1 0 (by omega)
      have r14 : a'.2 14 = a.2 14 := g4.2.2.1 14 (by omega)
      have s0 : b'.2 0 = (aA b 0 i (b.2 0 i + sz)).2 0 := g5 0 (by omega)
      have s14 : b'.2 14 = b.2 14 := g5 14 (by omega)
      have hA4 : a'.1 4 = a.1 4 + (if mfl a host sz i = 0 then 0 else 1) := g4.2.1
      have F2 : FI a' b' host H (T - tkS g (g ||| w) sz sh (i + 1)) := by
        refine ⟨?_, ?_, fun c hc => ?_, by rw [r14, s14]; exact hF.2.2.2⟩
        · rw [r0, mv_host hih, hF.1, tkS_s, if_pos ub, if_pos gb]
          omega
        · rw [s0, aA_2, if_neg (fun z => hih z.2), hF.2.1]
        · rw [r0, mv_other hc, s0, aA_2, aA_2]
          by_cases e : c = i
          · rw [if_pos ⟨rfl, e⟩, if_pos ⟨rfl, e⟩, hF.2.2.1 i (fun z => hih z.symm)]
          · rw [if_neg (fun z => e z.2), if_neg (fun z => e z.2), hF.2.2.1 c hc]
      obtain ⟨σ2, τ2, q1, q2, q3, q4⟩ := ih (i + 1) f0 σ' τ' a' b' g3 F2 (by rw [g4.1 0 (by omega)]; exact hn) hh (by omega) (by omega) (by
        rw [hA4, hfi, mdS_s]
        by_cases z : f i = 0
        · rw [if_pos z, if_neg (fun y => y.2 z)]
          omega
        · rw [if_neg z, if_pos ⟨gb, z⟩]
          rw [if_pos ⟨gb, z⟩] at hmd
          omega) (by rw [GE_ct g4 (by omega)]; exact hsh) (fun c hc hcn => by
        have e := hmf c (by omega) hcn
        have e0' := GE_ct (k := 0) g4 (by omega)
        have e1' := GE_ct (k := 1) g4 (by omega)
        have e0 : ctm a' 0 = ctm a 0 := e0'
        have e1 : ctm a' 1 = ctm a 1 := e1'
        have e2 : owA a' host c = owA a host c := g4.2.2.2 c (by omega)
        unfold mfl at e ⊢
        rw [e0, e1, e2]
        exact e)
      exact ⟨σ2, τ2, q1, q2, q3, q4.trans g6⟩
    · have e1 : (if g.testBit i = true then (1 : Int32) else 0) = 0 := if_neg gb
      have emd : mdS f g (i + 1) = mdS f g i := by rw [mdS_s, if_neg (fun z => gb z.1)]; rfl
      rw [e1, if_pos rfl, if_pos rfl]
      by_cases wb : w.testBit i = true
      · have ub : (g ||| w).testBit i = true := by rw [hub, wb]; simp
        have hih : host ≠ i := fun z => hgh (by rw [z]; exact ub)
        have e2 : (if w.testBit i = true then (1 : Int32) else 0) = 1 := if_pos wb
        rw [if_pos ub, if_neg gb] at htk
        have hge : sh ≤ a.2 0 host := by rw [hF.1]; omega
        rw [e2, if_neg i10, if_neg i10, f_X0_moveBlankets, if_pos inh, if_pos inn, q_cl (show host < 2000000000 by omega), q_cl (show i < 2000000000 by omega), bnd_some, bi, q_add]
        have R : RG _ _ (mvB a host i sh) (aA b 0 i (b.2 0 i + sh)) := ⟨RX_mv (n := sh) h1 (show host < 12 by omega) (show i < 12 by omega) hih hge, RM_b (j := i) (v := b.2 0 i + sh) hM, RC_eq h3 rfl rfl rfl rfl rfl rfl, Inv_mv h4 (by omega) (by omega), InvB_mv h5 (by omega) (by omega) hih hge, Inv_b h6 (by omega), EQ_0 (EQ_0l hE)⟩
        have F2 : FI (mvB a host i sh) (aA b 0 i (b.2 0 i + sh)) host H (T - tkS g (g ||| w) sz sh (i + 1)) := by
          refine ⟨?_, ?_, fun c hc => ?_, hF.2.2.2⟩
          · rw [mv_host hih, hF.1, tkS_s, if_pos ub, if_neg gb]
            omega
          · rw [aA_2, if_neg (fun z => hih z.2), hF.2.1]
          · rw [mv_other hc, aA_2, aA_2]
            by_cases e : c = i
            · rw [if_pos ⟨rfl, e⟩, if_pos ⟨rfl, e⟩, hF.2.2.1 i (fun z => hih z.symm)]
            · rw [if_neg (fun z => e z.2), if_neg (fun z => e z.2), hF.2.2.1 c hc]
        exact ih (i + 1) f0 _ _ _ _ R F2 hn hh (by omega) (by omega) (by rw [emd]; exact h400) hsh (fun c hc hcn => hmf c (by omega) hcn)
      · have ub : ¬ (g ||| w).testBit i = true := by
          rw [hub]
          simp [gb, wb]
        have e2 : (if w.testBit i = true then (1 : Int32) else 0) = 0 := if_neg wb
        have etk : tkS g (g ||| w) sz sh (i + 1) = tkS g (g ||| w) sz sh i := by rw [tkS_s, if_neg ub]; rfl
        rw [e2, if_pos rfl, if_pos rfl]
        exact ih (i + 1) f0 _ _ _ _ hR0 (by rw [etk]; exact hF) hn hh (by omega) (by omega) (by rw [emd]; exact h400) hsh (fun c hc hcn => hmf c (by omega) hcn)
theorem sim_feast {fu : Nat} (hfu : 1000 ≤ fu) : Sim_feast fu Rel := by
  intro σ τ h x1 x2 x3 x4
  have h0 := h
  obtain ⟨a, h1, h2, h3, h4, h5⟩ := h
  have hM := RM_thrown (v := 0) h2
  have hn : a.1 0 ≤ 12 := h4.1
  have hd : a.1 4 ≤ 400 := h4.2.2.2.2.1
  rcases ix3 x1 (n := a.1 0) (by omega) with hx | ⟨host, hh, rfl⟩
  · refine Or.inr (Or.inl ⟨0, σ, sI (sI τ 0 0) 0 1, ?_, ?_, rfl, Rel_thrown (Rel_thrown h0)⟩)
    · rw [f_X7_feast, f_X7_checkFeast, cc_no (by omega) h1.1.1 hx, bndX0_no, bndX_no]
    · rw [f_X8_feast, mc_no (by omega) hM.1.1 hx, bnd1_some, if_pos rfl, f_X8_feast_19, b_no, bnd_some, if_neg i10]
  have bad2 : ∀ y1 y2 y3 y4, f_X8_feast_89 fu (sI τ 0 0) y1 y2 y3 y4 = some (0, sI (sI τ 0 0) 0 2) := fun y1 y2 y3 y4 => by
    rw [f_X8_feast_89, f_X8_feast_94, b_no, bnd_some, if_neg i10]
  have no : f_X7_checkFeast fu σ (nI host) x2 x3 x4 = some (.inr 0) → f_X8_feast_19 fu (sI τ 0 0) (nI host) x2 x3 x4 0 = some (0, sI (sI τ 0 0) 0 2) → (∃ (v : Int32) (σ' : SS) (τ' : SS), f_X7_feast fu σ (nI host) x2 x3 x4 = some (.inl v, σ') ∧ f_X8_feast fu τ (nI host) x2 x3 x4 = some (v, τ') ∧ τ'.1 0 = 0 ∧ Rel σ' τ') ∨ (∃ (v : Int32) (σ' : SS) (τ' : SS), f_X7_feast fu σ (nI host) x2 x3 x4 = some (.inr 2, σ') ∧ f_X8_feast fu τ (nI host) x2 x3 x4 = some (v, τ') ∧ τ'.1 0 = 1 ∧ Rel σ' τ') ∨ (∃ (v : Int32) (σ' : SS) (τ' : SS), f_X7_feast fu σ (nI host) x2 x3 x4 = some (.inr 0, σ') ∧ f_X8_feast fu τ (nI host) x2 x3 x4 = some (v, τ') ∧ τ'.1 0 = 2 ∧ Rel σ' τ') ∨ (∃ (v : Int32) (σ' : SS) (τ' : SS), f_X7_feast fu σ (nI host) x2 x3 x4 = some (.inr 1, σ') ∧ f_X8_feast fu τ (nI host) x2 x3 x4 = some (v, τ') ∧ τ'.1 0 = 3 ∧ Rel σ' τ') := by
    intro e1 e2
    refine Or.inr (Or.inr (Or.inl ⟨0, σ, sI (sI τ 0 0) 0 2, ?_, ?_, rfl, Rel_thrown (Rel_thrown h0)⟩))
    · rw [f_X7_feast, e1, bndX_no]
    · rw [f_X8_feast, mc_ok (by omega) hM.1.1 hh, bnd1_some, if_neg i10, e2]
  have ep := (bs_pow (a.1 0) (by omega)).1
  have hp := (bs_pow (a.1 0) (by omega)).2
  have eX : f_X7_checkFeast fu σ (nI host) x2 x3 x4 = (if ((x2 ||| x4) >>> (nI (a.1 0) &&& 31)) = 0 then bnd1 (f_X7_isIn fu σ (x2 ||| x4) (nI host)) (fun r4 => (if r4 = 0 then (if (x2 &&& x4) = 0 then (if x3 < (1 : Int32) then f_X7_checkFeast_63 fu σ else (if x3 ≤ (100000 : Int32) then bndX0 (f_X7_checkLives fu σ (nI host)) (fun r10 => f_X7_checkFeast_L82 fu σ ((x2 ||| x4), (0 : Int32))) else f_X7_checkFeast_63 fu σ)) else f_X7_checkFeast_40 fu σ) else f_X7_checkFeast_40 fu σ)) else f_X7_checkFeast_40 fu σ) := by
    rw [f_X7_checkFeast, cc_ok (by omega) h1.1.1 hh, bndX0_ok, h1.1.1]
  have eM : f_X8_feast_19 fu (sI τ 0 0) (nI host) x2 x3 x4 0 = (if x2 < 0 then some (0, sI (sI τ 0 0) 0 2) else (if x4 < 0 then some (0, sI (sI τ 0 0) 0 2) else (if nI (2 ^ a.1 0 - 1) < x2 then some (0, sI (sI τ 0 0) 0 2) else (if nI (2 ^ a.1 0 - 1) < x4 then some (0, sI (sI τ 0 0) 0 2) else bnd1 (f_X8_isIn fu (sI τ 0 0) (x2 ||| x4) (nI host)) (fun r9 => (if r9 = 0 then (if (x2 &&& x4) = 0 then (if x3 < (1 : Int32) then some (0, sI (sI τ 0 0) 0 2) else (if x3 ≤ (100000 : Int32) then f_X8_feast_94 fu (sI τ 0 0) (nI host) x2 x3 x4 (0 : Int32) else some (0, sI (sI τ 0 0) 0 2))) else some (0, sI (sI τ 0 0) 0 2)) else some (0, sI (sI τ 0 0) 0 2))))))) := by
    rw [f_X8_feast_19, b_ok, bnd_some, if_pos rfl, hM.1.1, ep]
    simp only [bad2]
  rcases bits_ok hn x2 x4 with ⟨hb, g, w, hg, hw, rfl, rfl⟩ | ⟨hb, hbad⟩
  · have hg2 : g < 4096 := by omega
    have hw2 : w < 4096 := by omega
    have hgw : g ||| w < 4096 := Nat.or_lt_two_pow (n := 12) hg2 hw2
    have eM2 : f_X8_feast_19 fu (sI τ 0 0) (nI host) (nI g) x3 (nI w) 0 = bnd1 (f_X8_isIn fu (sI τ 0 0) (nI g ||| nI w) (nI host)) (fun r9 => (if r9 = 0 then (if (nI g &&& nI w) = 0 then (if x3 < (1 : Int32) then some (0, sI (sI τ 0 0) 0 2) else (if x3 ≤ (100000 : Int32) then f_X8_feast_94 fu (sI τ 0 0) (nI host) (nI g) x3 (nI w) (0 : Int32) else some (0, sI (sI τ 0 0) 0 2))) else some (0, sI (sI τ 0 0) 0 2)) else some (0, sI (sI τ 0 0) 0 2))) := by
      rw [eM, if_neg (q_neg (by omega)), if_neg (q_neg (by omega)), if_neg (fun z => by have := (q_lt (by omega) (by omega)).mp z; omega), if_neg (fun z => by have := (q_lt (by omega) (by omega)).mp z; omega)]
    rw [if_pos hb, bs_or, X_isIn hgw (by omega), bnd1_some, bs_and] at eX
    rw [bs_or, M_isIn hgw (by omega), bnd1_some, bs_and] at eM2
    by_cases c1 : (g ||| w).testBit host = true
    · have e1 : (if (g ||| w).testBit host = true then (1 : Int32) else 0) = 1 := if_pos c1
      rw [e1, if_neg i10] at eX eM2
      exact no (by rw [eX, f_X7_checkFeast_40]) eM2
    have e1 : (if (g ||| w).testBit host = true then (1 : Int32) else 0) = 0 := if_neg c1
    rw [e1, if_pos rfl] at eX eM2
    have hand : g &&& w ≤ g := Nat.and_le_left
    by_cases c2 : g &&& w = 0
    · rw [c2, if_pos (show nI 0 = (0 : Int32) from rfl)] at eX eM2
      have hdis : ∀ c, ¬ (g.testBit c = true ∧ w.testBit c = true) := by
        intro c ⟨u1, u2⟩
        have := Nat.testBit_and g w c
        rw [c2, u1, u2, Nat.zero_testBit] at this
        exact absurd this (by decide)
      by_cases c3 : x3 < 1
      · rw [if_pos c3] at eX eM2
        exact no (by rw [eX, f_X7_checkFeast_63]) eM2
      rw [if_neg c3] at eX eM2
      by_cases c4 : x3 ≤ 100000
      · rw [if_pos c4] at eX eM2
        obtain ⟨sz, hs1, hs2, rfl⟩ := of1 (Int32.not_lt.mp c3)
        have hs : sz ≤ 100000 := (nI_leI (a := sz) (b := 100000) (by omega) (by omega)).mp c4
        have hin : inB (nI host) 12 := (q_in (by omega)).mpr (by omega)
        rw [f_X8_feast_94, b_ok, bnd_some, if_pos rfl, if_pos hin, q_cl (by omega), M_fe1 hfu hM h4 h5 hg2 hw2 hh hs] at eM2
        have eX2 : f_X7_checkFeast fu σ (nI host) (nI g) (nI sz) (nI w) = some (if dS (a.2 1) (g ||| w) host (a.1 0) = 0 then .inl () else .inr 1) := by
          rw [eX]
          have al := h4.2.2.2.2.2.2.2.2.2.2 host
          by_cases z : a.2 1 host = 0
          · have hne : dS (a.2 1) (g ||| w) host (0 + a.1 0) ≠ 0 := dS_mono (by show (if a.2 1 host = 0 then 1 else 0) ≠ 0; rw [if_pos z]; omega) _
            rw [Nat.zero_add] at hne
            rw [lv_no (by omega) (by rw [(h1.2.1 host (by omega)).2, z]), bndX0_no, if_neg hne]
          · rw [lv_ok (by omega) (h1.2.1 host (by omega)).2 al z, bndX0_ok, f_X7_checkFeast_L82]
            exact chk_X h1 h4 hgw (a.1 0) 0 fu (by omega) (by omega) (by show (if a.2 1 host = 0 then 1 else 0) = 0; rw [if_neg z])
        have eM3 : f_X8_feast fu τ (nI host) (nI g) (nI sz) (nI w) = f_X8_feast_19 fu (sI τ 0 0) (nI host) (nI g) (nI sz) (nI w) 0 := by
          rw [f_X8_feast, mc_ok (by omega) hM.1.1 hh, bnd1_some, if_neg i10]
        by_cases z : dS (a.2 1) (g ||| w) host (a.1 0) = 0
        · rw [if_pos z] at eM2 eX2
          have hsh : ctm a 5 ≤ 1000 := ctm_le h4 (by omega)
          have htk := tkS_le (g := g) (u := g ||| w) (sz := sz) (sh := ctm a 5) hs (by omega) (a.1 0)
          have hmd := mdS_le (mfl a host sz) g (a.1 0)
          have hbh := InvB_one h5 h4 (show host < 12 by omega)
          have etot : nI (popS g (a.1 0)) * nI sz + nI (popS w (a.1 0)) * nI (ctm a 5) = nI (tkS g (g ||| w) sz (ctm a 5) (a.1 0)) := by
            rw [q_mul, q_mul, q_add, tkS_pop hdis]
          have e400 : (400 : Int32) - nI (a.1 4) = nI (400 - a.1 4) := q_sub (a := 400) hd
          have eX3 : f_X7_feast fu σ (nI host) (nI g) (nI sz) (nI w) = if tkS g (g ||| w) sz (ctm a 5) (a.1 0) ≤ a.2 0 host then (if a.1 4 + mdS (mfl a host sz) g (a.1 0) ≤ 400 then f_X7_feast_L85 fu σ (nI host, nI g, nI sz, nI w, nI (ctm a 5), nI (tkS g (g ||| w) sz (ctm a 5) (a.1 0)), 0) else some (.inl (-2), σ)) else some (.inl (-1), σ) := by
            rw [f_X7_feast, eX2, bndX_ok, X_force hfu h1 h4, bnd1_some, X_share h1 h4, bnd1_some, X_bits hn hg, bnd1_some, X_bits hn hw, bnd1_some, etot, if_pos hin, q_cl (by omega), (h1.2.1 host (by omega)).1, X_mdF hfu h1 h4 hg2 hh hs, bnd1_some, f_X3_room, bnd1_some, h1.1.2.2.2.2.1, e400]
            by_cases c : tkS g (g ||| w) sz (ctm a 5) (a.1 0) ≤ a.2 0 host
            · rw [if_pos c, if_pos ((q_le (by omega) (by omega)).mpr c)]
              by_cases d : a.1 4 + mdS (mfl a host sz) g (a.1 0) ≤ 400
              · rw [if_pos d, if_pos ((q_le (by omega) (by omega)).mpr (by omega))]
              · rw [if_neg d, if_neg (fun y => by have := (q_le (by omega) (by omega)).mp y; omega)]
            · rw [if_neg c, if_neg (fun y => c ((q_le (by omega) (by omega)).mp y))]
          left
          rw [eX3, eM3, eM2]
          by_cases c : tkS g (g ||| w) sz (ctm a 5) (a.1 0) ≤ a.2 0 host
          · rw [if_pos c, if_pos c]
            by_cases d : a.1 4 + mdS (mfl a host sz) g (a.1 0) ≤ 400
            · rw [if_pos d, if_pos d]
              have R : RG σ (sA (sI τ 0 0) 1 host (nI (a.2 0 host - tkS g (g ||| w) sz (ctm a 5) (a.1 0)))) a (aA a 0 host (a.2 0 host - tkS g (g ||| w) sz (ctm a 5) (a.1 0))) := by
                refine ⟨h1, RM_b hM, RC_eq (RC_thrown (v := 0) h3) rfl rfl rfl rfl rfl rfl, h4, h5, Inv_b h4 hh, ⟨rfl, fun r r0 _ => ?_⟩⟩
                funext c
                rw [aA_2, if_neg (fun y => r0 y.1)]
              have F : FI a (aA a 0 host (a.2 0 host - tkS g (g ||| w) sz (ctm a 5) (a.1 0))) host (a.2 0 host - tkS g (g ||| w) sz (ctm a 5) (a.1 0)) (tkS g (g ||| w) sz (ctm a 5) (a.1 0) - tkS g (g ||| w) sz (ctm a 5) 0) := by
                refine ⟨?_, by rw [aA_2, if_pos ⟨rfl, rfl⟩], fun c hc => by rw [aA_2, if_neg (fun y => hc y.2)], rfl⟩
                show a.2 0 host = a.2 0 host - tkS g (g ||| w) sz (ctm a 5) (a.1 0) + (tkS g (g ||| w) sz (ctm a 5) (a.1 0) - 0)
                omega
              obtain ⟨σ', τ', r1, r2, r3, r4⟩ := fe_both (fu := fu) (f := mfl a host sz) (n := a.1 0) hfu hg2 hw2 c1 hs hsh rfl (nI (tkS g (g ||| w) sz (ctm a 5) (a.1 0))) _ rfl (lN (tkS g (g ||| w) sz (ctm a 5) (a.1 0))) (lN_i _) (a.1 0) 0 fu _ _ _ _ R F rfl hh (by omega) (by omega) (by show a.1 4 + (mdS (mfl a host sz) g (a.1 0) - 0) ≤ 400; omega) rfl (fun _ _ _ => rfl)
              exact ⟨_, σ', τ', r1, r2, r4, r3⟩
            · rw [if_neg d, if_neg d]
              exact ⟨-2, σ, _, rfl, rfl, rfl, Rel_thrown h0⟩
          · rw [if_neg c, if_neg c]
            exact ⟨-1, σ, _, rfl, rfl, rfl, Rel_thrown h0⟩
        · rw [if_neg z] at eM2 eX2
          refine Or.inr (Or.inr (Or.inr ⟨0, σ, sI (sI τ 0 0) 0 3, ?_, ?_, rfl, Rel_thrown (Rel_thrown h0)⟩))
          · rw [f_X7_feast, eX2, bndX_no]
          · rw [eM3, eM2]
      · rw [if_neg c4] at eX eM2
        exact no (by rw [eX, f_X7_checkFeast_63]) eM2
    · have c2' : ¬ nI (g &&& w) = 0 := fun y => c2 ((q_eq0 (by omega)).mp y)
      rw [if_neg c2'] at eX eM2
      exact no (by rw [eX, f_X7_checkFeast_40]) eM2
  · refine no (by rw [eX, if_neg hb, f_X7_checkFeast_40]) ?_
    rw [eM]
    by_cases q1 : x2 < 0
    · rw [if_pos q1]
    rw [if_neg q1]
    by_cases q2 : x4 < 0
    · rw [if_pos q2]
    rw [if_neg q2]
    by_cases q3 : nI (2 ^ a.1 0 - 1) < x2
    · rw [if_pos q3]
    rw [if_neg q3]
    by_cases q4 : nI (2 ^ a.1 0 - 1) < x4
    · rw [if_pos q4]
    · exact absurd hbad (fun y => y.elim q1 (fun y => y.elim q2 (fun y => y.elim q3 q4)))

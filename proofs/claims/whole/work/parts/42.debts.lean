/-! what is owed, what is asked, which debt is next -/
theorem lN_dec {w : Nat} (h : 1 ≤ w) : lN w - 1 = lN (w - 1) := lN_sub (b := 1) h
theorem lsub_neg {n S : Nat} (h : n < S) (hS : S < 2 ^ 62) : lN n - lN S < 0 := by
  rw [Int64.lt_iff_toInt_lt, Int64.toInt_sub, pk_lT (by omega), pk_lT (by omega), Int64.toInt_zero, Int.bmod_eq_of_le (by omega) (by omega)]
  omega
theorem lc_neg {z : Int64} (h : z < 0) : lg_cmp z 0 ≤ 0 := by
  show (if (0 : Int64) < z then (1 : Int32) else if z = 0 then 0 else -1) ≤ 0
  rw [if_neg (fun y => by rw [Int64.lt_iff_toInt_lt] at h y; omega)]
  split
  · decide
  · decide
def trn (dq : Nat → Nat) (i : Nat) : Nat := if dq i = 0 then 1000001 else dq i
theorem trn_b {dq : Nat → Nat} {i : Nat} (h : dq i ≤ 2001) : 1 ≤ trn dq i ∧ trn dq i ≤ 1000001 := by
  unfold trn
  split <;> omega
def pickS (dx dw dl dq : Nat → Nat) (x y : Nat) : Nat → Int32
  | 0 => -1
  | k + 1 => if (dl k ≠ 0 ∧ dx k = x ∧ dw k = y) ∧ (pickS dx dw dl dq x y k = -1 ∨ trn dq k < trn dq (pickS dx dw dl dq x y k).toNatClampNeg) then nI k else pickS dx dw dl dq x y k
theorem pickS_s (dx dw dl dq : Nat → Nat) (x y k : Nat) : pickS dx dw dl dq x y (k + 1) = if (dl k ≠ 0 ∧ dx k = x ∧ dw k = y) ∧ (pickS dx dw dl dq x y k = -1 ∨ trn dq k < trn dq (pickS dx dw dl dq x y k).toNatClampNeg) then nI k else pickS dx dw dl dq x y k := rfl
theorem pickS_cases (dx dw dl dq : Nat → Nat) (x y k : Nat) : (pickS dx dw dl dq x y k = -1 ∧ ∀ i, i < k → ¬ (dl i ≠ 0 ∧ dx i = x ∧ dw i = y)) ∨ ∃ j, j < k ∧ pickS dx dw dl dq x y k = nI j ∧ (dl j ≠ 0 ∧ dx j = x ∧ dw j = y) := by
  induction k with
  | zero => exact Or.inl ⟨rfl, fun i hi => absurd hi (by omega)⟩
  | succ k ih =>
    rw [pickS_s]
    by_cases c : (dl k ≠ 0 ∧ dx k = x ∧ dw k = y) ∧ (pickS dx dw dl dq x y k = -1 ∨ trn dq k < trn dq (pickS dx dw dl dq x y k).toNatClampNeg)
    · rw [if_pos c]
      exact Or.inr ⟨k, by omega, rfl, c.1⟩
    · rw [if_neg c]
      rcases ih with ⟨e, h⟩ | ⟨j, hj, e, o⟩
      · refine Or.inl ⟨e, fun i hi o => ?_⟩
        by_cases q : i = k
        · subst q
          exact c ⟨o, Or.inl e⟩
        · exact h i (by omega) o
      · exact Or.inr ⟨j, by omega, e, o⟩
def pkA (a : AS) (x y : Nat) : Int32 := pickS (a.2 10) (a.2 11) (a.2 12) (a.2 13) x y (a.1 4)
theorem X_turn {σ : SS} {a : AS} {fu i : Nat} (h1 : RX σ a) (h4 : Inv a) (hi : i < a.1 4) : f_X3_turn fu σ (nI i) = some (nI (trn (a.2 13) i - 1)) := by
  have hd : a.1 4 ≤ 400 := h4.2.2.2.2.1
  obtain ⟨s1, s2, s3, s4⟩ := h1.2.2.2.1 i hi
  obtain ⟨g1, g2, g3, g4⟩ := h4.2.2.2.2.2.2.2.1 i hi
  rw [f_X3_turn, X_isLoan (by omega) s4 g4, bnd1_some]
  unfold trn
  by_cases z : a.2 13 i = 0
  · rw [if_pos z, if_pos z, if_neg i10]
    rfl
  · rw [if_neg z, if_neg z, if_pos rfl, if_pos ((q_in (by omega)).mpr (by omega)), q_cl (by omega), s4, q_dec (by omega)]
theorem X_first {σ : SS} {a : AS} {fu x y : Nat} (hfu : 1000 ≤ fu) (h1 : RX σ a) (h4 : Inv a) (hx : x < a.1 0) (hy : y < a.1 0) : f_X3_firstToAnswer fu σ (nI x) (nI y) = some (pkA a x y) := by
  have hd : a.1 4 ≤ 400 := h4.2.2.2.2.1
  unfold f_X3_firstToAnswer f_X3_firstToAnswer_L5 pkA
  refine up_loop (X := Int32 × Int32 × Int32 × Int32) (a.1 4) (fun _ => σ) (fun i => (nI x, nI y, pickS (a.2 10) (a.2 11) (a.2 12) (a.2 13) x y i, nI i)) _ (fun i k hi => ?_) (fun k => ?_) fu (by omega)
  · show f_X3_firstToAnswer_5 fu k σ (nI x) (nI y) (pickS (a.2 10) (a.2 11) (a.2 12) (a.2 13) x y i) (nI i) = k σ (nI x, nI y, pickS (a.2 10) (a.2 11) (a.2 12) (a.2 13) x y (i + 1), nI (i + 1))
    rw [f_X3_firstToAnswer_5, h1.1.2.2.2.2.1, if_neg (fun z => by have := (q_le (by omega) (by omega)).mp z; omega), X_iob h1 h4 hi hx hy, bnd1_some, pickS_s]
    simp only [f_X3_firstToAnswer_47, f_X3_firstToAnswer_44, q_inc]
    by_cases o : a.2 12 i ≠ 0 ∧ a.2 10 i = x ∧ a.2 11 i = y
    · have e1 : (if a.2 12 i ≠ 0 ∧ a.2 10 i = x ∧ a.2 11 i = y then (1 : Int32) else 0) = 1 := if_pos o
      rw [e1, if_neg i10]
      rcases pickS_cases (a.2 10) (a.2 11) (a.2 12) (a.2 13) x y i with ⟨e, _⟩ | ⟨j, hj, e, oj⟩
      · rw [e, if_pos rfl, if_pos ⟨o, Or.inl rfl⟩]
      · have b1 := trn_b (dq := a.2 13) (i := i) (h4.2.2.2.2.2.2.2.1 i hi).2.2.2
        have b2 := trn_b (dq := a.2 13) (i := j) (h4.2.2.2.2.2.2.2.1 j (by omega)).2.2.2
        rw [e, if_neg (q_m1 (by omega)), X_turn h1 h4 hi, bnd1_some, X_turn h1 h4 (show j < a.1 4 by omega), bnd1_some, q_cl (by omega)]
        by_cases t : trn (a.2 13) i < trn (a.2 13) j
        · rw [if_neg (fun z => by have := (q_le (by omega) (by omega)).mp z; omega), if_pos ⟨o, Or.inr t⟩]
        · rw [if_pos ((q_le (by omega) (by omega)).mpr (by omega)), if_neg (fun z => z.2.elim (q_m1 (by omega)) t)]
    · have e1 : (if a.2 12 i ≠ 0 ∧ a.2 10 i = x ∧ a.2 11 i = y then (1 : Int32) else 0) = 0 := if_neg o
      rw [e1, if_pos rfl, if_neg (fun z => o z.1)]
  · show f_X3_firstToAnswer_5 fu k σ (nI x) (nI y) (pickS (a.2 10) (a.2 11) (a.2 12) (a.2 13) x y (a.1 4)) (nI (a.1 4)) = _
    rw [f_X3_firstToAnswer_5, h1.1.2.2.2.2.1, if_pos ((q_le (by omega) (by omega)).mpr (Nat.le_refl _))]
theorem M_next {τ : SS} {a : AS} {fu x y : Nat} (hfu : 1000 ≤ fu) (hM : RM τ a) (h4 : Inv a) (hx : x < a.1 0) (hy : y < a.1 0) : f_X8_next fu τ (nI x) (nI y) = some (pkA a x y) := by
  have hd : a.1 4 ≤ 400 := h4.2.2.2.2.1
  have hn : a.1 0 ≤ 12 := h4.1
  unfold f_X8_next f_X8_next_L5 pkA
  refine up_loop (X := Int32 × Int32 × Int32 × Int32) (a.1 4) (fun _ => τ) (fun i => (nI x, nI y, pickS (a.2 10) (a.2 11) (a.2 12) (a.2 13) x y i, nI i)) _ (fun i k hi => ?_) (fun k => ?_) fu (by omega)
  · show f_X8_next_5 fu k τ (nI x) (nI y) (pickS (a.2 10) (a.2 11) (a.2 12) (a.2 13) x y i) (nI i) = k τ (nI x, nI y, pickS (a.2 10) (a.2 11) (a.2 12) (a.2 13) x y (i + 1), nI (i + 1))
    obtain ⟨t1, t2, t3, t4, t5⟩ := hM.2.2.2.1 i hi
    obtain ⟨g1, g2, g3, g4⟩ := h4.2.2.2.2.2.2.2.1 i hi
    rw [f_X8_next_5, hM.1.2.2.2.2.1, if_neg (fun z => by have := (q_le (by omega) (by omega)).mp z; omega), if_pos ((q_in (by omega)).mpr (by omega)), q_cl (show i < 2000000000 by omega), t1, t2, t3, t4, t5, lcz (by omega), pickS_s]
    simp only [f_X8_next_93, f_X8_next_90, q_inc]
    by_cases c1 : a.2 10 i = x
    · rw [if_pos ((q_eq (by omega) (by omega)).mpr c1)]
      by_cases c2 : a.2 11 i = y
      · rw [if_pos ((q_eq (by omega) (by omega)).mpr c2)]
        by_cases c0 : a.2 12 i = 0
        · have e0 : (if a.2 12 i = 0 then (0 : Int32) else 1) = 0 := if_pos c0
          rw [e0, if_pos rfl, if_neg (fun z => z.1.1 c0)]
        · have e0 : (if a.2 12 i = 0 then (0 : Int32) else 1) = 1 := if_neg c0
          rw [e0, if_neg i10]
          rcases pickS_cases (a.2 10) (a.2 11) (a.2 12) (a.2 13) x y i with ⟨e, _⟩ | ⟨j, hj, e, oj⟩
          · rw [e, if_pos (by decide), if_pos ⟨⟨c0, c1, c2⟩, Or.inl rfl⟩]
          · obtain ⟨u1, u2, u3, u4, u5⟩ := hM.2.2.2.1 j (by omega)
            obtain ⟨v1, v2, v3, v4⟩ := h4.2.2.2.2.2.2.2.1 j (by omega)
            rw [e, if_neg (q_neg (by omega)), if_pos ((q_in (by omega)).mpr (by omega)), q_cl (show j < 2000000000 by omega), u4, u5]
            by_cases z : a.2 13 i = 0
            · have ez : (if a.2 13 i = 0 then (1 : Int32) else 0) = 1 := if_pos z
              have b2 := trn_b (dq := a.2 13) (i := j) v4
              have b3 : trn (a.2 13) i = 1000001 := if_pos z
              rw [ez, if_neg i10, if_neg (fun w => w.2.elim (q_m1 (by omega)) (fun t => by omega))]
            · have ez : (if a.2 13 i = 0 then (1 : Int32) else 0) = 0 := if_neg z
              have et : trn (a.2 13) i = a.2 13 i := if_neg z
              rw [ez, if_pos rfl, et]
              by_cases w : a.2 13 j = 0
              · have ew : (if a.2 13 j = 0 then (1 : Int32) else 0) = 1 := if_pos w
                have et2 : trn (a.2 13) j = 1000001 := if_pos w
                rw [ew, if_neg i10, et2, if_pos ⟨⟨c0, c1, c2⟩, Or.inr (by omega)⟩]
              · have ew : (if a.2 13 j = 0 then (1 : Int32) else 0) = 0 := if_neg w
                have et2 : trn (a.2 13) j = a.2 13 j := if_neg w
                rw [ew, if_pos rfl, et2, q_dec (by omega), q_dec (by omega)]
                by_cases t : a.2 13 i < a.2 13 j
                · rw [if_neg (fun y => by have := (q_le (by omega) (by omega)).mp y; omega), if_pos ⟨⟨c0, c1, c2⟩, Or.inr t⟩]
                · rw [if_pos ((q_le (by omega) (by omega)).mpr (by omega)), if_neg (fun y => y.2.elim (q_m1 (by omega)) t)]
      · rw [if_neg (fun z => c2 ((q_eq (by omega) (by omega)).mp z)), if_neg (fun z => c2 z.1.2.2)]
    · rw [if_neg (fun z => c1 ((q_eq (by omega) (by omega)).mp z)), if_neg (fun z => c1 z.1.2.1)]
  · show f_X8_next_5 fu k τ (nI x) (nI y) (pickS (a.2 10) (a.2 11) (a.2 12) (a.2 13) x y (a.1 4)) (nI (a.1 4)) = _
    rw [f_X8_next_5, hM.1.2.2.2.2.1, if_pos ((q_le (by omega) (by omega)).mpr (Nat.le_refl _))]
def owS (dx dw dl : Nat → Nat) (x y : Nat) : Nat → Nat
  | 0 => 0
  | k + 1 => owS dx dw dl x y k + (if dx k = x ∧ dw k = y then dl k else 0)
def owA (a : AS) (x y : Nat) : Nat := owS (a.2 10) (a.2 11) (a.2 12) x y (a.1 4)
theorem owS_le {dx dw dl : Nat → Nat} {x y k : Nat} (h : ∀ i, i < k → dl i ≤ 1000000000) : owS dx dw dl x y k ≤ 1000000000 * k := by
  induction k with
  | zero => exact Nat.le_refl _
  | succ k ih =>
    have h1 := ih (fun i hi => h i (by omega))
    have h2 := h k (by omega)
    show owS dx dw dl x y k + (if dx k = x ∧ dw k = y then dl k else 0) ≤ 1000000000 * (k + 1)
    split <;> omega
theorem owA_le {a : AS} (h4 : Inv a) (x y : Nat) : owA a x y ≤ 400000000000 := by
  have hd : a.1 4 ≤ 400 := h4.2.2.2.2.1
  have := owS_le (dx := a.2 10) (dw := a.2 11) (dl := a.2 12) (x := x) (y := y) (k := a.1 4) (fun i hi => (h4.2.2.2.2.2.2.2.1 i hi).2.2.1)
  unfold owA
  omega
theorem X_owed {σ : SS} {a : AS} {fu x y : Nat} (hfu : 1000 ≤ fu) (h1 : RX σ a) (h4 : Inv a) (hx : x < a.1 0) (hy : y < a.1 0) : f_X3_owed fu σ (nI x) (nI y) = some (lN (owA a x y)) := by
  have hd : a.1 4 ≤ 400 := h4.2.2.2.2.1
  unfold f_X3_owed f_X3_owed_L5 owA
  refine up_loop (X := Int32 × Int32 × Int64 × Int32) (a.1 4) (fun _ => σ) (fun i => (nI x, nI y, lN (owS (a.2 10) (a.2 11) (a.2 12) x y i), nI i)) _ (fun i k hi => ?_) (fun k => ?_) fu (by omega)
  · show f_X3_owed_5 fu k σ (nI x) (nI y) (lN (owS (a.2 10) (a.2 11) (a.2 12) x y i)) (nI i) = k σ (nI x, nI y, lN (owS (a.2 10) (a.2 11) (a.2 12) x y i + (if a.2 10 i = x ∧ a.2 11 i = y then a.2 12 i else 0)), nI (i + 1))
    obtain ⟨s1, s2, s3, s4⟩ := h1.2.2.2.1 i hi
    obtain ⟨g1, g2, g3, g4⟩ := h4.2.2.2.2.2.2.2.1 i hi
    rw [f_X3_owed_5, h1.1.2.2.2.2.1, if_neg (fun z => by have := (q_le (by omega) (by omega)).mp z; omega), X_iob h1 h4 hi hx hy, bnd1_some, if_pos ((q_in (by omega)).mpr (by omega)), q_cl (by omega), s3, nI_l (by omega), lN_add]
    simp only [f_X3_owed_36, q_inc]
    by_cases o : a.2 10 i = x ∧ a.2 11 i = y
    · rw [if_pos o]
      by_cases c0 : a.2 12 i = 0
      · have e1 : (if a.2 12 i ≠ 0 ∧ a.2 10 i = x ∧ a.2 11 i = y then (1 : Int32) else 0) = 0 := if_neg (fun z => z.1 c0)
        rw [e1, if_pos rfl, c0]
        rfl
      · have e1 : (if a.2 12 i ≠ 0 ∧ a.2 10 i = x ∧ a.2 11 i = y then (1 : Int32) else 0) = 1 := if_pos ⟨c0, o⟩
        rw [e1, if_neg i10]
    · have e1 : (if a.2 12 i ≠ 0 ∧ a.2 10 i = x ∧ a.2 11 i = y then (1 : Int32) else 0) = 0 := if_neg (fun z => o z.2)
      rw [e1, if_pos rfl, if_neg o]
      rfl
  · show f_X3_owed_5 fu k σ (nI x) (nI y) (lN (owS (a.2 10) (a.2 11) (a.2 12) x y (a.1 4))) (nI (a.1 4)) = _
    rw [f_X3_owed_5, h1.1.2.2.2.2.1, if_pos ((q_le (by omega) (by omega)).mpr (Nat.le_refl _))]
theorem M_owed {τ : SS} {a : AS} {fu x y : Nat} (hfu : 1000 ≤ fu) (hM : RM τ a) (h4 : Inv a) (hx : x < a.1 0) (hy : y < a.1 0) : f_X8_allOwed fu τ (nI x) (nI y) = some (lN (owA a x y)) := by
  have hd : a.1 4 ≤ 400 := h4.2.2.2.2.1
  have hn : a.1 0 ≤ 12 := h4.1
  unfold f_X8_allOwed f_X8_allOwed_L5 owA
  refine up_loop (X := Int32 × Int32 × Int64 × Int32) (a.1 4) (fun _ => τ) (fun i => (nI x, nI y, lN (owS (a.2 10) (a.2 11) (a.2 12) x y i), nI i)) _ (fun i k hi => ?_) (fun k => ?_) fu (by omega)
  · show f_X8_allOwed_5 fu k τ (nI x) (nI y) (lN (owS (a.2 10) (a.2 11) (a.2 12) x y i)) (nI i) = k τ (nI x, nI y, lN (owS (a.2 10) (a.2 11) (a.2 12) x y i + (if a.2 10 i = x ∧ a.2 11 i = y then a.2 12 i else 0)), nI (i + 1))
    obtain ⟨t1, t2, t3, t4, t5⟩ := hM.2.2.2.1 i hi
    obtain ⟨g1, g2, g3, g4⟩ := h4.2.2.2.2.2.2.2.1 i hi
    rw [f_X8_allOwed_5, hM.1.2.2.2.2.1, if_neg (fun z => by have := (q_le (by omega) (by omega)).mp z; omega), if_pos ((q_in (by omega)).mpr (by omega)), q_cl (by omega), t1, t2, t3]
    simp only [f_X8_allOwed_47, f_X8_allOwed_48, q_inc, lN_add, show (0 : Int64) = lN 0 from rfl]
    by_cases c1 : a.2 10 i = x
    · rw [if_pos ((q_eq (by omega) (by omega)).mpr c1)]
      by_cases c2 : a.2 11 i = y
      · rw [if_pos ((q_eq (by omega) (by omega)).mpr c2), if_pos ⟨c1, c2⟩]
      · rw [if_neg (fun z => c2 ((q_eq (by omega) (by omega)).mp z)), if_neg (fun z => c2 z.2)]
    · rw [if_neg (fun z => c1 ((q_eq (by omega) (by omega)).mp z)), if_neg (fun z => c1 z.1)]
  · show f_X8_allOwed_5 fu k τ (nI x) (nI y) (lN (owS (a.2 10) (a.2 11) (a.2 12) x y (a.1 4))) (nI (a.1 4)) = _
    rw [f_X8_allOwed_5, hM.1.2.2.2.2.1, if_pos ((q_le (by omega) (by omega)).mpr (Nat.le_refl _))]
def ask (p q g : Nat) : Nat := if q = 0 then 0 else cap ((g * p + q - 1) / q)
theorem ask_le (p q g : Nat) : ask p q g ≤ 1000000000 := by
  unfold ask
  split
  · omega
  · exact cap_le _
theorem ask_0 (p q : Nat) : ask p q 0 = 0 := by
  unfold ask
  split
  · rfl
  · rename_i h
    rw [Nat.zero_mul, Nat.zero_add, Nat.div_eq_of_lt (by omega)]
    rfl
theorem gp_le {g p q : Nat} (hg : g < 2147483648) (hp : p ≤ 1000) (hq : q ≤ 1000) : g * p + q ≤ 3000000000000 ∧ (g * p + q - 1) / q ≤ 3000000000000 := by
  have h1 : g * p ≤ 2147483648 * 1000 := Nat.mul_le_mul (by omega) hp
  have h2 : (g * p + q - 1) / q ≤ g * p + q - 1 := Nat.div_le_self _ _
  omega
theorem X_asked {σ : SS} {a : AS} {fu g : Nat} (h1 : RX σ a) (h4 : Inv a) (hg : g < 2147483648) : f_X2_askedFor fu σ (frc a) (lN g) = some (nI (ask (ctm a 0) (ctm a 1) g)) := by
  rcases frc_cases h4 with ⟨e1, e⟩ | ⟨j, hj, hj2, e1, e⟩
  · rw [e1, f_X2_askedFor, if_pos rfl, f_X2_askedFor_15, if_pos rfl, e 1, ask, if_pos rfl]
    rfl
  · obtain ⟨c1, c2, c3, c4, c5, c6⟩ := h1.2.2.1 j hj
    have b0 : a.2 3 j ≤ 1000 := (h4.2.2.2.2.2.2.1 j hj).2 0 (by omega)
    have b1 : a.2 4 j ≤ 1000 := (h4.2.2.2.2.2.2.1 j hj).2 1 (by omega)
    have e0 : ctm a 0 = a.2 3 j := e 0
    have e2 : ctm a 1 = a.2 4 j := e 1
    rw [e1, f_X2_askedFor, if_neg (q_m1 (by omega)), if_pos ((q_in (by omega)).mpr hj2), q_cl (by omega), c2, f_X2_askedFor_15, e0, e2]
    by_cases z : a.2 4 j = 0
    · rw [if_pos ((q_eq0 (by omega)).mpr z), ask, if_pos z]
      rfl
    · have hw := gp_le (q := a.2 4 j) hg b0 b1
      rw [if_neg (fun y => z ((q_eq0 (by omega)).mp y)), if_pos ((q_in (by omega)).mpr hj2), q_cl (by omega), (c5 z).1, nI_l (by omega), nI_l (by omega), if_pos (lN_ne0 z (by omega)), lN_mul, lN_add, lN_dec (by omega), pk_lDiv (by omega) (by omega) (by omega), cap_L (by omega), lN_i, ask, if_neg z]
theorem X_years {σ : SS} {a : AS} {fu : Nat} (h1 : RX σ a) (h4 : Inv a) (hq : ctm a 1 ≠ 0) : f_X2_yearsToAnswer fu σ (frc a) = some (nI (ctm a 2)) := by
  rcases frc_cases h4 with ⟨e1, e⟩ | ⟨j, hj, hj2, e1, e⟩
  · exact absurd (e 1) hq
  · obtain ⟨c1, c2, c3, c4, c5, c6⟩ := h1.2.2.1 j hj
    have e2 : ctm a 1 = a.2 4 j := e 1
    have e3 : ctm a 2 = a.2 5 j := e 2
    rw [e1, f_X2_yearsToAnswer, if_neg (q_m1 (by omega)), if_pos ((q_in (by omega)).mpr hj2), q_cl (by omega), (c5 (by rw [← e2]; exact hq)).2, e3]
theorem M_made {τ : SS} {a : AS} {fu x y n : Nat} (hfu : 1000 ≤ fu) (hM : RM τ a) (h4 : Inv a) (hx : x < a.1 0) (hy : y < a.1 0) (hn : n < 2147483648) : f_X8_madeOf fu τ (nI x) (nI y) (lN n) = some (lN (ask (ctm a 0) (ctm a 1) (n - owA a x y))) := by
  have t0 : f_X8_term fu τ (0 : Int32) = some (nI (ctm a 0)) := M_term (k := 0) hfu hM h4 (by omega)
  have t1 : f_X8_term fu τ (1 : Int32) = some (nI (ctm a 1)) := M_term (k := 1) hfu hM h4 (by omega)
  have b0 : ctm a 0 ≤ 1000 := ctm_le h4 (by omega)
  have b1 : ctm a 1 ≤ 1000 := ctm_le h4 (by omega)
  have hS := owA_le h4 x y
  rw [f_X8_madeOf, M_owed hfu hM h4 hx hy, bnd1_some, t0, bnd1_some, t1, bnd1_some]
  by_cases q : n ≤ owA a x y
  · rw [show n - owA a x y = 0 by omega, ask_0]
    have : lg_cmp (lN n - lN (owA a x y)) 0 ≤ 0 := by
      by_cases q2 : n = owA a x y
      · rw [← q2, lN_sub (Nat.le_refl _), Nat.sub_self]
        decide
      · exact lc_neg (lsub_neg (by omega) (by omega))
    rw [if_pos this]
    rfl
  · rw [lN_sub (by omega), if_neg (fun z => by have := (lc_le (b := 0) (by omega) (by omega)).mp z; omega)]
    by_cases z : ctm a 1 = 0
    · rw [if_pos ((q_eq0 (by omega)).mpr z), ask, if_pos z]
      rfl
    · have hw := gp_le (g := n - owA a x y) (q := ctm a 1) (by omega) b0 b1
      rw [if_neg (fun y => z ((q_eq0 (by omega)).mp y)), nI_l (by omega), nI_l (by omega), if_pos (lN_ne0 z (by omega)), lN_mul, lN_add, lN_dec (by omega), pk_lDiv (by omega) (by omega) (by omega), cap_M (by omega), ask, if_neg z, cap]
      by_cases c : 1000000000 < ((n - owA a x y) * ctm a 0 + ctm a 1 - 1) / ctm a 1
      · rw [if_pos c, if_pos c]
        rfl
      · rw [if_neg c, if_neg c]
theorem X_makes {σ : SS} {a : AS} {fu x y n : Nat} (hfu : 1000 ≤ fu) (h1 : RX σ a) (h4 : Inv a) (hx : x < a.1 0) (hy : y < a.1 0) (hn : n < 2147483648) : f_X7_debtsMadeBy fu σ (nI x) (nI y) (nI n) = some (if ask (ctm a 0) (ctm a 1) (n - owA a x y) = 0 then 0 else 1) := by
  have hS := owA_le h4 x y
  have hA := ask_le (ctm a 0) (ctm a 1) (n - owA a x y)
  have e : (nI n).toInt64 - (if lN (owA a x y) < (nI n).toInt64 then lN (owA a x y) else (nI n).toInt64) = lN (n - owA a x y) := by
    rw [nI_l (by omega)]
    by_cases q : owA a x y < n
    · rw [if_pos ((pk_lLT (by omega) (by omega)).mpr q), lN_sub (by omega)]
    · rw [if_neg (fun z => q ((pk_lLT (by omega) (by omega)).mp z)), lN_sub (Nat.le_refl _), show n - n = n - owA a x y by omega]
  rw [f_X7_debtsMadeBy, X_owed hfu h1 h4 hx hy, bnd1_some, X_force hfu h1 h4, bnd1_some, e, X_asked h1 h4 (by omega), bnd1_some]
  by_cases q : ask (ctm a 0) (ctm a 1) (n - owA a x y) = 0
  · rw [if_pos ((q_le0 (by omega)).mpr q), if_pos q]
  · rw [if_neg (fun z => q ((q_le0 (by omega)).mp z)), if_neg q]

/-! terms of the custom in force; wait -/
theorem lc_le {a b : Nat} (ha : a < 2 ^ 63) (hb : b < 2 ^ 63) : lg_cmp (lN a) (lN b) ≤ 0 ↔ a ≤ b := by
  show (if lN b < lN a then (1 : Int32) else if lN a = lN b then 0 else -1) ≤ 0 ↔ a ≤ b
  have h1 : lN b < lN a ↔ b < a := pk_lLT hb ha
  by_cases q1 : b < a
  · rw [if_pos (h1.mpr q1)]
    constructor
    · intro h; exact absurd h (by decide)
    · intro h; omega
  · rw [if_neg (fun z => q1 (h1.mp z))]
    constructor
    · intro _; omega
    · intro _
      split
      · decide
      · decide
theorem lc_ge {a b : Nat} (ha : a < 2 ^ 63) (hb : b < 2 ^ 63) : 0 ≤ lg_cmp (lN a) (lN b) ↔ b ≤ a := by
  show 0 ≤ (if lN b < lN a then (1 : Int32) else if lN a = lN b then 0 else -1) ↔ b ≤ a
  have h1 : lN b < lN a ↔ b < a := pk_lLT hb ha
  have h2 : lN a = lN b ↔ a = b := pk_lEQ ha hb
  by_cases q1 : b < a
  · rw [if_pos (h1.mpr q1)]
    constructor
    · intro h; omega
    · intro h; decide
  · rw [if_neg (fun z => q1 (h1.mp z))]
    by_cases q2 : a = b
    · rw [if_pos (h2.mpr q2)]
      constructor
      · intro h; omega
      · intro h; decide
    · rw [if_neg (fun z => q2 (h2.mp z))]
      constructor
      · intro h; exact absurd h (by decide)
      · intro h; omega
def cap (w : Nat) : Nat := if 1000000000 < w then 1000000000 else w
theorem cap_le (w : Nat) : cap w ≤ 1000000000 := by unfold cap; split <;> omega
theorem cap_L {w : Nat} (hw : w < 2 ^ 63) : (if (1000000000 : Int64) < lN w then (1000000000 : Int64) else lN w) = lN (cap w) := by
  have h : (1000000000 : Int64) < lN w ↔ 1000000000 < w := pk_lLT (a := 1000000000) (by omega) hw
  unfold cap
  by_cases q : 1000000000 < w
  · rw [if_pos (h.mpr q), if_pos q]; rfl
  · rw [if_neg (fun z => q (h.mp z)), if_neg q]
theorem cap_M {w : Nat} (hw : w < 2 ^ 63) {β : Type} (A B : β) : (if lg_cmp (lN w) (1000000000 : Int64) ≤ 0 then A else B) = if 1000000000 < w then B else A := by
  have h : lg_cmp (lN w) (1000000000 : Int64) ≤ 0 ↔ w ≤ 1000000000 := lc_le (b := 1000000000) hw (by omega)
  by_cases q : 1000000000 < w
  · rw [if_neg (fun z => by have := h.mp z; omega), if_pos q]
  · rw [if_pos (h.mpr (by omega)), if_neg q]
def ctT (cy row : Nat → Nat) (y k : Nat) : Nat := if forceS cy (nI y) k = -1 then 0 else row (forceS cy (nI y) k).toNatClampNeg
def ctm (a : AS) (k : Nat) : Nat := ctT (a.2 2) (a.2 (3 + k)) (a.1 1) (a.1 3)
def frc (a : AS) : Int32 := forceS (a.2 2) (nI (a.1 1)) (a.1 3)
theorem frc_cases {a : AS} (h4 : Inv a) : (frc a = -1 ∧ ∀ k, ctm a k = 0) ∨ ∃ j, j < a.1 3 ∧ j < 20 ∧ frc a = nI j ∧ ∀ k, ctm a k = a.2 (3 + k) j := by
  have hc : a.1 3 ≤ 20 := h4.2.2.2.1
  rcases forceS_cases (a.2 2) (nI (a.1 1)) (a.1 3) with e | ⟨j, hj, e⟩
  · refine Or.inl ⟨e, fun k => ?_⟩
    unfold ctm ctT
    rw [if_pos e]
  · refine Or.inr ⟨j, hj, by omega, e, fun k => ?_⟩
    unfold ctm ctT
    rw [e, if_neg (q_m1 (by omega)), q_cl (by omega)]
theorem ctm_le {a : AS} (h4 : Inv a) {k : Nat} (hk : k < 6) : ctm a k ≤ 1000 := by
  rcases frc_cases h4 with ⟨_, e⟩ | ⟨j, hj, _, _, e⟩
  · rw [e k]; omega
  · rw [e k]; exact (h4.2.2.2.2.2.2.1 j hj).2 k hk
theorem M_term {τ : SS} {b : AS} {fu k : Nat} (hfu : 1000 ≤ fu) (hM : RM τ b) (h4 : Inv b) (hk : k < 6) : f_X8_term fu τ (nI k) = some (nI (ctm b k)) := by
  have e9 : f_X8_forceOf fu τ (nI (b.1 1)) = some (frc b) := M_forceOf (τ := τ) (y := nI (b.1 1)) hfu h4.2.2.2.1 hM.1.2.2.2.1 (fun i hi => (hM.2.2.1 i hi).1) (fun i hi => (h4.2.2.2.2.2.2.1 i hi).1)
  unfold f_X8_term
  rw [hM.1.2.1, e9, bnd1_some]
  rcases frc_cases h4 with ⟨e1, e⟩ | ⟨j, hj, hj2, e1, e⟩
  · rw [e1, if_neg (by decide), e k]
    rfl
  · have e6 : (6 : Int32) * nI j + nI k = nI (6 * j + k) := by
      rw [show (6 : Int32) = nI 6 from rfl, q_mul, q_add]
    rw [e1, if_pos (q_0le (by omega)), e6, if_pos ((q_in (by omega)).mpr (by omega)), q_cl (by omega), (hM.2.2.1 j hj).2 k hk, e k]
theorem X_force {σ : SS} {a : AS} {fu : Nat} (hfu : 1000 ≤ fu) (h1 : RX σ a) (h4 : Inv a) : f_X2_inForce fu σ (σ.1 0) = some (frc a) := by
  rw [h1.1.2.1]
  exact X_inForce (σ := σ) (y := nI (a.1 1)) hfu h4.2.2.2.1 h1.1.2.2.2.1 (fun i hi => (h1.2.2.1 i hi).1) (fun i hi => (h4.2.2.2.2.2.2.1 i hi).1)
def grw (p q v : Nat) : Nat := if q = 0 then v else cap (v + v * p / q)
theorem grw_le {p q v : Nat} (hv : v ≤ 1000000000) : grw p q v ≤ 1000000000 := by
  unfold grw
  split
  · exact hv
  · exact cap_le _
theorem vp_le {v p q : Nat} (hv : v ≤ 1000000000) (hp : p ≤ 1000) : v * p ≤ 1000000000000 ∧ v * p / q ≤ 1000000000000 := by
  have h1 : v * p ≤ 1000000000 * 1000 := Nat.mul_le_mul hv hp
  have h2 : v * p / q ≤ v * p := Nat.div_le_self _ _
  omega
theorem lN_ne0 {q : Nat} (h0 : q ≠ 0) (hq : q < 2 ^ 63) : ¬ lN q = 0 := fun z => h0 ((pk_lEQ (b := 0) hq (by omega)).mp z)
theorem X_grown {σ : SS} {a : AS} {fu v : Nat} (h1 : RX σ a) (h4 : Inv a) (hv : v ≤ 1000000000) : f_X2_grown fu σ (frc a) (nI v) = some (nI (grw (ctm a 3) (ctm a 4) v)) := by
  rcases frc_cases h4 with ⟨e1, e⟩ | ⟨j, hj, hj2, e1, e⟩
  · rw [e1, f_X2_grown, if_pos rfl, f_X2_grown_15, if_pos rfl, e 4, grw, if_pos rfl]
  · obtain ⟨c1, c2, c3, c4, c5, c6⟩ := h1.2.2.1 j hj
    have b3 : a.2 6 j ≤ 1000 := (h4.2.2.2.2.2.2.1 j hj).2 3 (by omega)
    have b4 : a.2 7 j ≤ 1000 := (h4.2.2.2.2.2.2.1 j hj).2 4 (by omega)
    have e3 : ctm a 3 = a.2 6 j := e 3
    have e4 : ctm a 4 = a.2 7 j := e 4
    rw [e1, f_X2_grown, if_neg (q_m1 (by omega)), if_pos ((q_in (by omega)).mpr hj2), q_cl (by omega), c3, f_X2_grown_15, e3, e4]
    by_cases z : a.2 7 j = 0
    · rw [if_pos ((q_eq0 (by omega)).mpr z), grw, if_pos z]
    · have hw := vp_le (q := a.2 7 j) hv b3
      rw [if_neg (fun y => z ((q_eq0 (by omega)).mp y)), if_pos ((q_in (by omega)).mpr hj2), q_cl (by omega), c6 z, nI_l (by omega), nI_l (by omega), nI_l (by omega), if_pos (lN_ne0 z (by omega)), lN_mul, pk_lDiv (by omega) (by omega) (by omega), lN_add, cap_L (by omega), lN_i, grw, if_neg z]
theorem grow_both {fu p q : Nat} {F : Int32} (hq : q ≠ 0) (k44 : SS → (Int32 × Int32) → Option (Int32 × SS)) (n y : Int32) : ∀ (m i fuel : Nat) (σ τ : SS) (a : AS), RR σ τ a → frc a = F → ctm a 3 = p → ctm a 4 = q → i + m = a.1 4 → m < fuel → ∃ (σ' τ' : SS) (a' : AS), loopN (fun k14 σ x => f_X7_growLoans_14 fu k14 σ x.1 x.2) fuel σ (F, nI i) = some ((), σ') ∧ loopN (fun k65 σ x => f_X8_wait_65 fu k44 k65 σ x.1 x.2.1 x.2.2.1 x.2.2.2.1 x.2.2.2.2) fuel τ (n, y, nI p, nI q, nI i) = f_X8_wait_156 fu k44 τ' n y ∧ RR σ' τ' a' ∧ a'.1 = a.1 ∧ τ'.1 = τ.1 := by
  intro m
  induction m with
  | zero =>
    intro i fuel σ τ a hR hF hp hq4 hi hf
    obtain ⟨f, rfl⟩ : ∃ f, fuel = f + 1 := ⟨fuel - 1, by omega⟩
    have hd : a.1 4 ≤ 400 := hR.2.2.2.1.2.2.2.2.1
    have hii : i = a.1 4 := by omega
    refine ⟨σ, τ, a, ?_, ?_, hR, rfl, rfl⟩
    · show f_X7_growLoans_14 fu _ σ F (nI i) = _
      rw [f_X7_growLoans_14, hR.1.1.2.2.2.2.1, hii, if_pos ((q_le (by omega) (by omega)).mpr (Nat.le_refl _))]
    · show f_X8_wait_65 fu k44 _ τ n y (nI p) (nI q) (nI i) = _
      rw [f_X8_wait_65, hR.2.1.1.2.2.2.2.1, hii, if_pos ((q_le (by omega) (by omega)).mpr (Nat.le_refl _))]
  | succ m ih =>
    intro i fuel σ τ a hR hF hp hq4 hi hf
    obtain ⟨f, rfl⟩ : ∃ f, fuel = f + 1 := ⟨fuel - 1, by omega⟩
    have hd : a.1 4 ≤ 400 := hR.2.2.2.1.2.2.2.2.1
    have hlt : i < a.1 4 := by omega
    obtain ⟨s1, s2, s3, s4⟩ := hR.1.2.2.2.1 i hlt
    obtain ⟨t1, t2, t3, t4, t5⟩ := hR.2.1.2.2.2.1 i hlt
    obtain ⟨g1, g2, g3, g4⟩ := hR.2.2.2.1.2.2.2.2.2.2.2.1 i hlt
    have hp1 : p ≤ 1000 := by rw [← hp]; exact ctm_le hR.2.2.2.1 (by omega)
    have hq1 : q ≤ 1000 := by rw [← hq4]; exact ctm_le hR.2.2.2.1 (by omega)
    have hin : inB (nI i) 400 := (q_in (by omega)).mpr (by omega)
    show ∃ (σ' τ' : SS) (a' : AS), f_X7_growLoans_14 fu (loopN _ f) σ F (nI i) = some ((), σ') ∧ f_X8_wait_65 fu k44 (loopN _ f) τ n y (nI p) (nI q) (nI i) = f_X8_wait_156 fu k44 τ' n y ∧ RR σ' τ' a' ∧ a'.1 = a.1 ∧ τ'.1 = τ.1
    have hle : ¬ nI (a.1 4) ≤ nI i := fun z => by have := (q_le (by omega) (by omega)).mp z; omega
    have hq0 : ¬ nI q ≤ 0 := fun z => hq ((q_le0 (by omega)).mp z)
    rw [f_X7_growLoans_14, hR.1.1.2.2.2.2.1, if_neg hle, X_isLoan (by omega) s4 g4, bnd1_some, f_X8_wait_65, hR.2.1.1.2.2.2.2.1, if_neg hle, if_neg hq0, if_pos hin, if_pos hin, q_cl (show i < 2000000000 by omega), t4, t3, s3]
    by_cases z : a.2 13 i = 0
    · have eG : f_X2_grown fu σ F (nI (a.2 12 i)) = some (nI (grw p q (a.2 12 i))) := by
        rw [← hF, ← hp, ← hq4]
        exact X_grown hR.1 hR.2.2.2.1 g3
      have hw := vp_le (q := q) g3 hp1
      have eW : (sL τ 17 i (lN (a.2 12 i + a.2 12 i * p / q))).2.2 17 i = lN (a.2 12 i + a.2 12 i * p / q) := by
        rw [sL_3, if_pos ⟨rfl, rfl⟩]
      have ez : (if a.2 13 i = 0 then (1 : Int32) else 0) = 1 := if_pos z
      rw [ez, if_neg i10, if_neg i10, eG, bnd1_some, f_X7_growLoans_62, q_inc, nI_l (by omega), nI_l (by omega), if_pos (lN_ne0 hq (by omega)), lN_mul, pk_lDiv (by omega) (by omega) (by omega), lN_add, eW, cap_M (by omega), f_X8_wait_149, f_X8_wait_149, if_pos hin, if_pos hin, q_cl (by omega), f_X8_wait_150, f_X8_wait_150, q_inc]
      have eC : grw p q (a.2 12 i) = cap (a.2 12 i + a.2 12 i * p / q) := by rw [grw, if_neg hq]
      have eA : aA (aA a 12 i (a.2 12 i + a.2 12 i * p / q)) 12 i (cap (a.2 12 i + a.2 12 i * p / q)) = aA a 12 i (cap (a.2 12 i + a.2 12 i * p / q)) := aA_idem
      have R2 : RR (sA σ 24 i (nI (cap (a.2 12 i + a.2 12 i * p / q)))) (sL (sL τ 17 i (lN (a.2 12 i + a.2 12 i * p / q))) 17 i (lN (cap (a.2 12 i + a.2 12 i * p / q)))) (aA a 12 i (cap (a.2 12 i + a.2 12 i * p / q))) := by
        refine ⟨RX_dl hR.1, ?_, RC_eq hR.2.2.1 rfl rfl rfl rfl rfl rfl, Inv_dl hR.2.2.2.1 (cap_le _), InvB_ne hR.2.2.2.2 (by omega)⟩
        rw [← eA]
        exact RM_dl (RM_dl hR.2.1)
      obtain ⟨σ', τ', a', r1, r2, r3, r4, r5⟩ := ih (i + 1) f _ _ _ R2 hF hp hq4 (show i + 1 + m = a.1 4 by omega) (by omega)
      refine ⟨σ', τ', a', ?_, ?_, r3, r4, r5⟩
      · rw [eC]
        exact r1
      · rw [← r2]
        by_cases c : 1000000000 < a.2 12 i + a.2 12 i * p / q
        · rw [if_pos c, show cap (a.2 12 i + a.2 12 i * p / q) = 1000000000 from if_pos c]
          rfl
        · rw [if_neg c, show cap (a.2 12 i + a.2 12 i * p / q) = a.2 12 i + a.2 12 i * p / q from if_neg c]
    · have ez : (if a.2 13 i = 0 then (1 : Int32) else 0) = 0 := if_neg z
      rw [ez, if_pos rfl, if_pos rfl, f_X7_growLoans_62, q_inc, f_X8_wait_150, q_inc]
      exact ih (i + 1) f _ _ _ hR hF hp hq4 (by omega) (by omega)
theorem grow_X0 {fu : Nat} {F : Int32} {τ : SS} {a : AS} (h4 : Inv a) (hF : frc a = F) (hq : ctm a 4 = 0) : ∀ (m i fuel : Nat) (σ : SS), RX σ a → RC σ τ → i + m = a.1 4 → m < fuel → ∃ σ' : SS, loopN (fun k14 σ x => f_X7_growLoans_14 fu k14 σ x.1 x.2) fuel σ (F, nI i) = some ((), σ') ∧ RX σ' a ∧ RC σ' τ := by
  have hd : a.1 4 ≤ 400 := h4.2.2.2.2.1
  intro m
  induction m with
  | zero =>
    intro i fuel σ h1 h3 hi hf
    obtain ⟨f, rfl⟩ : ∃ f, fuel = f + 1 := ⟨fuel - 1, by omega⟩
    have hii : i = a.1 4 := by omega
    refine ⟨σ, ?_, h1, h3⟩
    show f_X7_growLoans_14 fu _ σ F (nI i) = _
    rw [f_X7_growLoans_14, h1.1.2.2.2.2.1, hii, if_pos ((q_le (by omega) (by omega)).mpr (Nat.le_refl _))]
  | succ m ih =>
    intro i fuel σ h1 h3 hi hf
    obtain ⟨f, rfl⟩ : ∃ f, fuel = f + 1 := ⟨fuel - 1, by omega⟩
    have hlt : i < a.1 4 := by omega
    obtain ⟨s1, s2, s3, s4⟩ := h1.2.2.2.1 i hlt
    obtain ⟨g1, g2, g3, g4⟩ := h4.2.2.2.2.2.2.2.1 i hlt
    have hin : inB (nI i) 400 := (q_in (by omega)).mpr (by omega)
    show ∃ σ' : SS, f_X7_growLoans_14 fu (loopN _ f) σ F (nI i) = some ((), σ') ∧ RX σ' a ∧ RC σ' τ
    rw [f_X7_growLoans_14, h1.1.2.2.2.2.1, if_neg (fun z => by have := (q_le (by omega) (by omega)).mp z; omega), X_isLoan (by omega) s4 g4, bnd1_some, if_pos hin, q_cl (by omega), s3]
    by_cases z : a.2 13 i = 0
    · have eG : f_X2_grown fu σ F (nI (a.2 12 i)) = some (nI (a.2 12 i)) := by
        rw [← hF, X_grown h1 h4 g3, hq, grw, if_pos rfl]
      rw [if_pos z, if_neg i10, eG, bnd1_some, f_X7_growLoans_62, q_inc]
      have r : RX (sA σ 24 i (nI (a.2 12 i))) a := by
        have := RX_dl (j := i) (v := a.2 12 i) h1
        rwa [aA_self] at this
      exact ih (i + 1) f _ r (RC_eq h3 rfl rfl rfl rfl rfl rfl) (by omega) (by omega)
    · rw [if_neg z, if_pos rfl, f_X7_growLoans_62, q_inc]
      exact ih (i + 1) f _ h1 h3 (by omega) (by omega)
theorem year_both {fu n : Nat} (hfu : 1000 ≤ fu) (hn : n ≤ 100) : ∀ (m y fuel : Nat) (σ τ : SS) (a : AS), RR σ τ a → y + m = n → a.1 1 + m ≤ 1000 → m < fuel → ∃ (v : Int32) (σ' τ' : SS), loopN (fun k34 σ x => f_X7_wait_34 fu k34 σ x.1 x.2) fuel σ (nI n, nI y) = some (.inl v, σ') ∧ loopN (fun k44 σ x => f_X8_wait_44 fu k44 σ x.1 x.2) fuel τ (nI n, nI y) = some (v, τ') ∧ Rel σ' τ' ∧ τ'.1 0 = τ.1 0 := by
  intro m
  induction m with
  | zero =>
    intro y fuel σ τ a hR hy hn2 hf
    obtain ⟨f, rfl⟩ : ∃ f, fuel = f + 1 := ⟨fuel - 1, by omega⟩
    have hyy : y = n := by omega
    refine ⟨nI (a.1 1), σ, τ, ?_, ?_, RR_rel hR, rfl⟩
    · show f_X7_wait_34 fu _ σ (nI n) (nI y) = _
      rw [f_X7_wait_34, hyy, if_pos ((q_le (by omega) (by omega)).mpr (Nat.le_refl _)), hR.1.1.2.1]
    · show f_X8_wait_44 fu _ τ (nI n) (nI y) = _
      rw [f_X8_wait_44, hyy, if_pos ((q_le (by omega) (by omega)).mpr (Nat.le_refl _)), hR.2.1.1.2.1]
  | succ m ih =>
    intro y fuel σ τ a hR hy hn2 hf
    obtain ⟨f, rfl⟩ : ∃ f, fuel = f + 1 := ⟨fuel - 1, by omega⟩
    have hd : a.1 4 ≤ 400 := hR.2.2.2.1.2.2.2.2.1
    have t3 : f_X8_term fu τ (3 : Int32) = some (nI (ctm a 3)) := M_term (k := 3) hfu hR.2.1 hR.2.2.2.1 (by omega)
    have t4 : f_X8_term fu τ (4 : Int32) = some (nI (ctm a 4)) := M_term (k := 4) hfu hR.2.1 hR.2.2.2.1 (by omega)
    have hq1 : ctm a 4 ≤ 1000 := ctm_le hR.2.2.2.1 (by omega)
    have hyn : ¬ nI n ≤ nI y := fun z => by have := (q_le (by omega) (by omega)).mp z; omega
    show ∃ (v : Int32) (σ' τ' : SS), f_X7_wait_34 fu (loopN (fun k34 σ x => f_X7_wait_34 fu k34 σ x.1 x.2) f) σ (nI n) (nI y) = some (.inl v, σ') ∧ f_X8_wait_44 fu (loopN (fun k44 σ x => f_X8_wait_44 fu k44 σ x.1 x.2) f) τ (nI n) (nI y) = some (v, τ') ∧ Rel σ' τ' ∧ τ'.1 0 = τ.1 0
    rw [f_X7_wait_34, if_neg hyn, f_X7_growLoans, X_force hfu hR.1 hR.2.2.2.1, bnd1_some, f_X7_growLoans_L14, f_X8_wait_44, if_neg hyn, t3, bnd1_some, t4, bnd1_some, f_X8_wait_L65]
    have key : ∃ (σ1 τ1 : SS) (a1 : AS), loopN (fun k14 σ x => f_X7_growLoans_14 fu k14 σ x.1 x.2) fu σ (frc a, 0) = some ((), σ1) ∧ loopN (fun k65 σ x => f_X8_wait_65 fu (loopN (fun k44 σ x => f_X8_wait_44 fu k44 σ x.1 x.2) f) k65 σ x.1 x.2.1 x.2.2.1 x.2.2.2.1 x.2.2.2.2) fu τ (nI n, nI y, nI (ctm a 3), nI (ctm a 4), 0) = f_X8_wait_156 fu (loopN (fun k44 σ x => f_X8_wait_44 fu k44 σ x.1 x.2) f) τ1 (nI n) (nI y) ∧ RR σ1 τ1 a1 ∧ a1.1 = a.1 ∧ τ1.1 = τ.1 := by
      by_cases hq : ctm a 4 = 0
      · obtain ⟨σ1, g1, g2, g3⟩ := grow_X0 (fu := fu) (τ := τ) hR.2.2.2.1 rfl hq (a.1 4) 0 fu σ hR.1 hR.2.2.1 (by omega) (by omega)
        refine ⟨σ1, τ, a, g1, ?_, ⟨g2, hR.2.1, g3, hR.2.2.2.1, hR.2.2.2.2⟩, rfl, rfl⟩
        obtain ⟨f2, hf2⟩ : ∃ f2, fu = f2 + 1 := ⟨fu - 1, by omega⟩
        rw [show loopN (fun k65 σ x => f_X8_wait_65 fu (loopN (fun k44 σ x => f_X8_wait_44 fu k44 σ x.1 x.2) f) k65 σ x.1 x.2.1 x.2.2.1 x.2.2.2.1 x.2.2.2.2) fu = loopN (fun k65 σ x => f_X8_wait_65 fu (loopN (fun k44 σ x => f_X8_wait_44 fu k44 σ x.1 x.2) f) k65 σ x.1 x.2.1 x.2.2.1 x.2.2.2.1 x.2.2.2.2) (f2 + 1) by rw [← hf2]]
        show f_X8_wait_65 fu _ _ τ (nI n) (nI y) (nI (ctm a 3)) (nI (ctm a 4)) 0 = _
        rw [f_X8_wait_65, if_pos (show nI (ctm a 4) ≤ 0 from (q_le0 (by omega)).mpr hq)]
        split <;> rfl
      · exact grow_both (fu := fu) hq _ (nI n) (nI y) (a.1 4) 0 fu σ τ a hR rfl rfl rfl (by omega) (by omega)
    obtain ⟨σ1, τ1, a1, k1, k2, R1, k4, k5⟩ := key
    have e1 : a1.1 1 = a.1 1 := by rw [k4]
    have R2 : RR (sI σ1 0 (nI (a1.1 1 + 1))) (sI τ1 5 (nI (a1.1 1 + 1))) (aI a1 1 (a1.1 1 + 1)) := ⟨RX_now R1.1, RM_now R1.2.1, RC_eq R1.2.2.1 rfl rfl rfl rfl rfl rfl, Inv_now R1.2.2.2.1 (by omega), InvB_I R1.2.2.2.2 (by omega)⟩
    rw [k1, bnd_some, k2, f_X8_wait_156, q_inc, R1.1.1.2.1, R1.2.1.1.2.1, q_inc]
    obtain ⟨v, σ', τ', r1, r2, r3, r4⟩ := ih (y + 1) f _ _ _ R2 (by omega) (show a1.1 1 + 1 + m ≤ 1000 by omega) (by omega)
    refine ⟨v, σ', τ', r1, r2, r3, ?_⟩
    rw [r4, ← k5]
    rfl
theorem sim_wait {fu : Nat} (hfu : 1000 ≤ fu) : Sim_wait fu Rel := by
  intro σ τ h x1
  have h0 := h
  obtain ⟨a, hR⟩ := h
  have hnow : a.1 1 ≤ 1000 := hR.2.2.2.1.2.1
  have hbad : f_X8_wait_28 fu (sI τ 0 0) x1 = some (0, sI (sI τ 0 0) 0 1) := by
    rw [f_X8_wait_28, f_X8_wait_33, b_no, bnd_some, if_neg i10]
  have no : f_X7_wait fu σ x1 = some (.inr 0, σ) → f_X8_wait fu τ x1 = some (0, sI (sI τ 0 0) 0 1) → (∃ (v : Int32) (σ' : SS) (τ' : SS), f_X7_wait fu σ x1 = some (.inl v, σ') ∧ f_X8_wait fu τ x1 = some (v, τ') ∧ τ'.1 0 = 0 ∧ Rel σ' τ') ∨ (∃ (v : Int32) (σ' : SS) (τ' : SS), f_X7_wait fu σ x1 = some (.inr 0, σ') ∧ f_X8_wait fu τ x1 = some (v, τ') ∧ τ'.1 0 = 1 ∧ Rel σ' τ') :=
    fun e1 e2 => Or.inr ⟨0, σ, _, e1, e2, rfl, Rel_thrown (Rel_thrown h0)⟩
  by_cases q1 : x1 < 0
  · exact no (by rw [f_X7_wait, if_pos q1, f_X7_wait_22]) (by rw [f_X8_wait, if_pos q1, hbad])
  by_cases q2 : (100 : Int32) < x1
  · exact no (by rw [f_X7_wait, if_neg q1, if_pos q2, f_X7_wait_22]) (by rw [f_X8_wait, if_neg q1, if_pos q2, hbad])
  obtain ⟨n, hn, rfl⟩ := nI_of2 (M := 100) (n := 100) rfl q1 (Int32.not_lt.mp q2)
  have e1 : σ.1 0 + nI n = nI (a.1 1 + n) := by rw [hR.1.1.2.1, q_add]
  have e2 : τ.1 5 + nI n = nI (a.1 1 + n) := by rw [hR.2.1.1.2.1, q_add]
  by_cases q3 : a.1 1 + n ≤ 1000
  · have q4 : nI (a.1 1 + n) ≤ (1000 : Int32) := (q_le (b := 1000) (by omega) (by omega)).mpr q3
    obtain ⟨v, σ', τ', r1, r2, r3, r4⟩ := year_both (fu := fu) hfu hn n 0 fu _ _ _ (RR_thrown (v := 0) hR) (by omega) q3 (by omega)
    refine Or.inl ⟨v, σ', τ', ?_, ?_, r4, r3⟩
    · rw [f_X7_wait, if_neg q1, if_neg q2, e1, if_pos q4, f_X7_wait_L34]
      exact r1
    · rw [f_X8_wait, if_neg q1, if_neg q2, e2, if_pos q4, f_X8_wait_33, b_ok, bnd_some, if_pos rfl, f_X8_wait_L44]
      exact r2
  · have q4 : ¬ nI (a.1 1 + n) ≤ (1000 : Int32) := fun z => q3 ((q_le (b := 1000) (by omega) (by omega)).mp z)
    exact no (by rw [f_X7_wait, if_neg q1, if_neg q2, e1, if_neg q4, f_X7_wait_22]) (by rw [f_X8_wait, if_neg q1, if_neg q2, e2, if_neg q4, hbad])
